/-! both sides tell the same: a star's numbers, what is near, what is sound -/
theorem nI_inj {a b : Nat} (ha : a < 2 ^ 31) (hb : b < 2 ^ 31) (e : nI a = nI b) : a = b := (nI_eq ha hb).mp e
theorem crS_N {f g : Nat → Int32} : ∀ m, m ≤ 8 → (∀ i, i < m → ∃ a b : Nat, f i = nI a ∧ g i = nI b ∧ 1 ≤ a ∧ a ≤ 99 ∧ 1 ≤ b ∧ b ≤ 99) → ∃ C : Nat, crS f g m = nI C ∧ 10 * m ≤ C ∧ C ≤ 99000 * m := by
  intro m
  induction m with
  | zero => intro _ _; exact ⟨0, rfl, Nat.le_refl _, Nat.le_refl _⟩
  | succ m ih =>
    intro h8 h
    obtain ⟨C, e, h1, h2⟩ := ih (by omega) (fun i hi => h i (by omega))
    obtain ⟨a, b, ea, eb, a1, a2, b1, b2⟩ := h m (by omega)
    have hd : 1000 * a / b ≤ 99000 := Nat.le_trans (Nat.div_le_self _ _) (by omega)
    have hd2 : 10 ≤ 1000 * a / b := (Nat.le_div_iff_mul_le (by omega)).mpr (by omega)
    refine ⟨C + 1000 * a / b, ?_, by omega, by omega⟩
    rw [crS, e, ea, eb, show (1000 : Int32) = nI 1000 from rfl, nI_mul, pk_div (by omega) (by omega) (by omega), nI_add]
theorem wtS_N {f : Nat → Int32} : ∀ m, m ≤ 8 → (∀ i, i < m → ∃ a : Nat, f i = nI a ∧ 1 ≤ a ∧ a ≤ 99) → ∃ C : Nat, wtS f m = nI C ∧ m ≤ C ∧ C ≤ 99 * m := by
  intro m
  induction m with
  | zero => intro _ _; exact ⟨0, rfl, Nat.le_refl _, Nat.le_refl _⟩
  | succ m ih =>
    intro h8 h
    obtain ⟨C, e, h1, h2⟩ := ih (by omega) (fun i hi => h i (by omega))
    obtain ⟨a, ea, a1, a2⟩ := h m (by omega)
    exact ⟨C + a, by rw [wtS, e, ea, nI_add], by omega, by omega⟩
theorem imax_N {a b : Nat} (ha : a ≤ 99) (hb : b ≤ 99) : imax 0 (nI a - nI b) = nI (a - b) := by
  have e : (nI a - nI b).toInt = (a : Int) - b := by
    rw [Int32.toInt_sub, nI_toInt (by omega), nI_toInt (by omega), bm32 (by omega) (by omega)]
  rw [imax]
  by_cases h : b < a
  · rw [if_pos (by rw [Int32.lt_iff_toInt_lt, e, Int32.toInt_zero]; omega)]
    apply Int32.toInt_inj.mp
    rw [e, nI_toInt (by omega)]; omega
  · rw [if_neg (by rw [Int32.lt_iff_toInt_lt, e, Int32.toInt_zero]; omega), show a - b = 0 by omega]; rfl
theorem slS_N {g : Nat → Int32} : ∀ m, m ≤ 8 → (∀ i, i < m → ∃ b : Nat, g i = nI b ∧ b ≤ 99) → ∃ C : Nat, slS g m = nI C ∧ C ≤ 99 * m := by
  intro m
  induction m with
  | zero => intro _ _; exact ⟨0, rfl, Nat.le_refl _⟩
  | succ m ih =>
    intro h8 h
    match m, ih, h with
    | 0, _, _ => exact ⟨0, rfl, Nat.zero_le _⟩
    | j + 1, ih, h =>
      obtain ⟨C, e, h1⟩ := ih (by omega) (fun i hi => h i (by omega))
      obtain ⟨a, ea, a2⟩ := h j (by omega)
      obtain ⟨b, eb, b2⟩ := h (j + 1) (by omega)
      refine ⟨C + (a - b), ?_, by omega⟩
      rw [slS, e, ea, eb, imax_N a2 b2, nI_add]
/-- a tone stays small -/
theorem rg1_sm {t c d : Int32} (ht : sm29 t) (hc : sm29 c) : -(2 : Int) ^ 29 - 250 < (rg1 t c d).toInt ∧ (rg1 t c d).toInt < (2 : Int) ^ 29 + 250 := by
  have e := sub_ti ht hc
  have ea := iabs_ti (a := t - c) (by omega) (by omega)
  rw [rg1]
  split
  · split
    · rename_i h
      have h9 : ¬ iabs (t - c) < 0 := fun z => by
        rw [Int32.lt_iff_toInt_lt, ea, Int32.toInt_zero] at z; omega
      obtain ⟨a, ha, hx⟩ := nI_of h9
      have h5 : a < 500 := by
        rw [hx, show (500 : Int32) = nI 500 from rfl, nI_ltI ha (by omega)] at h; exact h
      have e5 : (500 : Int32) - iabs (t - c) = nI (500 - a) := by
        rw [hx]
        apply Int32.toInt_inj.mp
        rw [Int32.toInt_sub, nI_toInt (by omega), nI_toInt (by omega), show (500 : Int32).toInt = 500 by decide, bm32 (by omega) (by omega)]
        omega
      have e6 : ((500 : Int32) - iabs (t - c)) / 2 = nI ((500 - a) / 2) := by
        rw [e5, show (2 : Int32) = nI 2 from rfl, pk_div (by omega) (by omega) (by omega)]
      have hq : (500 - a) / 2 ≤ 250 := by omega
      rw [e6]
      generalize (500 - a) / 2 = q at hq
      split
      · have e7 : (-nI q).toInt = -(q : Int) := by
          rw [Int32.toInt_neg, nI_toInt (by omega), bm32 (by omega) (by omega)]
        rw [Int32.toInt_add, e7, bm32 (by omega) (by omega)]; omega
      · rw [Int32.toInt_add, nI_toInt (by omega), bm32 (by omega) (by omega)]; omega
    · omega
  · omega
theorem near_ne {I J : aI} {b k la sm co ln : Nat} (e6 : I b 6 = nI la) (e7 : I b 7 = nI sm) (e9 : I b 9 = nI co) (h1 : la ≤ 1000000) (h2 : sm ≤ 1000) (h3 : co ≤ 4000000) (f6 : J 27 k = I b 6) (f7 : J 28 k = I b 7) (f8 : J 29 k = I b 8) (f9 : J 30 k = I b 9) (hl : ln < 32) : nearS I b (40000 * nI ln) ↔ neM J k (40000 * nI ln) := by
  have ex : (40000 : Int32) * nI ln = nI (40000 * ln) := by rw [show (40000 : Int32) = nI 40000 from rfl, nI_mul]
  have key : ∀ o d : Nat, o ≤ 12 → d ≤ 2 → (iabs (rgS I b (nI o) (nI d) 0 - 40000 * nI ln) < 20000 ↔ neN J k (40000 * nI ln) o d) := by
    intro o d ho hd
    rw [neN, tnI, rgS, f6, f7, f8, f9, e6, e7, e9, tn_rg h1 h2 h3 ho (by omega), ex]
    have er : rgD (nI la) (nI sm) (I b 8) (nI co) (nI o) (nI d) 0 = rg1 (rg0 (nI la) (nI sm) (nI o) (nI d)) (nI co) (nI d) := by
      rw [rgD, Int32.mul_zero, Int32.add_zero]
    have hb := rg1_sm (t := rg0 (nI la) (nI sm) (nI o) (nI d)) (c := nI co) (d := nI d) (rg0_sm h1 h2 ho (by omega)) (nI_sm (by omega))
    rw [er]
    generalize rg1 (rg0 (nI la) (nI sm) (nI o) (nI d)) (nI co) (nI d) = z at *
    have es : (z - nI (40000 * ln)).toInt = z.toInt - (40000 * ln : Nat) := by
      rw [Int32.toInt_sub, nI_toInt (by omega), bm32 (by omega) (by omega)]
    rw [sz_abs (by omega) (by omega), Int32.lt_iff_toInt_lt, Int64.lt_iff_toInt_lt, Int32.toInt_toInt64]
    exact Iff.rfl
  constructor
  · rintro ⟨o, d, a, b1, c, e⟩
    exact ⟨o, d, a, c, Or.inl b1, (key o d b1 c).mp e⟩
  · rintro ⟨o, d, a, c, e1, e2⟩
    have b1 : o ≤ 12 := by omega
    exact ⟨o, d, a, b1, c, (key o d b1 c).mpr e2⟩
/-- a star's light, as the class has it -/
abbrev qI (I : aI) : Nat → Nat → Bool := fun k => prs I (200 + 8 * k)
abbrev vI (I : aI) : Nat → Nat → Int64 := fun k => cts I (200 + 8 * k)
abbrev fI (I : aI) : Nat → Nat → Int32 := fun k i => I (200 + 8 * k + 6) i
theorem hl_eq {I J : aI} {L M : aL} {oo : Nat → Nat} {i s d la sm co ln : Nat} (c0 : J 42 i = I (100 + i) 0) (c2 : J 44 i = I (100 + i) 2) (c2n : I (100 + i) 2 = nI ln) (hl : ln < 32) (c3 : I (100 + i) 0 = 0 → J 45 i = I (100 + i) 3 ∧ M 47 i = L (100 + i) 5)
    (e6 : I (200 + 8 * s) 6 = nI la) (e7 : I (200 + 8 * s) 7 = nI sm) (e9 : I (200 + 8 * s) 9 = nI co) (h1 : la ≤ 1000000) (h2 : sm ≤ 1000) (h3 : co ≤ 4000000) (f6 : J 27 s = I (200 + 8 * s) 6) (f7 : J 28 s = I (200 + 8 * s) 7) (f8 : J 29 s = I (200 + 8 * s) 8) (f9 : J 30 s = I (200 + 8 * s) 9) :
    hlM J M (qI I) (vI I) (fI I) oo s d i ↔ hlP I L (100 + i) (200 + 8 * s) (min d (oo s)) := by
  rw [hlM, hlP, c0, c2, c2n]
  refine and_congr ⟨fun h z => ?_, fun h z => ?_⟩ ⟨fun h z => ?_, fun h z => ?_⟩
  · have h4 := h z
    rw [rpM, c2, c2n, (c3 z).1, (c3 z).2] at h4
    exact h4
  · rw [rpM, c2, c2n, (c3 z).1, (c3 z).2]
    exact h z
  · exact fun y => h z ((near_ne e6 e7 e9 h1 h2 h3 f6 f7 f8 f9 hl).mp y)
  · exact fun y => h z ((near_ne e6 e7 e9 h1 h2 h3 f6 f7 f8 f9 hl).mpr y)
