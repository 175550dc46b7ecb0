/-! the law: it builds a star -/
def nCr (f g : Nat → Nat) : Nat → Nat
  | 0 => 0
  | i + 1 => nCr f g i + 1000 * f i / g i
def nWt (f : Nat → Nat) : Nat → Nat
  | 0 => 0
  | i + 1 => nWt f i + f i
def nSp (f h : Nat → Nat) : Nat → Nat
  | 0 => 0
  | i + 1 => nSp f h i + f i * h i
def nSl (g : Nat → Nat) : Nat → Nat
  | 0 => 0
  | i + 1 => nSl g i + (if i = 0 then 0 else g (i - 1) - g i)
def aH (g : Nat → Nat) : Nat → Nat
  | 0 => 0
  | i + 1 => g i
def cO (g : Nat → Nat) : Nat → Nat
  | 0 => 0
  | _ + 1 => g 0
theorem aH_p {g : Nat → Nat} {i : Nat} (h : 0 < i) : aH g i = g (i - 1) := by
  match i, h with
  | i + 1, _ => rfl
theorem cO_p {g : Nat → Nat} {i : Nat} (h : 0 < i) : cO g (i + 1) = cO g i := by
  match i, h with
  | i + 1, _ => rfl
theorem cO_0 {g : Nat → Nat} {i : Nat} (h : 0 < i) : cO g i = g 0 := by
  match i, h with
  | i + 1, _ => rfl
section NB
variable {f g h : Nat → Nat} (hf : ∀ i, 1 ≤ f i ∧ f i ≤ 99) (hg : ∀ i, 1 ≤ g i ∧ g i ≤ 99) (hh : ∀ i, h i ≤ 9)
theorem nCr_b (hf : ∀ i, 1 ≤ f i ∧ f i ≤ 99) (hg : ∀ i, 1 ≤ g i ∧ g i ≤ 99) : ∀ m, 10 * m ≤ nCr f g m ∧ nCr f g m ≤ 99000 * m := by
  intro m
  induction m with
  | zero => exact ⟨Nat.le_refl _, Nat.le_refl _⟩
  | succ m ih =>
    have h1 := hf m
    have h2 := hg m
    have hd : 1000 * f m / g m ≤ 99000 := Nat.le_trans (Nat.div_le_self _ _) (by omega)
    have hd2 : 10 ≤ 1000 * f m / g m := (Nat.le_div_iff_mul_le (by omega)).mpr (by omega)
    rw [nCr]; omega
theorem nWt_b (hf : ∀ i, 1 ≤ f i ∧ f i ≤ 99) : ∀ m, m ≤ nWt f m ∧ nWt f m ≤ 99 * m := by
  intro m
  induction m with
  | zero => exact ⟨Nat.le_refl _, Nat.le_refl _⟩
  | succ m ih =>
    have h1 := hf m
    rw [nWt]; omega
theorem nSp_b (hf : ∀ i, 1 ≤ f i ∧ f i ≤ 99) (hh : ∀ i, h i ≤ 9) : ∀ m, nSp f h m ≤ 9 * nWt f m := by
  intro m
  induction m with
  | zero => exact Nat.le_refl _
  | succ m ih =>
    have h1 := hf m
    have h2 : f m * h m ≤ f m * 9 := Nat.mul_le_mul_left _ (hh m)
    rw [nSp, nWt]; omega
theorem nSl_b (hg : ∀ i, 1 ≤ g i ∧ g i ≤ 99) : ∀ m, nSl g m ≤ 99 * m := by
  intro m
  induction m with
  | zero => exact Nat.le_refl _
  | succ m ih =>
    have h1 := hg (m - 1)
    rw [nSl]
    split <;> omega
variable {F G H : Nat → Int32}
theorem crS_n (hf : ∀ i, 1 ≤ f i ∧ f i ≤ 99) (hg : ∀ i, 1 ≤ g i ∧ g i ≤ 99) : ∀ m, (∀ j, j < m → F j = nI (f j) ∧ G j = nI (g j)) → crS F G m = nI (nCr f g m) := by
  intro m
  induction m with
  | zero => intro _; rfl
  | succ m ih =>
    intro e
    have h1 := hf m
    have h2 := hg m
    rw [crS, ih (fun j hj => e j (by omega)), (e m (by omega)).1, (e m (by omega)).2, show (1000 : Int32) = nI 1000 from rfl, nI_mul, pk_div (by omega) (by omega) (by omega), nI_add, nCr]
theorem wtS_n : ∀ m, (∀ j, j < m → F j = nI (f j)) → wtS F m = nI (nWt f m) := by
  intro m
  induction m with
  | zero => intro _; rfl
  | succ m ih =>
    intro e
    rw [wtS, ih (fun j hj => e j (by omega)), e m (by omega), nI_add, nWt]
theorem spS_n : ∀ m, (∀ j, j < m → F j = nI (f j) ∧ H j = nI (h j)) → spS F H m = nI (nSp f h m) := by
  intro m
  induction m with
  | zero => intro _; rfl
  | succ m ih =>
    intro e
    rw [spS, ih (fun j hj => e j (by omega)), (e m (by omega)).1, (e m (by omega)).2, nI_mul, nI_add, nSp]
theorem slS_n (hg : ∀ i, 1 ≤ g i ∧ g i ≤ 99) : ∀ m, (∀ j, j < m → G j = nI (g j)) → slS G m = nI (nSl g m) := by
  intro m
  induction m with
  | zero => intro _; rfl
  | succ m ih =>
    intro e
    match m, ih, e with
    | 0, _, _ => rfl
    | j + 1, ih, e =>
      have h1 := hg j
      have h2 := hg (j + 1)
      rw [slS, ih (fun i hi => e i (by omega)), e j (by omega), e (j + 1) (by omega), imax_N (by omega) (by omega), nI_add]
      rfl
end NB
/-- the star that is built has i shells -/
def blt (I1 I : aI) (b i : Nat) (f g h : Nat → Nat) : Prop := (∀ a k, (a < b ∨ b + 3 < a) → I1 a k = I a k) ∧ (∀ k, k ≠ 3 → I1 b k = I b k) ∧ I1 b 3 = nI i ∧ ∀ j, j < i → I1 (b + 1) j = nI (f j) ∧ I1 (b + 2) j = nI (g j) ∧ I1 (b + 3) j = nI (h j)
theorem blt_s {I1 I : aI} {b i : Nat} {f g h : Nat → Nat} (H : blt I1 I b i f g h) : blt (au2 (au2 (au2 (au2 I1 (b + 1) i (nI (f i))) (b + 2) i (nI (g i))) (b + 3) i (nI (h i))) b 3 (nI (i + 1))) I b (i + 1) f g h := by
  obtain ⟨h1, h2, h3, h4⟩ := H
  refine ⟨fun a k hk => ?_, fun k hk => ?_, au2_s _ _ _ _, fun j hj => ?_⟩
  · rw [au2_n (by omega), au2_n (by omega), au2_n (by omega), au2_n (by omega)]; exact h1 a k hk
  · rw [au2_n (by omega), au2_n (by omega), au2_n (by omega), au2_n (by omega)]; exact h2 k hk
  · by_cases e : j = i
    · subst e
      refine ⟨?_, ?_, ?_⟩
      · rw [au2_n (by omega), au2_n (by omega), au2_n (by omega), au2_s]
      · rw [au2_n (by omega), au2_n (by omega), au2_s]
      · rw [au2_n (by omega), au2_s]
    · have h5 := h4 j (by omega)
      refine ⟨?_, ?_, ?_⟩
      · rw [au2_n (by omega), au2_n (by omega), au2_n (by omega), au2_n (by omega)]; exact h5.1
      · rw [au2_n (by omega), au2_n (by omega), au2_n (by omega), au2_n (by omega)]; exact h5.2.1
      · rw [au2_n (by omega), au2_n (by omega), au2_n (by omega), au2_n (by omega)]; exact h5.2.2
theorem aT_nil {p : Nat → Bool} (h : ∀ t, t < 256 → p t = false) : aT p = [] := by
  apply List.eq_nil_iff_forall_not_mem.mpr
  intro t ht
  have := tl_mem.mp ht
  rw [h t this.1] at this
  exact absurd this.2 (by decide)
abbrev rmL_builds : Room := { frames := 8, cells := 9, slots := 568, locals := 134 }
set_option maxHeartbeats 4000000 in
set_option maxRecDepth 100000 in
theorem s_L_builds {l : Launch} {E : aE} {S : aS} {I : aI} {L : aL} {Rf : aR} {Kr : aK} {Kx : aX} (hst : l.stackTraces = false) {n nc x y : Nat} (hC : lyC S Rf I n nc) (hn : n < 6) (h11 : S 11 = some (.inl (.int, 6))) (hc0 : I 11 0 = nI n) (h0 : I (200 + 8 * n) 3 = nI 0) (ho : I (200 + 8 * n) 13 = 0) (hcn : ∀ t, t < 256 → I (200 + 8 * n + 4) t = -1) (hsb : ∀ t, t < 256 → I (200 + 8 * n + 5) t = 0) (hx9 : x < 2 ^ 30) (hy9 : y < 2 ^ 30) (hk : ∀ S' I' L' R', lyC S' R' I' (n + 1) nc → zS I' n → (∀ a k, a < 200 + 8 * (n + 1) → a ≠ 7 → a ≠ 8 → a ≠ 9 → ¬ (200 + 8 * n ≤ a ∧ a ≤ 200 + 8 * n + 3) → ¬ (a = 3 ∧ k = 1) → ¬ (a = 11 ∧ k = 0) → I' a k = I a k) → I' 11 0 = nI (n + 1) → I' (200 + 8 * n) 13 = 0 → I' (200 + 8 * (n + 1)) 3 = 0 → I' (200 + 8 * (n + 1)) 13 = 0 → (∀ t, t < 256 → I' (200 + 8 * (n + 1) + 4) t = -1) → (∀ t, t < 256 → I' (200 + 8 * (n + 1) + 5) t = 0) → (∀ a k, a < 200 + 8 * (n + 1) → a ≠ 7 → a ≠ 8 → a ≠ 9 → L' a k = L a k) → (∀ a, a < 200 + 8 * (n + 1) → S' a = S a) → Kr (some (.int (nI 1))) S' I' L' R') : aMet l E yL_builds cL_builds 16 (some .boolean) rmL_builds [.ref 3, .int (nI x), .int (nI y), .ref 11] S I L Rf Kr Kx := by
  refine aMet.of (lv0 := [.ref 3, .int (nI x), .int (nI y), .ref 11, aU, aU, aU, aU, aU, aU, aU, aU, aU, aU, aU, aU]) (z := 12) (by decide +kernel) hst rfl (Nat.le_of_ble_eq_true rfl) ?_
  intro p e s m args below meth c io0 hx hin hno
  have hx : aCx p l s m args meth c RL cL_builds 16 (some .boolean) E := hx
  have hX := hC.1
  obtain ⟨b, hbe⟩ : ∃ b, b = 200 + 8 * n := ⟨_, rfl⟩
  obtain ⟨many, hmy⟩ : ∃ m, m = 1 + x % 3 := ⟨_, rfl⟩
  obtain ⟨ff, hff⟩ : ∃ f : Nat → Nat, ∀ j, f j = 1 + (x / 3 + 31 * j) % 99 := ⟨_, fun _ => rfl⟩
  obtain ⟨gg, hgg⟩ : ∃ f : Nat → Nat, ∀ j, f j = 1 + (y / 3 + 47 * j) % 99 := ⟨_, fun _ => rfl⟩
  obtain ⟨hh, hhh⟩ : ∃ f : Nat → Nat, ∀ j, f j = (y / 300 + j) % 10 := ⟨_, fun _ => rfl⟩
  have f9 : ∀ i, 1 ≤ ff i ∧ ff i ≤ 99 := fun i => by rw [hff]; omega
  have g9 : ∀ i, 1 ≤ gg i ∧ gg i ≤ 99 := fun i => by rw [hgg]; omega
  have h9 : ∀ i, hh i ≤ 9 := fun i => by rw [hhh]; omega
  rw [← hbe] at h0 ho hcn hsb
  have loop1 : ∀ (r i : Nat) (I1 : aI) (w13 w14 w15 : Value), i + r = many → blt I1 I b i ff gg hh → aG p l e rmL_builds s m args below meth c E io0 S 16 (vx_MQ below (aQc E io0 S Kr) (aXC E io0 S Kx) args s rmL_builds.cells rmL_builds.slots (aW E)) 31 [.ref 3, .int (nI x), .int (nI y), .ref 11, .int (nI many), .int (nI (nCr ff gg i)), .int (nI (nWt ff i)), .int (nI (nSp ff hh i)), .int (nI (aH gg i)), .int (nI (nSl gg i)), .int (nI (cO gg i)), .int (nI 1), .int (nI i), w13, w14, w15] [] (S) (I1) (L) (Rf) 0 0 := by
    intro r
    induction r with
    | zero =>
      intro i I1 w13 w14 w15 hi0 B1
      have hi : i = many := by omega
      subst hi
      obtain ⟨B0, Bb, B3, Bj⟩ := B1
      have f5 := nCr_b f9 g9 i
      have f6 := nWt_b f9 i
      have f7 := nSp_b f9 h9 i
      have f8 := nSl_b g9 i
      refine g_iloadG hx dL_builds_31 (nx := 33) rfl rfl ?_
      refine g_iloadG hx dL_builds_33 (nx := 35) rfl rfl ?_
      refine g_icmp_geN hx dL_builds_35 (tg := 193) (by decide) (nx := 38) rfl (by omega) (by omega) (fun c35 => ?_) (fun c35 => ?_)
      · refine g_aloadG_n hx dL_builds_193 rfl (nx := 194) rfl rfl ?_
        refine g_iconst hx dL_builds_194 (nx := 195) rfl (v := nI 0) (by decide) ?_
        refine g_ialoadN hx dL_builds_195 (nx := 196) rfl h11 (by decide) (by omega) (by decide) (v := nI n) (by rw [B0 _ _ (by omega)]; exact hc0) ?_
        refine g_istore_12 hx dL_builds_196 (nx := 198) rfl (by decide) rfl ?_
        refine g_aloadG_n hx dL_builds_198 rfl (nx := 199) rfl rfl ?_
        refine g_iconst hx dL_builds_199 (nx := 200) rfl (v := nI 0) (by decide) ?_
        refine g_dup2i hx dL_builds_200 (nx := 201) rfl rfl rfl ?_
        refine g_ialoadN hx dL_builds_201 (nx := 202) rfl h11 (by decide) (by omega) (by decide) (v := nI n) (by rw [B0 _ _ (by omega)]; exact hc0) ?_
        refine g_iconst hx dL_builds_202 (nx := 203) rfl (v := nI 1) (by decide) ?_
        refine g_iaddN hx dL_builds_203 (nx := 204) rfl  ?_
        refine g_iastoreN hx dL_builds_204 (nx := 205) rfl h11 (by decide) (by omega) (by decide) ?_
        have hC2 : lyC S Rf (au2 I1 11 0 (nI (n + 1))) n nc := hC.I (by rw [au2_n (by omega), B0 _ _ (by omega)]) (by rw [au2_n (by omega), B0 _ _ (by omega)])
        have ea : (fun j => (au2 I1 11 0 (nI (n + 1))) (200 + 8 * n + 1) j) = fun j => I1 (b + 1) j := funext fun j => by rw [au2_n (by omega), hbe]
        have eb : (fun j => (au2 I1 11 0 (nI (n + 1))) (200 + 8 * n + 2) j) = fun j => I1 (b + 2) j := funext fun j => by rw [au2_n (by omega), hbe]
        have ec : (fun j => (au2 I1 11 0 (nI (n + 1))) (200 + 8 * n + 3) j) = fun j => I1 (b + 3) j := funext fun j => by rw [au2_n (by omega), hbe]
        have e1 : crS (fun i => (au2 I1 11 0 (nI (n + 1))) (200 + 8 * n + 1) i) (fun i => (au2 I1 11 0 (nI (n + 1))) (200 + 8 * n + 2) i) i = crS (fun j => I1 (b + 1) j) (fun j => I1 (b + 2) j) i := by rw [ea, eb]
        have e2 : slS (fun i => (au2 I1 11 0 (nI (n + 1))) (200 + 8 * n + 2) i) i = slS (fun j => I1 (b + 2) j) i := by rw [eb]
        have e3 : wtS (fun i => (au2 I1 11 0 (nI (n + 1))) (200 + 8 * n + 1) i) i = wtS (fun j => I1 (b + 1) j) i := by rw [ea]
        have e4 : spS (fun i => (au2 I1 11 0 (nI (n + 1))) (200 + 8 * n + 1) i) (fun i => (au2 I1 11 0 (nI (n + 1))) (200 + 8 * n + 3) i) i = spS (fun j => I1 (b + 1) j) (fun j => I1 (b + 3) j) i := by rw [ea, ec]
        have e5 : (au2 I1 11 0 (nI (n + 1))) (200 + 8 * n + 2) 0 = I1 (b + 2) 0 := by rw [au2_n (by omega), hbe]
        refine g_iloadG hx dL_builds_205 (nx := 207) rfl rfl ?_
        refine g_if_eqN hx dL_builds_207 (tg := 314) (by decide) (nx := 210) rfl (by omega) (fun c207 => ?_) (fun c207 => ?_)
        · exact absurd c207 (by decide)
        · refine g_aloadG_n hx dL_builds_210 rfl (nx := 211) rfl rfl ?_
          refine g_iloadG_n hx dL_builds_211 rfl (nx := 212) rfl rfl ?_
          refine g_bipush hx dL_builds_212 (nx := 214) rfl (v := nI 100) (by decide) ?_
          refine g_iremN hx dL_builds_214 (nx := 215) rfl (by omega) (by omega) (by omega) ?_
          refine g_callV_M hx [_] (k' := 9) (n' := 568) dL_builds_215 (nx := 218) rfl lk_L_65 (by first | exact hX.1 0 _ rfl | exact hX'.1 0 _ rfl) (by decide) rfl rfl (Nat.le_of_ble_eq_true rfl) (Nat.le_of_ble_eq_true rfl) (Nat.le_of_ble_eq_true rfl) (Nat.le_of_ble_eq_true rfl) (Nat.le_of_ble_eq_true rfl) (Nat.le_of_ble_eq_true rfl) (Nat.le_of_ble_eq_true rfl) (s_X3_star (n := n) (nc := nc) (sh := i) hst hC2 (by rw [au2_n (by omega), ← hbe]; exact B3) (by omega) (fun j hj => by rw [au2_n (by omega), ← hbe, (Bj j hj).2.1]; exact nI_nle (g9 j).1 (by have := g9 j; omega)) (fun _ => by rw [e1, crS_n f9 g9 i (fun j hj => ⟨(Bj j hj).1, (Bj j hj).2.1⟩)]; exact nI_nle (by omega) (by omega)) (fun _ => by rw [e3, wtS_n i (fun j hj => (Bj j hj).1)]; exact nI_nle (by omega) (by omega)) (fun q => absurd ⟨y % 100, Nat.zero_le _, by omega, rfl⟩ q) (fun _ q => by omega) (fun x1 hx1 ex _ _ S' I' L' R' g1 g2 g3 g4 g5 g6 g7 g8 g10 g11 => ?_))
          rw [e1, e2, e4, e5, e3, crS_n f9 g9 i (fun j hj => ⟨(Bj j hj).1, (Bj j hj).2.1⟩), slS_n g9 i (fun j hj => (Bj j hj).2.1), spS_n i (fun j hj => ⟨(Bj j hj).1, (Bj j hj).2.2⟩), wtS_n i (fun j hj => (Bj j hj).1), (Bj 0 (by omega)).2.1] at g2
          obtain ⟨q4, q5, q6, q7, q8, q9⟩ := g2
          rw [← ex] at q4
          rw [show (10000000 : Int32) = nI 10000000 from rfl, pk_div (by omega) (by omega) (by omega)] at q6 q9
          rw [pk_div (by omega) (by omega) (by omega)] at q8
          rw [show (3 : Int32) = nI 3 from rfl, show (100 : Int32) = nI 100 from rfl, nI_mul, nI_mul, nI_add] at q9
          have hX' := g1.1
          have hsS : ∀ t, t < 256 → I' (200 + 8 * n + 5) t = 0 := fun t ht => by rw [g3 _ _ (by omega) (by omega) (by omega), au2_n (by omega), ← hbe, B0 _ _ (by omega)]; exact hsb t ht
          have hcS : ∀ t, t < 256 → I' (200 + 8 * n + 4) t = -1 := fun t ht => by rw [g3 _ _ (by omega) (by omega) (by omega), au2_n (by omega), ← hbe, B0 _ _ (by omega)]; exact hcn t ht
          have hla : 10000000 / nCr ff gg i ≤ 1000000 := Nat.div_le_of_le_mul (by omega)
          have htu : nSp ff hh i / nWt ff i < 10 := Nat.div_lt_of_lt_mul (by omega)
          have g0b := g9 0
          refine g_iloadG hx dL_builds_218 (nx := 220) rfl rfl ?_
          refine g_icmp_neN hx dL_builds_220 (tg := 314) (by decide) (nx := 223) rfl (by omega) (by omega) (fun c220 => ?_) (fun c220 => ?_)
          · exact absurd c220 (by omega)
          · refine g_aloadG_n hx dL_builds_223 rfl (nx := 224) rfl rfl ?_
            refine g_iloadG hx dL_builds_224 (nx := 226) rfl rfl ?_
            refine g_iconst hx dL_builds_226 (nx := 227) rfl (v := nI 0) (by decide) ?_
            refine g_callV_M hx [_, _] (k' := 9) (n' := 568) dL_builds_227 (nx := 230) rfl lk_L_39 (by first | exact hX.1 0 _ rfl | exact hX'.1 0 _ rfl) (by decide) rfl rfl (Nat.le_of_ble_eq_true rfl) (Nat.le_of_ble_eq_true rfl) (Nat.le_of_ble_eq_true rfl) (Nat.le_of_ble_eq_true rfl) (Nat.le_of_ble_eq_true rfl) (Nat.le_of_ble_eq_true rfl) (Nat.le_of_ble_eq_true rfl) (s_X3_ofStar0 hst g1 (Nat.lt_succ_self n) ?_)
            rw [q4]
            refine g_iloadG_n hx dL_builds_230 rfl (nx := 231) rfl rfl ?_
            refine g_bipush hx dL_builds_231 (nx := 233) rfl (v := nI 100) (by decide) ?_
            refine g_iremN hx dL_builds_233 (nx := 234) rfl (by omega) (by omega) (by omega) ?_
            refine g_icmp_neN hx dL_builds_234 (tg := 314) (by decide) (nx := 237) rfl (by omega) (by omega) (fun c234 => ?_) (fun c234 => ?_)
            · exact absurd c234 (by omega)
            · refine g_aloadG_n hx dL_builds_237 rfl (nx := 238) rfl rfl ?_
              refine g_iloadG hx dL_builds_238 (nx := 240) rfl rfl ?_
              refine g_iconst hx dL_builds_240 (nx := 241) rfl (v := nI 1) (by decide) ?_
              refine g_callV_M hx [_, _] (k' := 9) (n' := 568) dL_builds_241 (nx := 244) rfl lk_L_39 (by first | exact hX.1 0 _ rfl | exact hX'.1 0 _ rfl) (by decide) rfl rfl (Nat.le_of_ble_eq_true rfl) (Nat.le_of_ble_eq_true rfl) (Nat.le_of_ble_eq_true rfl) (Nat.le_of_ble_eq_true rfl) (Nat.le_of_ble_eq_true rfl) (Nat.le_of_ble_eq_true rfl) (Nat.le_of_ble_eq_true rfl) (s_X3_ofStar1 hst g1 (Nat.lt_succ_self n) ?_)
              rw [q5]
              refine g_iloadG hx dL_builds_244 (nx := 246) rfl rfl ?_
              refine g_icmp_neN hx dL_builds_246 (tg := 314) (by decide) (nx := 249) rfl (by omega) (by omega) (fun c246 => ?_) (fun c246 => ?_)
              · exact absurd c246 (by omega)
              · refine g_aloadG_n hx dL_builds_249 rfl (nx := 250) rfl rfl ?_
                refine g_iloadG hx dL_builds_250 (nx := 252) rfl rfl ?_
                refine g_iconst hx dL_builds_252 (nx := 253) rfl (v := nI 3) (by decide) ?_
                refine g_callV_M hx [_, _] (k' := 9) (n' := 568) dL_builds_253 (nx := 256) rfl lk_L_39 (by first | exact hX.1 0 _ rfl | exact hX'.1 0 _ rfl) (by decide) rfl rfl (Nat.le_of_ble_eq_true rfl) (Nat.le_of_ble_eq_true rfl) (Nat.le_of_ble_eq_true rfl) (Nat.le_of_ble_eq_true rfl) (Nat.le_of_ble_eq_true rfl) (Nat.le_of_ble_eq_true rfl) (Nat.le_of_ble_eq_true rfl) (s_X3_ofStar3 hst g1 (Nat.lt_succ_self n) ?_)
                rw [q7]
                refine g_iloadG hx dL_builds_256 (nx := 258) rfl rfl ?_
                refine g_icmp_neN hx dL_builds_258 (tg := 314) (by decide) (nx := 261) rfl (by omega) (by omega) (fun c258 => ?_) (fun c258 => ?_)
                · exact absurd c258 (by omega)
                · refine g_aloadG_n hx dL_builds_261 rfl (nx := 262) rfl rfl ?_
                  refine g_iloadG hx dL_builds_262 (nx := 264) rfl rfl ?_
                  refine g_iconst hx dL_builds_264 (nx := 265) rfl (v := nI 4) (by decide) ?_
                  refine g_callV_M hx [_, _] (k' := 9) (n' := 568) dL_builds_265 (nx := 268) rfl lk_L_39 (by first | exact hX.1 0 _ rfl | exact hX'.1 0 _ rfl) (by decide) rfl rfl (Nat.le_of_ble_eq_true rfl) (Nat.le_of_ble_eq_true rfl) (Nat.le_of_ble_eq_true rfl) (Nat.le_of_ble_eq_true rfl) (Nat.le_of_ble_eq_true rfl) (Nat.le_of_ble_eq_true rfl) (Nat.le_of_ble_eq_true rfl) (s_X3_ofStar4 hst g1 (Nat.lt_succ_self n) ?_)
                  rw [q8]
                  refine g_iloadG hx dL_builds_268 (nx := 270) rfl rfl ?_
                  refine g_iloadG hx dL_builds_270 (nx := 272) rfl rfl ?_
                  refine g_idivN hx dL_builds_272 (nx := 273) rfl (by omega) (by omega) (by omega) ?_
                  refine g_icmp_neN hx dL_builds_273 (tg := 314) (by decide) (nx := 276) rfl (by omega) (by omega) (fun c273 => ?_) (fun c273 => ?_)
                  · exact absurd c273 (by omega)
                  · refine g_aloadG_n hx dL_builds_276 rfl (nx := 277) rfl rfl ?_
                    refine g_iloadG hx dL_builds_277 (nx := 279) rfl rfl ?_
                    refine g_iconst hx dL_builds_279 (nx := 280) rfl (v := nI 5) (by decide) ?_
                    refine g_callV_M hx [_, _] (k' := 9) (n' := 568) dL_builds_280 (nx := 283) rfl lk_L_39 (by first | exact hX.1 0 _ rfl | exact hX'.1 0 _ rfl) (by decide) rfl rfl (Nat.le_of_ble_eq_true rfl) (Nat.le_of_ble_eq_true rfl) (Nat.le_of_ble_eq_true rfl) (Nat.le_of_ble_eq_true rfl) (Nat.le_of_ble_eq_true rfl) (Nat.le_of_ble_eq_true rfl) (Nat.le_of_ble_eq_true rfl) (s_X3_ofStar5 hst g1 (Nat.lt_succ_self n) ?_)
                    rw [q9]
                    refine g_iconst hx dL_builds_283 (nx := 284) rfl (v := nI 3) (by decide) ?_
                    refine g_aloadG_n hx dL_builds_284 rfl (nx := 285) rfl rfl ?_
                    refine g_iloadG hx dL_builds_285 (nx := 287) rfl rfl ?_
                    refine g_iconst hx dL_builds_287 (nx := 288) rfl (v := nI 2) (by decide) ?_
                    refine g_callV_M hx [_, _] (k' := 9) (n' := 568) dL_builds_288 (nx := 291) rfl lk_L_39 (by first | exact hX.1 0 _ rfl | exact hX'.1 0 _ rfl) (by decide) rfl rfl (Nat.le_of_ble_eq_true rfl) (Nat.le_of_ble_eq_true rfl) (Nat.le_of_ble_eq_true rfl) (Nat.le_of_ble_eq_true rfl) (Nat.le_of_ble_eq_true rfl) (Nat.le_of_ble_eq_true rfl) (Nat.le_of_ble_eq_true rfl) (s_X3_ofStar2 hst g1 (Nat.lt_succ_self n) ?_)
                    rw [q6]
                    refine g_imulN hx dL_builds_291 (nx := 292) rfl  ?_
                    refine g_bipush hx dL_builds_292 (nx := 294) rfl (v := nI 100) (by decide) ?_
                    refine g_iloadG hx dL_builds_294 (nx := 296) rfl rfl ?_
                    refine g_imulN hx dL_builds_296 (nx := 297) rfl  ?_
                    rw [cO_0 (g := gg) (i := i) (by omega)]
                    refine g_iaddN hx dL_builds_297 (nx := 298) rfl  ?_
                    refine g_icmp_neN hx dL_builds_298 (tg := 314) (by decide) (nx := 301) rfl (by omega) (by omega) (fun c298 => ?_) (fun c298 => ?_)
                    · exact absurd c298 (by omega)
                    · refine g_aloadG_n hx dL_builds_301 rfl (nx := 302) rfl rfl ?_
                      refine g_iloadG hx dL_builds_302 (nx := 304) rfl rfl ?_
                      refine g_callV_M hx [_] (k' := 9) (n' := 568) dL_builds_304 (nx := 307) rfl lk_L_68 (by first | exact hX.1 0 _ rfl | exact hX'.1 0 _ rfl) (by decide) rfl rfl (Nat.le_of_ble_eq_true rfl) (Nat.le_of_ble_eq_true rfl) (Nat.le_of_ble_eq_true rfl) (Nat.le_of_ble_eq_true rfl) (Nat.le_of_ble_eq_true rfl) (Nat.le_of_ble_eq_true rfl) (Nat.le_of_ble_eq_true rfl) (s_X3_framesk hst g1 (Nat.lt_succ_self n) (fun t ht => by rw [hsS t ht]; exact vp_in_nI (n := 0) (by decide) (by decide)) (fun I'' L'' k1 k2 => ?_))
                      have hprs : ∀ t, t < 256 → prs I' (200 + 8 * n) t = false := fun t ht => by simp only [prs, hcS t ht]; simp
                      refine g_if_ne hx dL_builds_307 (tg := 314) (by decide) (nx := 310) rfl (fun c307 => ?_) (fun c307 => ?_)
                      · exact absurd (by rw [aT_nil hprs]; rfl) c307
                      · refine g_iconst hx dL_builds_310 (nx := 311) rfl (v := nI 1) (by decide) ?_
                        refine g_goto hx dL_builds_311 (tg := 315) (by decide) ?_
                        refine g_iret hx dL_builds_315 rfl (by first | rfl | decide) (Nat.le_of_ble_eq_true rfl) (Nat.le_of_ble_eq_true rfl) ?_
                        refine hk S' I'' L'' R' (g1.I (k1 3 1 (by decide) (by decide) (by decide)) (k1 3 6 (by decide) (by decide) (by decide))) ⟨i, nCr ff gg i, 10000000 / nCr ff gg i, nSl gg i, nSp ff hh i / nWt ff i, gg 0, y % 100, ff, gg, ⟨by omega, ?_, fun j hj => ⟨?_, ?_, (f9 j).2, (g9 j).1, (g9 j).2⟩⟩, ⟨?_, by omega, by omega, rfl, hla⟩, ?_, by omega, ?_, ?_, ?_, by omega, ?_, ?_, ?_, (g9 0).1, (g9 0).2⟩ (fun a k a1 a2 a3 a4 a5 a6 a7 => ?_) ?_ ?_ ?_ ?_ (fun t ht => ?_) (fun t ht => ?_) (fun a k a1 a2 a3 a4 => ?_) (fun a ha => g10 a (by omega))
                        · rw [k1 _ _ (by omega) (by omega) (by omega), g3 _ _ (by omega) (by omega) (by omega), au2_n (by omega), ← hbe]; exact B3
                        · rw [k1 _ _ (by omega) (by omega) (by omega), g3 _ _ (by omega) (by omega) (by omega), au2_n (by omega), ← hbe]; exact (Bj j hj).1
                        · rw [k1 _ _ (by omega) (by omega) (by omega), g3 _ _ (by omega) (by omega) (by omega), au2_n (by omega), ← hbe]; exact (Bj j hj).2.1
                        · refine crS_n f9 g9 i (fun j hj => ⟨?_, ?_⟩)
                          · rw [k1 _ _ (by omega) (by omega) (by omega), g3 _ _ (by omega) (by omega) (by omega), au2_n (by omega), ← hbe]; exact (Bj j hj).1
                          · rw [k1 _ _ (by omega) (by omega) (by omega), g3 _ _ (by omega) (by omega) (by omega), au2_n (by omega), ← hbe]; exact (Bj j hj).2.1
                        · rw [k1 _ _ (by omega) (by omega) (by omega)]; exact q4
                        · rw [k1 _ _ (by omega) (by omega) (by omega)]; exact q5
                        · rw [k1 _ _ (by omega) (by omega) (by omega)]; exact q6
                        · rw [k1 _ _ (by omega) (by omega) (by omega)]; exact q7
                        · rw [k1 _ _ (by omega) (by omega) (by omega)]; exact q8
                        · exact htu
                        · rw [k1 _ _ (by omega) (by omega) (by omega)]; exact q9
                        · rw [k1 _ _ a2 a3 a4, g3 _ _ (by omega) a6 (by omega), au2_n a7, B0 _ _ (by omega)]
                        · rw [k1 _ _ (by omega) (by omega) (by omega), g3 _ _ (by omega) (by omega) (by omega), au2_s]
                        · rw [k1 _ _ (by omega) (by omega) (by omega), g3 _ _ (by omega) (by omega) (by omega), au2_n (by omega), ← hbe, Bb _ (by omega)]; exact ho
                        · rw [k1 _ _ (by omega) (by omega) (by omega)]; exact g5
                        · rw [k1 _ _ (by omega) (by omega) (by omega)]; exact g6
                        · rw [k1 _ _ (by omega) (by omega) (by omega)]; exact g7 t ht
                        · rw [k1 _ _ (by omega) (by omega) (by omega)]; exact g8 t
                        · rw [k2 _ _ a2 a3 a4]; exact g4 a k (by omega)
      · exact absurd c35 (by omega)
    | succ r ih =>
      intro i I1 w13 w14 w15 hi0 B1
      refine g_iloadG hx dL_builds_31 (nx := 33) rfl rfl ?_
      refine g_iloadG hx dL_builds_33 (nx := 35) rfl rfl ?_
      refine g_icmp_geN hx dL_builds_35 (tg := 193) (by decide) (nx := 38) rfl (by omega) (by omega) (fun c35 => ?_) (fun c35 => ?_)
      · exact absurd c35 (by omega)
      · refine g_iconst hx dL_builds_38 (nx := 39) rfl (v := nI 1) (by decide) ?_
        refine g_iloadG_n hx dL_builds_39 rfl (nx := 40) rfl rfl ?_
        refine g_iconst hx dL_builds_40 (nx := 41) rfl (v := nI 3) (by decide) ?_
        refine g_idivN hx dL_builds_41 (nx := 42) rfl (by omega) (by omega) (by omega) ?_
        refine g_bipush hx dL_builds_42 (nx := 44) rfl (v := nI 31) (by decide) ?_
        refine g_iloadG hx dL_builds_44 (nx := 46) rfl rfl ?_
        refine g_imulN hx dL_builds_46 (nx := 47) rfl  ?_
        refine g_iaddN hx dL_builds_47 (nx := 48) rfl  ?_
        refine g_bipush hx dL_builds_48 (nx := 50) rfl (v := nI 99) (by decide) ?_
        refine g_iremN hx dL_builds_50 (nx := 51) rfl (by omega) (by omega) (by omega) ?_
        refine g_iaddN hx dL_builds_51 (nx := 52) rfl  ?_
        rw [← hff]
        refine g_istore_13 hx dL_builds_52 (nx := 54) rfl (by decide) rfl ?_
        refine g_iconst hx dL_builds_54 (nx := 55) rfl (v := nI 1) (by decide) ?_
        refine g_iloadG_n hx dL_builds_55 rfl (nx := 56) rfl rfl ?_
        refine g_iconst hx dL_builds_56 (nx := 57) rfl (v := nI 3) (by decide) ?_
        refine g_idivN hx dL_builds_57 (nx := 58) rfl (by omega) (by omega) (by omega) ?_
        refine g_bipush hx dL_builds_58 (nx := 60) rfl (v := nI 47) (by decide) ?_
        refine g_iloadG hx dL_builds_60 (nx := 62) rfl rfl ?_
        refine g_imulN hx dL_builds_62 (nx := 63) rfl  ?_
        refine g_iaddN hx dL_builds_63 (nx := 64) rfl  ?_
        refine g_bipush hx dL_builds_64 (nx := 66) rfl (v := nI 99) (by decide) ?_
        refine g_iremN hx dL_builds_66 (nx := 67) rfl (by omega) (by omega) (by omega) ?_
        refine g_iaddN hx dL_builds_67 (nx := 68) rfl  ?_
        rw [← hgg]
        refine g_istore_14 hx dL_builds_68 (nx := 70) rfl (by decide) rfl ?_
        refine g_iloadG_n hx dL_builds_70 rfl (nx := 71) rfl rfl ?_
        refine g_sipush hx dL_builds_71 (nx := 74) rfl (v := nI 300) (by decide) ?_
        refine g_idivN hx dL_builds_74 (nx := 75) rfl (by omega) (by omega) (by omega) ?_
        refine g_iloadG hx dL_builds_75 (nx := 77) rfl rfl ?_
        refine g_iaddN hx dL_builds_77 (nx := 78) rfl  ?_
        refine g_bipush hx dL_builds_78 (nx := 80) rfl (v := nI 10) (by decide) ?_
        refine g_iremN hx dL_builds_80 (nx := 81) rfl (by omega) (by omega) (by omega) ?_
        rw [← hhh]
        refine g_istore_15 hx dL_builds_81 (nx := 83) rfl (by decide) rfl ?_
        have hC1 : lyC S Rf I1 n nc := hC.I (B1.1 3 1 (by omega)) (B1.1 3 6 (by omega))
        have q1 := f9 i
        have q2 := g9 i
        have q3 := h9 i
        refine g_iloadG hx dL_builds_83 (nx := 85) rfl rfl ?_
        refine g_if_eqN hx dL_builds_85 (tg := 109) (by decide) (nx := 88) rfl (by omega) (fun c85 => ?_) (fun c85 => ?_)
        · exact absurd c85 (by decide)
        · refine g_aloadG_n hx dL_builds_88 rfl (nx := 89) rfl rfl ?_
          refine g_iloadG hx dL_builds_89 (nx := 91) rfl rfl ?_
          refine g_iloadG hx dL_builds_91 (nx := 93) rfl rfl ?_
          refine g_iloadG hx dL_builds_93 (nx := 95) rfl rfl ?_
          refine g_callV_M hx [_, _, _] (k' := 0) (n' := 0) dL_builds_95 (nx := 98) rfl lk_L_62 (hX.1 0 _ rfl) (by decide) rfl rfl (Nat.le_of_ble_eq_true rfl) (Nat.le_of_ble_eq_true rfl) (Nat.le_of_ble_eq_true rfl) (Nat.le_of_ble_eq_true rfl) (Nat.le_of_ble_eq_true rfl) (Nat.le_of_ble_eq_true rfl) (Nat.le_of_ble_eq_true rfl) (s_X3_shellk (n := n) (nc := nc) (sh := i) hst hC1 (by rw [← hbe]; exact B1.2.2.1) (by omega) q1.1 q1.2 q2.1 q2.2 q3 ?_)
          rw [← hbe]
          have B2 := blt_s B1
          obtain ⟨I2, hI2⟩ : ∃ I2, I2 = au2 (au2 (au2 (au2 I1 (b + 1) i (nI (ff i))) (b + 2) i (nI (gg i))) (b + 3) i (nI (hh i))) b 3 (nI (i + 1)) := ⟨_, rfl⟩
          rw [← hI2] at B2 ⊢
          refine g_iloadG hx dL_builds_98 (nx := 100) rfl rfl ?_
          refine g_iconst hx dL_builds_100 (nx := 101) rfl (v := nI 1) (by decide) ?_
          refine g_iaddN hx dL_builds_101 (nx := 102) rfl  ?_
          refine g_icmp_neN hx dL_builds_102 (tg := 109) (by decide) (nx := 105) rfl (by omega) (by omega) (fun c102 => ?_) (fun c102 => ?_)
          · exact absurd c102 (by omega)
          · refine g_iconst hx dL_builds_105 (nx := 106) rfl (v := nI 1) (by decide) ?_
            refine g_goto hx dL_builds_106 (tg := 110) (by decide) ?_
            refine g_istore_11 hx dL_builds_110 (nx := 112) rfl (by decide) rfl ?_
            refine g_iloadG hx dL_builds_112 (nx := 114) rfl rfl ?_
            refine g_sipush hx dL_builds_114 (nx := 117) rfl (v := nI 1000) (by decide) ?_
            refine g_iloadG hx dL_builds_117 (nx := 119) rfl rfl ?_
            refine g_imulN hx dL_builds_119 (nx := 120) rfl  ?_
            refine g_iloadG hx dL_builds_120 (nx := 122) rfl rfl ?_
            refine g_idivN hx dL_builds_122 (nx := 123) rfl (by omega) (by omega) (by omega) ?_
            refine g_iaddN hx dL_builds_123 (nx := 124) rfl  ?_
            refine g_istore_5 hx dL_builds_124 (nx := 126) rfl (by decide) rfl ?_
            refine g_iloadG hx dL_builds_126 (nx := 128) rfl rfl ?_
            refine g_iloadG hx dL_builds_128 (nx := 130) rfl rfl ?_
            refine g_iaddN hx dL_builds_130 (nx := 131) rfl  ?_
            refine g_istore_6 hx dL_builds_131 (nx := 133) rfl (by decide) rfl ?_
            refine g_iloadG hx dL_builds_133 (nx := 135) rfl rfl ?_
            refine g_iloadG hx dL_builds_135 (nx := 137) rfl rfl ?_
            refine g_iloadG hx dL_builds_137 (nx := 139) rfl rfl ?_
            refine g_imulN hx dL_builds_139 (nx := 140) rfl  ?_
            refine g_iaddN hx dL_builds_140 (nx := 141) rfl  ?_
            refine g_istore_7 hx dL_builds_141 (nx := 143) rfl (by decide) rfl ?_
            refine g_iloadG hx dL_builds_143 (nx := 145) rfl rfl ?_
            refine g_iloadG hx dL_builds_145 (nx := 147) rfl rfl ?_
            refine g_if_leN hx dL_builds_147 (tg := 165) (by decide) (nx := 150) rfl (by omega) (fun c147 => ?_) (fun c147 => ?_)
            · refine g_iconst hx dL_builds_165 (nx := 166) rfl (v := nI 0) (by decide) ?_
              refine g_iaddN hx dL_builds_166 (nx := 167) rfl  ?_
              refine g_istore_9 hx dL_builds_167 (nx := 169) rfl (by decide) rfl ?_
              refine g_iloadG hx dL_builds_169 (nx := 171) rfl rfl ?_
              refine g_if_neN hx dL_builds_171 (tg := 179) (by decide) (nx := 174) rfl (by omega) (fun c171 => ?_) (fun c171 => ?_)
              · exact absurd (by omega) c171
              · refine g_iloadG hx dL_builds_174 (nx := 176) rfl rfl ?_
                refine g_goto hx dL_builds_176 (tg := 181) (by decide) ?_
                refine g_istore_10 hx dL_builds_181 (nx := 183) rfl (by decide) rfl ?_
                refine g_iloadG hx dL_builds_183 (nx := 185) rfl rfl ?_
                refine g_istore_8 hx dL_builds_185 (nx := 187) rfl (by decide) rfl ?_
                refine g_iincN_12 hx dL_builds_187 (nx := 190) rfl (by decide) (b := 1) (by decide) rfl ?_
                refine g_goto hx dL_builds_190 (tg := 31) (by decide) ?_
                have K := ih (i + 1) I2 (.int (nI (ff i))) (.int (nI (gg i))) (.int (nI (hh i))) (by omega) B2
                have e0 : i = 0 := by omega
                subst e0
                exact K
            · have ha9 := aH_p (g := gg) (i := i) (by omega)
              have ha8 := g9 (i - 1)
              refine g_iloadG hx dL_builds_150 (nx := 152) rfl rfl ?_
              refine g_iloadG hx dL_builds_152 (nx := 154) rfl rfl ?_
              refine g_icmp_leN hx dL_builds_154 (tg := 165) (by decide) (nx := 157) rfl (by omega) (by omega) (fun c154 => ?_) (fun c154 => ?_)
              · refine g_iconst hx dL_builds_165 (nx := 166) rfl (v := nI 0) (by decide) ?_
                refine g_iaddN hx dL_builds_166 (nx := 167) rfl  ?_
                refine g_istore_9 hx dL_builds_167 (nx := 169) rfl (by decide) rfl ?_
                refine g_iloadG hx dL_builds_169 (nx := 171) rfl rfl ?_
                refine g_if_neN hx dL_builds_171 (tg := 179) (by decide) (nx := 174) rfl (by omega) (fun c171 => ?_) (fun c171 => ?_)
                · refine g_iloadG hx dL_builds_179 (nx := 181) rfl rfl ?_
                  refine g_istore_10 hx dL_builds_181 (nx := 183) rfl (by decide) rfl ?_
                  refine g_iloadG hx dL_builds_183 (nx := 185) rfl rfl ?_
                  refine g_istore_8 hx dL_builds_185 (nx := 187) rfl (by decide) rfl ?_
                  refine g_iincN_12 hx dL_builds_187 (nx := 190) rfl (by decide) (b := 1) (by decide) rfl ?_
                  refine g_goto hx dL_builds_190 (tg := 31) (by decide) ?_
                  have K := ih (i + 1) I2 (.int (nI (ff i))) (.int (nI (gg i))) (.int (nI (hh i))) (by omega) B2
                  have := aH_p (g := gg) (i := i) (by omega)
                  rw [show nSl gg (i + 1) = nSl gg i + 0 from by rw [nSl, if_neg (by omega)]; omega, cO_p (by omega)] at K
                  exact K
                · exact absurd c171 (by omega)
              · refine g_iloadG hx dL_builds_157 (nx := 159) rfl rfl ?_
                refine g_iloadG hx dL_builds_159 (nx := 161) rfl rfl ?_
                refine g_isubN hx dL_builds_161 (nx := 162) rfl (by omega) ?_
                refine g_goto hx dL_builds_162 (tg := 166) (by decide) ?_
                refine g_iaddN hx dL_builds_166 (nx := 167) rfl  ?_
                refine g_istore_9 hx dL_builds_167 (nx := 169) rfl (by decide) rfl ?_
                refine g_iloadG hx dL_builds_169 (nx := 171) rfl rfl ?_
                refine g_if_neN hx dL_builds_171 (tg := 179) (by decide) (nx := 174) rfl (by omega) (fun c171 => ?_) (fun c171 => ?_)
                · refine g_iloadG hx dL_builds_179 (nx := 181) rfl rfl ?_
                  refine g_istore_10 hx dL_builds_181 (nx := 183) rfl (by decide) rfl ?_
                  refine g_iloadG hx dL_builds_183 (nx := 185) rfl rfl ?_
                  refine g_istore_8 hx dL_builds_185 (nx := 187) rfl (by decide) rfl ?_
                  refine g_iincN_12 hx dL_builds_187 (nx := 190) rfl (by decide) (b := 1) (by decide) rfl ?_
                  refine g_goto hx dL_builds_190 (tg := 31) (by decide) ?_
                  have K := ih (i + 1) I2 (.int (nI (ff i))) (.int (nI (gg i))) (.int (nI (hh i))) (by omega) B2
                  have := aH_p (g := gg) (i := i) (by omega)
                  rw [show nSl gg (i + 1) = nSl gg i + (aH gg i - gg i) from by rw [nSl, if_neg (by omega)]; omega, cO_p (by omega)] at K
                  exact K
                · exact absurd c171 (by omega)
  refine g_iconst hx dL_builds_0 (nx := 1) rfl (v := nI 1) (by decide) ?_
  refine g_iloadG_n hx dL_builds_1 rfl (nx := 2) rfl rfl ?_
  refine g_iconst hx dL_builds_2 (nx := 3) rfl (v := nI 3) (by decide) ?_
  refine g_iremN hx dL_builds_3 (nx := 4) rfl (by omega) (by omega) (by omega) ?_
  refine g_iaddN hx dL_builds_4 (nx := 5) rfl  ?_
  rw [← hmy]
  refine g_istore_4 hx dL_builds_5 (nx := 7) rfl (by decide) rfl ?_
  refine g_iconst hx dL_builds_7 (nx := 8) rfl (v := nI 0) (by decide) ?_
  refine g_istore_5 hx dL_builds_8 (nx := 10) rfl (by decide) rfl ?_
  refine g_iconst hx dL_builds_10 (nx := 11) rfl (v := nI 0) (by decide) ?_
  refine g_istore_6 hx dL_builds_11 (nx := 13) rfl (by decide) rfl ?_
  refine g_iconst hx dL_builds_13 (nx := 14) rfl (v := nI 0) (by decide) ?_
  refine g_istore_7 hx dL_builds_14 (nx := 16) rfl (by decide) rfl ?_
  refine g_iconst hx dL_builds_16 (nx := 17) rfl (v := nI 0) (by decide) ?_
  refine g_istore_8 hx dL_builds_17 (nx := 19) rfl (by decide) rfl ?_
  refine g_iconst hx dL_builds_19 (nx := 20) rfl (v := nI 0) (by decide) ?_
  refine g_istore_9 hx dL_builds_20 (nx := 22) rfl (by decide) rfl ?_
  refine g_iconst hx dL_builds_22 (nx := 23) rfl (v := nI 0) (by decide) ?_
  refine g_istore_10 hx dL_builds_23 (nx := 25) rfl (by decide) rfl ?_
  refine g_iconst hx dL_builds_25 (nx := 26) rfl (v := nI 1) (by decide) ?_
  refine g_istore_11 hx dL_builds_26 (nx := 28) rfl (by decide) rfl ?_
  refine g_iconst hx dL_builds_28 (nx := 29) rfl (v := nI 0) (by decide) ?_
  refine g_istore_12 hx dL_builds_29 (nx := 31) rfl (by decide) rfl ?_
  exact loop1 many 0 I aU aU aU (Nat.zero_add _) ⟨fun _ _ _ => rfl, fun _ _ => rfl, h0, fun j hj => by omega⟩

