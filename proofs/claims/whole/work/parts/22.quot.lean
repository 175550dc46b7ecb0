/-! quotients rounded down, first and last -/
theorem bm64 {z : Int} (h : -(2 : Int) ^ 62 ≤ z) (h2 : z < (2 : Int) ^ 62) : z.bmod (2 ^ 64) = z := by
  rw [Int.bmod_def]
  split <;> omega
theorem xs64 (a b : Int64) : 0 ≤ a ^^^ b ↔ (a.toInt < 0 ↔ b.toInt < 0) := by
  have h : ∀ z : Int64, z.toBitVec.msb = decide (z.toInt < 0) := fun z => BitVec.msb_eq_toInt
  have h1 : (a ^^^ b).toBitVec.msb = Bool.xor (decide (a.toInt < 0)) (decide (b.toInt < 0)) := by
    rw [← h a, ← h b, ← BitVec.msb_xor]; rfl
  rw [h] at h1
  rw [Int64.le_iff_toInt_le, Int64.toInt_zero]
  by_cases ha : a.toInt < 0 <;> by_cases hb : b.toInt < 0 <;> simp [ha, hb] at h1 ⊢ <;> omega
theorem dnL_fd {n y : Int64} (h1 : -(2 : Int) ^ 40 < n.toInt) (h2 : n.toInt < (2 : Int) ^ 40) (h3 : 0 < y.toInt) (h4 : y.toInt < (2 : Int) ^ 31) : dnL n y = fdL n y := by
  have hd : ∀ a b : Int64, (a / b).toInt = (a.toInt.tdiv b.toInt).bmod (2 ^ 64) := fun a b => Int64.toInt_div a b
  by_cases hn : n.toInt < 0
  · have e1 : ¬ (0 : Int64) ≤ n := by rw [Int64.le_iff_toInt_le, Int64.toInt_zero]; omega
    have e2 : ¬ (0 : Int64) ≤ n ^^^ y := by rw [xs64]; omega
    rw [dnL, if_neg e1, fdL, if_neg e2]
    generalize hN : n.toInt = N at *
    generalize hY : y.toInt = Y at *
    -- the two quotients
    obtain ⟨p, s, hp, hs0, hs1⟩ : ∃ p s : Int, -N = Y * p + s ∧ 0 ≤ s ∧ s < Y := ⟨(-N) / Y, (-N) % Y, (Int.mul_ediv_add_emod _ _).symm, Int.emod_nonneg _ (by omega), Int.emod_lt_of_pos _ h3⟩
    have hpe : (-N) / Y = p := by
      rw [hp, Int.add_comm, Int.add_mul_ediv_left _ _ (by omega), Int.ediv_eq_zero_of_lt hs0 hs1, Int.zero_add]
    have hp0 : 0 ≤ p := by rw [← hpe]; exact Int.ediv_nonneg (by omega) (by omega)
    have hpb : p ≤ -N := by rw [← hpe]; exact Int.ediv_le_self _ (by omega)
    have hYp : Y * p ≤ -N := by omega
    have hYp0 : 0 ≤ Y * p := Int.mul_nonneg (by omega) hp0
    have q1 : (n / y).toInt = -p := by
      rw [hd, hN, hY, show N = -(-N) by omega, Int.neg_tdiv, Int.tdiv_eq_ediv_of_nonneg (by omega), hpe]
      exact bm64 (by omega) (by omega)
    have q2 : (n / y * y).toInt = -(Y * p) := by
      rw [Int64.toInt_mul, q1, hY, Int.neg_mul, Int.mul_comm p Y]
      exact bm64 (by omega) (by omega)
    have q3 : (-n + y - 1).toInt = -N + Y - 1 := by
      rw [Int64.toInt_sub, Int64.toInt_add, Int64.toInt_neg, hN, hY, Int64.toInt_one, bm64 (z := -N) (by omega) (by omega), bm64 (z := -N + Y) (by omega) (by omega)]
      exact bm64 (by omega) (by omega)
    have q4 : (-((-n + y - 1) / y)).toInt = -((-N + Y - 1) / Y) := by
      have hq0 : 0 ≤ (-N + Y - 1) / Y := Int.ediv_nonneg (by omega) (by omega)
      have hq1 : (-N + Y - 1) / Y ≤ -N + Y - 1 := Int.ediv_le_self _ (by omega)
      rw [Int64.toInt_neg, hd, q3, hY, Int.tdiv_eq_ediv_of_nonneg (by omega), bm64 (z := (-N + Y - 1) / Y) (by omega) (by omega)]
      exact bm64 (by omega) (by omega)
    apply Int64.toInt_inj.mp
    rw [q4]
    by_cases hs : s = 0
    · have e3 : n / y * y = n := Int64.toInt_inj.mp (by rw [q2, hN]; omega)
      rw [if_pos e3, q1]
      have : (-N + Y - 1) / Y = p := by
        rw [show -N + Y - 1 = (Y - 1) + Y * p by omega, Int.add_mul_ediv_left _ _ (by omega), Int.ediv_eq_zero_of_lt (by omega) (by omega), Int.zero_add]
      omega
    · have e3 : ¬ n / y * y = n := fun z => by rw [z, hN] at q2; omega
      rw [if_neg e3, Int64.toInt_sub, q1, Int64.toInt_one, bm64 (by omega) (by omega)]
      have : (-N + Y - 1) / Y = p + 1 := by
        rw [show -N + Y - 1 = (s - 1) + Y * (p + 1) by rw [Int.mul_add]; omega, Int.add_mul_ediv_left _ _ (by omega), Int.ediv_eq_zero_of_lt (by omega) (by omega), Int.zero_add]
      omega
  · have e1 : (0 : Int64) ≤ n := by rw [Int64.le_iff_toInt_le, Int64.toInt_zero]; omega
    have e2 : (0 : Int64) ≤ n ^^^ y := by rw [xs64]; omega
    rw [dnL, if_pos e1, fdL, if_pos e2]
def fsT (q : Nat → Bool) : Nat → Int32
  | 0 => -1
  | n + 1 => if q n = true then (if fsT q n = -1 then nI n else fsT q n) else fsT q n
def lsT (q : Nat → Bool) : Nat → Int32
  | 0 => -1
  | n + 1 => if q n = true then nI n else lsT q n
theorem nI_m1 {n : Nat} (h : n < 2 ^ 31) : ¬ nI n = -1 := fun z => by
  have := congrArg Int32.toInt z
  rw [nI_toInt h] at this
  have e : (-1 : Int32).toInt = -1 := by decide
  omega
theorem fs_ls {q : Nat → Bool} : ∀ n, n ≤ 256 → (tl q n = [] → fsT q n = -1 ∧ lsT q n = -1) ∧ (tl q n ≠ [] → (∃ t, (tl q n)[0]? = some t ∧ t < n ∧ fsT q n = nI t) ∧ ∃ t, (tl q n)[(tl q n).length - 1]? = some t ∧ t < n ∧ lsT q n = nI t) := by
  intro n
  induction n with
  | zero => intro _; exact ⟨fun _ => ⟨rfl, rfl⟩, fun h => absurd rfl h⟩
  | succ n ih =>
    intro hn
    obtain ⟨i1, i2⟩ := ih (by omega)
    rcases hq : q n with _ | _
    · rw [tl_f hq]
      have e1 : fsT q (n + 1) = fsT q n := by rw [fsT, hq]; rfl
      have e2 : lsT q (n + 1) = lsT q n := by rw [lsT, hq]; rfl
      rw [e1, e2]
      refine ⟨i1, fun h => ?_⟩
      obtain ⟨⟨t, a1, a2, a3⟩, ⟨u, b1, b2, b3⟩⟩ := i2 h
      exact ⟨⟨t, a1, by omega, a3⟩, ⟨u, b1, by omega, b3⟩⟩
    · rw [tl_t hq]
      refine ⟨fun h => absurd h (by simp), fun _ => ⟨?_, ⟨n, by simp, by omega, by rw [lsT, hq]; rfl⟩⟩⟩
      by_cases he : tl q n = []
      · refine ⟨n, by rw [he]; rfl, by omega, ?_⟩
        rw [fsT, hq, if_pos rfl, if_pos (i1 he).1]
      · obtain ⟨⟨t, a1, a2, a3⟩, _⟩ := i2 he
        refine ⟨t, ?_, by omega, ?_⟩
        · rw [List.getElem?_append_left]
          · exact a1
          · exact List.length_pos_iff.mpr he
        · rw [fsT, hq, if_pos rfl, if_neg (by rw [a3]; exact nI_m1 (by omega)), a3]
theorem fs_tF {q : Nat → Bool} (h : (aT q).length ≠ 0) : fsT q 256 = nI (tF q) ∧ lsT q 256 = nI (tZ q) ∧ tF q < 256 ∧ tZ q < 256 ∧ q (tF q) = true ∧ q (tZ q) = true := by
  have hp : 0 < (aT q).length := Nat.pos_of_ne_zero h
  obtain ⟨⟨t, a1, a2, a3⟩, ⟨u, b1, b2, b3⟩⟩ := (fs_ls (q := q) 256 (Nat.le_refl _)).2 (fun z => h (by rw [show aT q = [] from z]; rfl))
  have e1 : tF q = t := Option.some.inj ((tF_at hp).symm.trans a1)
  have e2 : tZ q = u := Option.some.inj ((tZ_at hp).symm.trans b1)
  rw [e1, e2]
  exact ⟨a3, b3, a2, b2, (aT_at a1).2, (aT_at b1).2⟩
theorem tF_le {q : Nat → Bool} {t : Nat} (ht : t < 256) (h : q t = true) : tF q ≤ t ∧ t ≤ tZ q ∧ (aT q).length ≠ 0 := by
  have hm : t ∈ aT q := tl_mem.mpr ⟨ht, h⟩
  obtain ⟨i, hi, e⟩ := List.mem_iff_getElem.mp hm
  have hs : (aT q).Pairwise (· < ·) := List.Pairwise.filter _ List.pairwise_lt_range
  have hp : 0 < (aT q).length := by omega
  have f1 : tF q = (aT q)[0] := Option.some.inj ((tF_at hp).symm.trans (List.getElem?_eq_getElem hp))
  have f2 : tZ q = (aT q)[(aT q).length - 1] := Option.some.inj ((tZ_at hp).symm.trans (List.getElem?_eq_getElem (by omega)))
  refine ⟨?_, ?_, by omega⟩
  · rw [f1, ← e]
    rcases Nat.eq_zero_or_pos i with z | z
    · subst z; exact Nat.le_refl _
    · exact Nat.le_of_lt (List.pairwise_iff_getElem.mp hs 0 i hp hi z)
  · rw [f2, ← e]
    rcases Nat.eq_or_lt_of_le (show i ≤ (aT q).length - 1 by omega) with z | z
    · subst z; exact Nat.le_refl _
    · exact Nat.le_of_lt (List.pairwise_iff_getElem.mp hs i _ hi (by omega) z)
