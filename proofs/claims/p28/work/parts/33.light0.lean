/-! the law: the light of the star 0 -/
/-- the sites that are masked, as the law's number tells them -/
def mK (I : aI) (mk : Nat) : Prop := mk < 16 ∧ ∀ s, s < 4 → I 5 s = nI (mk / 2 ^ s % 2)
theorem tl_skip {p : Nat → Bool} {a : Nat} : ∀ d, (∀ t, a ≤ t → t < a + d → p t = false) → tl p (a + d) = tl p a ∧ fsT p (a + d) = fsT p a ∧ lsT p (a + d) = lsT p a := by
  intro d
  induction d with
  | zero => intro _; exact ⟨rfl, rfl, rfl⟩
  | succ d ih =>
    intro h
    obtain ⟨h1, h2, h3⟩ := ih (fun t h4 h5 => h t h4 (by omega))
    have h4 := h (a + d) (by omega) (by omega)
    refine ⟨(tl_f h4).trans h1, ?_, ?_⟩
    · show fsT p (a + d + 1) = _
      rw [fsT, h4]; exact h2
    · show lsT p (a + d + 1) = _
      rw [lsT, h4]; exact h3
section L0
variable {I : aI} {mk : Nat} (hF : lF I) (hM : mK I mk)
theorem lF_p (hF : lF I) {t : Nat} (ht : t < 256) (h : prs I 200 t = true) : (∃ j, j < 20 ∧ t = 12 * j) ∧ ∃ v, v < 10000 ∧ I 204 t = nI v := by
  have h1 : I 204 t ≠ -1 := by
    simp only [prs, Bool.and_eq_true, decide_eq_true_eq] at h
    exact h.1
  refine ⟨Classical.byContradiction fun z => h1 (hF.2.1 t ht (fun j hj e => z ⟨j, hj, e⟩)), ?_⟩
  rcases hF.2.2.1 t ht with e | e
  · exact absurd e h1
  · exact e
theorem lF_n (hF : lF I) {t : Nat} (ht : t < 256) (h : ∀ j, j < 20 → t ≠ 12 * j) : prs I 200 t = false := by
  have h1 := hF.2.1 t ht h
  have h1' : I (200 + 4) t = -1 := h1
  simp only [prs]
  rw [h1']; rfl
theorem lF_there (hF : lF I) (hM : mK I mk) {j s : Nat} (hj : j < 20) (hs : s < 4) (e : I 205 (12 * j) = nI s) : prs I 200 (12 * j) = true ↔ I 204 (12 * j) ≠ -1 ∧ mk / 2 ^ s % 2 = 0 := by
  have e2 : I (200 + 5) (12 * j) = nI s := e
  have e3 := hM.2 s hs
  simp only [prs, Bool.and_eq_true, decide_eq_true_eq]
  rw [e2, nI_clamp (by omega), e3]
  refine and_congr Iff.rfl ?_
  exact nI_eq (b := 0) (by omega) (by decide)
theorem lF_12 (hF : lF I) {j : Nat} (hj : j < 20) : (tl (prs I 200) (12 * (j + 1)) = if prs I 200 (12 * j) = true then tl (prs I 200) (12 * j) ++ [12 * j] else tl (prs I 200) (12 * j)) ∧ fsT (prs I 200) (12 * (j + 1)) = fsT (prs I 200) (12 * j + 1) ∧ lsT (prs I 200) (12 * (j + 1)) = lsT (prs I 200) (12 * j + 1) := by
  have h := tl_skip (p := prs I 200) (a := 12 * j + 1) 11 (fun t h1 h2 => lF_n hF (by omega) (fun i hi => by omega))
  rw [show 12 * (j + 1) = 12 * j + 1 + 11 by omega]
  refine ⟨h.1.trans ?_, h.2.1, h.2.2⟩
  by_cases z : prs I 200 (12 * j) = true
  · rw [if_pos z, tl_t z]
  · rw [if_neg z, tl_f (by simpa using z)]
theorem lF_240 (hF : lF I) : aT (prs I 200) = tl (prs I 200) (12 * 20) ∧ fsT (prs I 200) 256 = fsT (prs I 200) (12 * 20) ∧ lsT (prs I 200) 256 = lsT (prs I 200) (12 * 20) :=
  tl_skip (p := prs I 200) (a := 12 * 20) 16 (fun t h1 h2 => lF_n hF (by omega) (fun i hi => by omega))
theorem cts_b (hF : lF I) {t : Nat} (ht : t < 256) (h : prs I 200 t = true) : 0 ≤ (cts I 200 t).toInt ∧ (cts I 200 t).toInt ≤ 9999 := by
  obtain ⟨-, v, hv, e⟩ := lF_p hF ht h
  have e2 : I (200 + 4) t = nI v := e
  simp only [cts]
  rw [e2, nI_l (by omega), lN_toInt (by omega)]; omega
theorem mnD_b (hF : lF I) (h0 : (aT (prs I 200)).length ≠ 0) : (mnD (prs I 200) (cts I 200)).toInt = zs (prs I 200) (fun t => (cts I 200 t).toInt) 256 / ((aT (prs I 200)).length : Int) ∧ 0 ≤ (mnD (prs I 200) (cts I 200)).toInt ∧ (mnD (prs I 200) (cts I 200)).toInt ≤ 9999 := by
  have hb : ∀ t, t < 256 → prs I 200 t = true → -9999 ≤ (cts I 200 t).toInt ∧ (cts I 200 t).toInt ≤ 9999 := fun t ht h => by have := cts_b hF ht h; omega
  have e := zs_lsum (p := prs I 200) (f := cts I 200) (B := 9999) (by decide) (by decide) 256 (Nat.le_refl _) hb
  have n1 := zs_nn (p := prs I 200) (g := fun t => (cts I 200 t).toInt) 256 (fun t ht h => (cts_b hF ht h).1)
  have n2 := zs_le (p := prs I 200) (g := fun t => (cts I 200 t).toInt) (B := 9999) 256 (fun t ht h => (cts_b hF ht h).2)
  have hl := aT_len (prs I 200)
  have hl2 : (lN (aT (prs I 200)).length).toInt = ((aT (prs I 200)).length : Int) := lN_toInt (by omega)
  have n3 : ((aT (prs I 200)).length : Int) * 9999 ≤ 256 * 9999 := Int.mul_le_mul_of_nonneg_right (by omega) (by decide)
  have n2' : zs (prs I 200) (fun t => (cts I 200 t).toInt) 256 ≤ ((aT (prs I 200)).length : Int) * 9999 := n2
  have e' : (lsum (aT (prs I 200)) (cts I 200)).toInt = zs (prs I 200) (fun t => (cts I 200 t).toInt) 256 := e
  have d1 : (mnD (prs I 200) (cts I 200)).toInt = zs (prs I 200) (fun t => (cts I 200 t).toInt) 256 / ((aT (prs I 200)).length : Int) := by
    rw [mnD, if_neg h0, fdL_nn (by rw [e']; exact n1) (by rw [e']; omega) (by rw [hl2]; omega), e', hl2]
  refine ⟨d1, ?_, ?_⟩
  · rw [d1]; exact Int.ediv_nonneg n1 (by omega)
  · rw [d1]
    refine Int.le_of_lt_add_one (Int.ediv_lt_of_lt_mul (by omega) ?_)
    have : (9999 + 1 : Int) * ((aT (prs I 200)).length : Int) = ((aT (prs I 200)).length : Int) * 9999 + ((aT (prs I 200)).length : Int) := by rw [Int.add_mul, Int.mul_comm]; simp
    omega
theorem aT_ne {p : Nat → Bool} {t : Nat} (ht : t < 256) (h : p t = true) : (aT p).length ≠ 0 := by
  have hm : t ∈ aT p := tl_mem.mpr ⟨ht, h⟩
  intro z
  rw [List.length_eq_zero_iff] at z
  rw [z] at hm
  cases hm
theorem mnV_b (hF : lF I) {t : Nat} (ht : t < 256) (h : prs I 200 t = true) : (mnV (prs I 200) (cts I 200) t).toInt = (cts I 200 t).toInt - (mnD (prs I 200) (cts I 200)).toInt ∧ -9999 ≤ (mnV (prs I 200) (cts I 200) t).toInt ∧ (mnV (prs I 200) (cts I 200) t).toInt ≤ 9999 := by
  have h1 := cts_b hF ht h
  have h2 := mnD_b hF (aT_ne ht h)
  have e : (mnV (prs I 200) (cts I 200) t).toInt = (cts I 200 t).toInt - (mnD (prs I 200) (cts I 200)).toInt := by
    simp only [mnV]
    rw [Int64.toInt_sub]; exact bm64 (by omega) (by omega)
  rw [e]; omega
theorem zs_c {p : Nat → Bool} {f g : Nat → Int} : ∀ n, (∀ t, t < n → p t = true → f t = g t) → zs p f n = zs p g n := by
  intro n
  induction n with
  | zero => intro _; rfl
  | succ n ih =>
    intro h
    cases hp : p n with
    | false => rw [zs_f hp, zs_f hp]; exact ih (fun t ht => h t (by omega))
    | true => rw [zs_t hp, zs_t hp, ih (fun t ht => h t (by omega)), h n (by omega) hp]
/-- the values by the mean sum up to less than the frames -/
theorem mean_sum (hF : lF I) : 0 ≤ (lsum (aT (prs I 200)) (mnV (prs I 200) (cts I 200))).toInt ∧ ((aT (prs I 200)).length ≠ 0 → (lsum (aT (prs I 200)) (mnV (prs I 200) (cts I 200))).toInt < ((aT (prs I 200)).length : Int)) := by
  by_cases h0 : (aT (prs I 200)).length = 0
  · have e : aT (prs I 200) = [] := List.length_eq_zero_iff.mp h0
    rw [e]
    exact ⟨by rw [lsum_nil]; decide, fun z => absurd rfl z⟩
  · have hd := mnD_b hF h0
    have hb : ∀ t, t < 256 → prs I 200 t = true → -9999 ≤ (mnV (prs I 200) (cts I 200) t).toInt ∧ (mnV (prs I 200) (cts I 200) t).toInt ≤ 9999 := fun t ht h => (mnV_b hF ht h).2
    have e := zs_lsum (p := prs I 200) (f := mnV (prs I 200) (cts I 200)) (B := 9999) (by decide) (by decide) 256 (Nat.le_refl _) hb
    have e' : (lsum (aT (prs I 200)) (mnV (prs I 200) (cts I 200))).toInt = zs (prs I 200) (fun t => (mnV (prs I 200) (cts I 200) t).toInt) 256 := e
    rw [e', zs_c 256 (fun t ht h => (mnV_b hF ht h).1), zs_sub, hd.1]
    have hl : (0 : Int) < ((tl (prs I 200) 256).length : Int) := by
      have : (aT (prs I 200)).length ≠ 0 := h0
      have h9 : (tl (prs I 200) 256).length ≠ 0 := this
      omega
    generalize zs (prs I 200) (fun t => (cts I 200 t).toInt) 256 = T
    show 0 ≤ T - ((tl (prs I 200) 256).length : Int) * (T / ((tl (prs I 200) 256).length : Int)) ∧ (_ → T - ((tl (prs I 200) 256).length : Int) * (T / ((tl (prs I 200) 256).length : Int)) < ((tl (prs I 200) 256).length : Int))
    generalize ((tl (prs I 200) 256).length : Int) = n at hl
    have h1 := Int.mul_ediv_add_emod T n
    have h2 := Int.emod_nonneg T (show n ≠ 0 by omega)
    have h3 := Int.emod_lt_of_pos T hl
    omega
theorem drB_v {p : Nat → Bool} (h0 : (aT p).length ≠ 0) : (drB p).toInt = (tZ p : Int) - tF p ∧ tF p ≤ tZ p ∧ tZ p < 256 := by
  obtain ⟨-, -, a1, a2, a3, a4⟩ := fs_tF h0
  have h := tF_le a2 a4
  refine ⟨?_, h.1, a2⟩
  unfold drB
  rw [Int32.toInt_toInt64]
  exact pk_sub_toInt (by omega) (by omega)
theorem drV_b (hF : lF I) {t : Nat} (ht : t < 256) (h : prs I 200 t = true) : -3000000 ≤ (drV (prs I 200) (cts I 200) t).toInt ∧ (drV (prs I 200) (cts I 200) t).toInt ≤ 3000000 := by
  have h0 := aT_ne ht h
  obtain ⟨-, -, a1, a2, a3, a4⟩ := fs_tF h0
  have hb := drB_v h0
  have ht2 := tF_le ht h
  have c0 := cts_b hF ht h
  have c1 := cts_b hF a1 a3
  have c2 := cts_b hF a2 a4
  have e1 : (cts I 200 (tZ (prs I 200)) - cts I 200 (tF (prs I 200))).toInt = (cts I 200 (tZ (prs I 200))).toInt - (cts I 200 (tF (prs I 200))).toInt := by rw [Int64.toInt_sub]; exact bm64 (by omega) (by omega)
  have e2 : (nI t - nI (tF (prs I 200))).toInt64.toInt = (t : Int) - tF (prs I 200) := by rw [Int32.toInt_toInt64]; exact pk_sub_toInt (by omega) (by omega)
  have m := mul_b (a := (cts I 200 (tZ (prs I 200))).toInt - (cts I 200 (tF (prs I 200))).toInt) (b := (t : Int) - tF (prs I 200)) (A := 9999) (B := 255) (by omega) (by omega)
  have e3 : ((cts I 200 (tZ (prs I 200)) - cts I 200 (tF (prs I 200))) * (nI t - nI (tF (prs I 200))).toInt64).toInt = ((cts I 200 (tZ (prs I 200))).toInt - (cts I 200 (tF (prs I 200))).toInt) * ((t : Int) - tF (prs I 200)) := by
    rw [Int64.toInt_mul, e1, e2]; exact bm64 (by omega) (by omega)
  have hq : -2549746 ≤ ((if drB (prs I 200) ≤ 0 then 0 else fdL ((cts I 200 (tZ (prs I 200)) - cts I 200 (tF (prs I 200))) * (nI t - nI (tF (prs I 200))).toInt64) (drB (prs I 200))) : Int64).toInt ∧ ((if drB (prs I 200) ≤ 0 then 0 else fdL ((cts I 200 (tZ (prs I 200)) - cts I 200 (tF (prs I 200))) * (nI t - nI (tF (prs I 200))).toInt64) (drB (prs I 200))) : Int64).toInt ≤ 2549746 := by
    split
    · exact ⟨by decide, by decide⟩
    · rename_i z
      rw [Int64.le_iff_toInt_le, Int64.toInt_zero] at z
      have := fdL_b (A := 2549745) (a := (cts I 200 (tZ (prs I 200)) - cts I 200 (tF (prs I 200))) * (nI t - nI (tF (prs I 200))).toInt64) (b := drB (prs I 200)) (by rw [e3]; omega) (by decide) (by omega)
      omega
  simp only [drV, drD]
  generalize (if drB (prs I 200) ≤ 0 then 0 else fdL ((cts I 200 (tZ (prs I 200)) - cts I 200 (tF (prs I 200))) * (nI t - nI (tF (prs I 200))).toInt64) (drB (prs I 200)) : Int64) = q at hq
  have e4 : (cts I 200 (tF (prs I 200)) + q).toInt = (cts I 200 (tF (prs I 200))).toInt + q.toInt := by rw [Int64.toInt_add]; exact bm64 (by omega) (by omega)
  rw [Int64.toInt_sub, e4, bm64 (by omega) (by omega)]
  omega
theorem fdL_ex {m b : Int64} (hm : -(2 : Int) ^ 40 < m.toInt ∧ m.toInt < (2 : Int) ^ 40) (hb : 0 < b.toInt) (hb2 : b.toInt < 256) : fdL (m * b) b = m := by
  have q := mul_b (A := (2 : Int) ^ 40) (B := 256) (a := m.toInt) (b := b.toInt) (by omega) (by omega)
  have e1 : (m * b).toInt = m.toInt * b.toInt := by rw [Int64.toInt_mul]; exact bm64 (by omega) (by omega)
  have e2 : m * b / b = m := by
    apply Int64.toInt_inj.mp
    rw [Int64.toInt_div, e1, Int.mul_tdiv_cancel _ (by omega)]
    exact bm64 (by omega) (by omega)
  unfold fdL
  rw [e2]
  split
  · rfl
  · rw [if_pos rfl]
/-- by the drift the first and the last value are 0 -/
theorem drV_ends (hF : lF I) (h0 : (aT (prs I 200)).length ≠ 0) : drV (prs I 200) (cts I 200) (tF (prs I 200)) = 0 ∧ drV (prs I 200) (cts I 200) (tZ (prs I 200)) = 0 := by
  obtain ⟨-, -, a1, a2, a3, a4⟩ := fs_tF h0
  have hb := drB_v h0
  have c1 := cts_b hF a1 a3
  have c2 := cts_b hF a2 a4
  have e1 : (cts I 200 (tZ (prs I 200)) - cts I 200 (tF (prs I 200))).toInt = (cts I 200 (tZ (prs I 200))).toInt - (cts I 200 (tF (prs I 200))).toInt := by rw [Int64.toInt_sub]; exact bm64 (by omega) (by omega)
  simp only [drV, drD]
  constructor
  · have z : (nI (tF (prs I 200)) - nI (tF (prs I 200))).toInt64 = 0 := by rw [Int32.sub_self]; rfl
    rw [z, Int64.mul_zero]
    have w : (if drB (prs I 200) ≤ 0 then 0 else fdL 0 (drB (prs I 200)) : Int64) = 0 := by
      split
      · rfl
      · rename_i y
        rw [Int64.le_iff_toInt_le, Int64.toInt_zero] at y
        have := fdL_ex (m := 0) (b := drB (prs I 200)) (by decide) (by omega) (by omega)
        rw [Int64.zero_mul] at this
        exact this
    rw [w, Int64.add_zero, Int64.sub_self]
  · split
    · rename_i y
      rw [Int64.le_iff_toInt_le, Int64.toInt_zero] at y
      have e : tZ (prs I 200) = tF (prs I 200) := by omega
      rw [e, Int64.add_zero, Int64.sub_self]
    · rename_i y
      rw [Int64.le_iff_toInt_le, Int64.toInt_zero] at y
      have w := fdL_ex (m := cts I 200 (tZ (prs I 200)) - cts I 200 (tF (prs I 200))) (b := drB (prs I 200)) (by omega) (by omega) (by omega)
      rw [show (nI (tZ (prs I 200)) - nI (tF (prs I 200))).toInt64 = drB (prs I 200) from rfl, w]
      apply Int64.toInt_inj.mp
      have e4 : (cts I 200 (tF (prs I 200)) + (cts I 200 (tZ (prs I 200)) - cts I 200 (tF (prs I 200)))).toInt = (cts I 200 (tZ (prs I 200))).toInt := by rw [Int64.toInt_add, e1, bm64 (by omega) (by omega)]; omega
      rw [Int64.toInt_sub, e4, Int.sub_self]; rfl
theorem laid_b (hF : lF I) {fl t : Nat} (hfl : fl < 3) (ht : t < 256) (h : prs I 200 t = true) : -3000000 ≤ (laid I 200 (nI fl) 0 t).toInt ∧ (laid I 200 (nI fl) 0 t).toInt ≤ 3000000 := by
  show -3000000 ≤ (flV (prs I 200) (cts I 200) (nI fl) t).toInt ∧ (flV (prs I 200) (cts I 200) (nI fl) t).toInt ≤ 3000000
  have e : fl = 0 ∨ fl = 1 ∨ fl = 2 := by omega
  rcases e with e | e | e
  · subst e
    rw [show flV (prs I 200) (cts I 200) (nI 0) = cts I 200 from rfl]
    have := cts_b hF ht h; omega
  · subst e
    rw [show flV (prs I 200) (cts I 200) (nI 1) = mnV (prs I 200) (cts I 200) from rfl]
    have := mnV_b hF ht h; omega
  · subst e
    rw [show flV (prs I 200) (cts I 200) (nI 2) = drV (prs I 200) (cts I 200) from rfl]
    exact drV_b hF ht h
end L0
