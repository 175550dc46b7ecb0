/-! the law: light in whole numbers -/
/-- sums over the times that p tells -/
def zs (p : Nat → Bool) (g : Nat → Int) : Nat → Int
  | 0 => 0
  | n + 1 => if p n = true then zs p g n + g n else zs p g n
theorem zs_t {p : Nat → Bool} {g : Nat → Int} {n : Nat} (h : p n = true) : zs p g (n + 1) = zs p g n + g n := if_pos h
theorem zs_f {p : Nat → Bool} {g : Nat → Int} {n : Nat} (h : p n = false) : zs p g (n + 1) = zs p g n := if_neg (by rw [h]; decide)
theorem zs_b {p : Nat → Bool} {g : Nat → Int} {B : Int} (hB : 0 ≤ B) : ∀ n, (∀ t, t < n → p t = true → -B ≤ g t ∧ g t ≤ B) → -(n * B) ≤ zs p g n ∧ zs p g n ≤ n * B := by
  intro n
  induction n with
  | zero => intro _; exact ⟨by simp [zs], by simp [zs]⟩
  | succ n ih =>
    intro h
    have h1 := ih (fun t ht => h t (by omega))
    have e : ((n + 1 : Nat) : Int) * B = n * B + B := by rw [Int.natCast_add, Int.add_mul]; simp
    rw [e]
    cases hp : p n with
    | false => rw [zs_f hp]; omega
    | true => have := h n (by omega) hp; rw [zs_t hp]; omega
theorem zs_lsum {p : Nat → Bool} {f : Nat → Int64} {B : Int} (hB : 0 ≤ B) (hB2 : 256 * B < (2 : Int) ^ 61) : ∀ n, n ≤ 256 → (∀ t, t < n → p t = true → -B ≤ (f t).toInt ∧ (f t).toInt ≤ B) → (lsum (tl p n) f).toInt = zs p (fun t => (f t).toInt) n := by
  intro n
  induction n with
  | zero => intro _ _; rfl
  | succ n ih =>
    intro hn h
    have h1 := ih (by omega) (fun t ht => h t (by omega))
    have h2 := zs_b (g := fun t => (f t).toInt) hB n (fun t ht => h t (by omega))
    have h3 : (n : Int) * B ≤ 255 * B := Int.mul_le_mul_of_nonneg_right (by omega) hB
    cases hp : p n with
    | false => rw [tl_f hp, zs_f hp]; exact h1
    | true =>
      have h4 := h n (by omega) hp
      rw [tl_t hp, zs_t hp, lsum_snoc, Int64.toInt_add, h1, bm64 (by omega) (by omega)]
theorem zs_len {p : Nat → Bool} {d : Int} : ∀ n, zs p (fun _ => d) n = ((tl p n).length : Int) * d := by
  intro n
  induction n with
  | zero => rw [tl_0]; simp [zs]
  | succ n ih =>
    cases hp : p n with
    | false => rw [tl_f hp, zs_f hp]; exact ih
    | true => rw [tl_t hp, zs_t hp, ih, List.length_append, Int.natCast_add, Int.add_mul]; simp
theorem zs_sub {p : Nat → Bool} {g : Nat → Int} {d : Int} : ∀ n, zs p (fun t => g t - d) n = zs p g n - ((tl p n).length : Int) * d := by
  intro n
  induction n with
  | zero => rw [tl_0]; simp [zs]
  | succ n ih =>
    cases hp : p n with
    | false => rw [tl_f hp, zs_f hp, zs_f hp]; exact ih
    | true =>
      rw [tl_t hp, zs_t hp, zs_t hp, ih, List.length_append, Int.natCast_add, Int.add_mul]
      simp; omega
theorem zs_nn {p : Nat → Bool} {g : Nat → Int} : ∀ n, (∀ t, t < n → p t = true → 0 ≤ g t) → 0 ≤ zs p g n := by
  intro n
  induction n with
  | zero => intro _; simp [zs]
  | succ n ih =>
    intro h
    have h1 := ih (fun t ht => h t (by omega))
    cases hp : p n with
    | false => rw [zs_f hp]; exact h1
    | true => have := h n (by omega) hp; rw [zs_t hp]; omega
theorem zs_le {p : Nat → Bool} {g : Nat → Int} {B : Int} : ∀ n, (∀ t, t < n → p t = true → g t ≤ B) → zs p g n ≤ ((tl p n).length : Int) * B := by
  intro n
  induction n with
  | zero => intro _; rw [tl_0]; simp [zs]
  | succ n ih =>
    intro h
    have h1 := ih (fun t ht => h t (by omega))
    cases hp : p n with
    | false => rw [tl_f hp, zs_f hp]; exact h1
    | true =>
      have := h n (by omega) hp
      rw [tl_t hp, zs_t hp, List.length_append, Int.natCast_add, Int.add_mul]
      simp; omega
theorem acos_b (j : Nat) : -1000 ≤ (acos j).toInt ∧ (acos j).toInt ≤ 1000 := by
  by_cases h : j < 64
  · have : ∀ j : Fin 64, -1000 ≤ (acos j.val).toInt ∧ (acos j.val).toInt ≤ 1000 := by decide +kernel
    exact this ⟨j, h⟩
  · have e : acos j = 0 := by
      unfold acos
      rw [List.getD_eq_getElem?_getD, List.getElem?_eq_none (by simp; omega)]; rfl
    rw [e]; decide
theorem cosL_b (x : Int32) (t : Nat) : -1000 ≤ (cosL x t).toInt ∧ (cosL x t).toInt ≤ 1000 := by
  unfold cosL
  rw [Int32.toInt_toInt64]
  exact acos_b _
theorem sinL_b (x : Int32) (t : Nat) : -1000 ≤ (sinL x t).toInt ∧ (sinL x t).toInt ≤ 1000 := by
  unfold sinL
  rw [Int32.toInt_toInt64]
  exact acos_b _
theorem mul_b {a b A B : Int} (ha : -A ≤ a ∧ a ≤ A) (hb : -B ≤ b ∧ b ≤ B) : -(A * B) ≤ a * b ∧ a * b ≤ A * B := by
  have hA : 0 ≤ A := by omega
  have hB : 0 ≤ B := by omega
  have h : (a * b).natAbs ≤ (A * B).natAbs := by
    rw [Int.natAbs_mul, Int.natAbs_mul]
    exact Nat.mul_le_mul (by omega) (by omega)
  have h2 : 0 ≤ A * B := Int.mul_nonneg hA hB
  omega
/-- a sum of values times the table's -/
theorem lsum_c {p : Nat → Bool} {V c : Nat → Int64} (hV : ∀ t, t < 256 → p t = true → -3000000 ≤ (V t).toInt ∧ (V t).toInt ≤ 3000000) (hc : ∀ t, -1000 ≤ (c t).toInt ∧ (c t).toInt ≤ 1000) : -768000000000 ≤ (lsum (aT p) (fun t => V t * c t)).toInt ∧ (lsum (aT p) (fun t => V t * c t)).toInt ≤ 768000000000 := by
  have hb : ∀ t, t < 256 → p t = true → -3000000000 ≤ (V t * c t).toInt ∧ (V t * c t).toInt ≤ 3000000000 := fun t ht hp => by
    have h := mul_b (A := 3000000) (B := 1000) (hV t ht hp) (hc t)
    rw [Int64.toInt_mul, bm64 (by omega) (by omega)]
    omega
  have e := zs_lsum (p := p) (f := fun t => V t * c t) (B := 3000000000) (by decide) (by decide) 256 (Nat.le_refl _) hb
  have z := zs_b (p := p) (g := fun t => (V t * c t).toInt) (B := 3000000000) (by decide) 256 hb
  show _ ≤ (lsum (tl p 256) _).toInt ∧ (lsum (tl p 256) _).toInt ≤ _
  rw [e]
  omega
theorem sq_nn {a : Int64} (h : -768000000000 ≤ a.toInt ∧ a.toInt ≤ 768000000000) : 0 ≤ (a / 1000 * (a / 1000)).toInt ∧ (a / 1000 * (a / 1000)).toInt ≤ 600000000000000000 := by
  have e9 : (1000 : Int64).toInt = 1000 := by decide
  have hq : (a.toInt.tdiv 1000).natAbs = a.toInt.natAbs / 1000 := Int.natAbs_tdiv a.toInt 1000
  have e : (a / 1000).toInt = a.toInt.tdiv 1000 := by
    rw [Int64.toInt_div, e9]
    refine bm64 ?_ ?_
    · omega
    · omega
  have b : -768000000 ≤ (a / 1000).toInt ∧ (a / 1000).toInt ≤ 768000000 := by rw [e]; omega
  have m := mul_b (A := 768000000) (B := 768000000) b b
  have nn : 0 ≤ (a / 1000).toInt * (a / 1000).toInt := by
    rcases Int.le_total 0 (a / 1000).toInt with z | z
    · exact Int.mul_nonneg z z
    · exact Int.mul_nonneg_of_nonpos_of_nonpos z z
  rw [Int64.toInt_mul, bm64 (by omega) (by omega)]
  omega
theorem pw_nn {p : Nat → Bool} {V : Nat → Int64} {x : Int32} (hV : ∀ t, t < 256 → p t = true → -3000000 ≤ (V t).toInt ∧ (V t).toInt ≤ 3000000) : 0 ≤ pw p V x := by
  have h1 := sq_nn (lsum_c hV (fun t => cosL_b x t))
  have h2 := sq_nn (lsum_c hV (fun t => sinL_b x t))
  rw [Int64.le_iff_toInt_le, Int64.toInt_zero]
  show 0 ≤ (_ + _ : Int64).toInt
  rw [Int64.toInt_add, bm64]
  · have a1 := h1.1; have a2 := h2.1; exact Int.add_nonneg a1 a2
  · have a1 := h1.1; have a2 := h2.1; exact Int.le_trans (by decide) (Int.add_nonneg a1 a2)
  · have a1 := h1.2; have a2 := h2.2; exact Int.lt_of_le_of_lt (Int.add_le_add a1 a2) (by decide)
/-- the window at 0 -/
theorem pw_w0 {p : Nat → Bool} : pw p (fun _ => 1) (nI 0) = lN (aT p).length * lN (aT p).length := by
  have hc : ∀ t, cosL (nI 0) t = 1000 := fun t => by
    unfold cosL
    rw [show nI 0 * nI t = 0 from by rw [nI_mul, Nat.zero_mul]; rfl]
    decide
  have hs : ∀ t, sinL (nI 0) t = 0 := fun t => by
    unfold sinL
    rw [show nI 0 * nI t = 0 from by rw [nI_mul, Nat.zero_mul]; rfl]
    decide
  have e1 : sC p (fun _ => 1) (nI 0) = lN (1000 * (aT p).length) := by
    unfold sC
    have : ∀ n, lsum (tl p n) (fun t => 1 * cosL (nI 0) t) = lN (1000 * (tl p n).length) := by
      intro n
      induction n with
      | zero => rw [tl_0]; rfl
      | succ n ih =>
        cases hp : p n with
        | false => rw [tl_f hp]; exact ih
        | true =>
          rw [tl_t hp, lsum_snoc, ih, hc, List.length_append]
          show _ + lN 1 * lN 1000 = _
          rw [lN_mul, lN_add]; rfl
    exact this 256
  have e2 : sS p (fun _ => 1) (nI 0) = 0 := by
    unfold sS
    have : ∀ n, lsum (tl p n) (fun t => 1 * sinL (nI 0) t) = 0 := by
      intro n
      induction n with
      | zero => rw [tl_0]; rfl
      | succ n ih =>
        cases hp : p n with
        | false => rw [tl_f hp]; exact ih
        | true => rw [tl_t hp, lsum_snoc, ih, hs]; rfl
    exact this 256
  have hl := aT_len p
  rw [pw, e1, e2, show (1000 : Int64) = lN 1000 from rfl, pk_lDiv (by omega) (by decide) (by decide), Nat.mul_div_cancel_left _ (by decide)]
  show _ + (0 / lN 1000) * (0 / lN 1000) = _
  rw [show (0 : Int64) / lN 1000 = 0 from by decide, Int64.mul_zero, Int64.add_zero]
/-- quotients rounded down stay small -/
theorem fdL_b {a b : Int64} {A : Int} (ha : -A ≤ a.toInt ∧ a.toInt ≤ A) (hA : A < (2 : Int) ^ 60) (hb : 0 < b.toInt) : -(A + 1) ≤ (fdL a b).toInt ∧ (fdL a b).toInt ≤ A := by
  have hq : -A ≤ a.toInt.tdiv b.toInt ∧ a.toInt.tdiv b.toInt ≤ A := by
    have h := Int.natAbs_tdiv a.toInt b.toInt
    have h2 : a.toInt.natAbs / b.toInt.natAbs ≤ a.toInt.natAbs := Nat.div_le_self _ _
    rw [show a.toInt.natAbs / b.toInt.natAbs = (a.toInt.tdiv b.toInt).natAbs from h.symm] at h2
    omega
  have e : (a / b).toInt = a.toInt.tdiv b.toInt := by rw [Int64.toInt_div]; exact bm64 (by omega) (by omega)
  have e1 : (a / b - 1).toInt = a.toInt.tdiv b.toInt - 1 := by rw [Int64.toInt_sub, e, Int64.toInt_one]; exact bm64 (by omega) (by omega)
  unfold fdL
  split
  · rw [e]; omega
  · split
    · rw [e]; omega
    · rw [e1]; omega
theorem fdL_nn {a b : Int64} (ha : 0 ≤ a.toInt) (ha2 : a.toInt < (2 : Int) ^ 60) (hb : 0 < b.toInt) : (fdL a b).toInt = a.toInt / b.toInt := by
  have hx : 0 ≤ a ^^^ b := by rw [xs64]; omega
  have hq : 0 ≤ a.toInt / b.toInt ∧ a.toInt / b.toInt ≤ a.toInt := ⟨Int.ediv_nonneg ha (by omega), Int.ediv_le_self _ ha⟩
  unfold fdL
  rw [if_pos hx, Int64.toInt_div, Int.tdiv_eq_ediv_of_nonneg ha]
  exact bm64 (by omega) (by omega)
/-- a long that is an int -/
theorem l2i2l {x : Int64} (h : -(2 : Int) ^ 31 ≤ x.toInt) (h2 : x.toInt < (2 : Int) ^ 31) : x.toInt32.toInt64 = x := by
  apply Int64.toInt_inj.mp
  rw [Int32.toInt_toInt64, Int64.toInt_toInt32]
  exact bm32 h h2
theorem i2l2i (x : Int32) : x.toInt64.toInt32 = x := by
  apply Int32.toInt_inj.mp
  have h1 := x.toInt_lt
  have h2 := x.le_toInt
  rw [Int64.toInt_toInt32, Int32.toInt_toInt64]
  exact bm32 (by simpa using h2) (by simpa using h1)
