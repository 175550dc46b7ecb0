/-! both sides tell the same: ages -/
theorem nI_sm {a : Nat} (h : a < 2 ^ 29) : sm29 (nI a) := by unfold sm29; rw [nI_toInt (by omega)]; omega
theorem ab_lt {a b x : Int32} (ha : sm29 a) (hb : sm29 b) (hx : sm29 x) : (iabs (a - x) < iabs (b - x)) ↔ (szL (x - a).toInt64 < szL (x - b).toInt64) := by
  have e1 := sub_ti ha hx
  have e2 := sub_ti hb hx
  have e3 := sub_ti hx ha
  have e4 := sub_ti hx hb
  rw [sz_abs (by omega) (by omega), sz_abs (by omega) (by omega), Int32.lt_iff_toInt_lt, Int64.lt_iff_toInt_lt, Int32.toInt_toInt64, Int32.toInt_toInt64,
    iabs_ti (by omega) (by omega), iabs_ti (by omega) (by omega), iabs_ti (by omega) (by omega), iabs_ti (by omega) (by omega)]
  omega
theorem ag_bs {la ag : Nat → Int32} {x : Int32} (hx : sm29 x) : ∀ n, (∀ k, k < n → sm29 (la k)) → 0 < n → agN la ag x n = (ag (bsM la x n), iabs (la (bsM la x n) - x)) := by
  intro n
  induction n with
  | zero => intro _ h; omega
  | succ n ih =>
    intro hla _
    rcases Nat.eq_zero_or_pos n with e | e
    · subst e
      have hb : bsM la x 1 = 0 := rfl
      rw [hb]
      show (if iabs (la 0 - x) < 2147483647 then (ag 0, iabs (la 0 - x)) else (-1, 2147483647)) = _
      rw [if_pos]
      have h0 := hla 0 (by omega)
      have e1 := sub_ti h0 hx
      rw [Int32.lt_iff_toInt_lt, iabs_ti (by omega) (by omega)]
      have : (2147483647 : Int32).toInt = 2147483647 := by decide
      omega
    · have h1 := ih (fun k hk => hla k (by omega)) e
      have hlt := bsM_lt la x n e
      have h2 := ab_lt (hla n (by omega)) (hla (bsM la x n) (by omega)) hx
      have e0 : bsM la x (n + 1) = if szL (x - la n).toInt64 < szL (x - la (bsM la x n)).toInt64 then n else bsM la x n := if_neg (by omega)
      rw [agN, h1, e0]
      show (if iabs (la n - x) < iabs (la (bsM la x n) - x) then (ag n, iabs (la n - x)) else (ag (bsM la x n), iabs (la (bsM la x n) - x))) = _
      by_cases hc : szL (x - la n).toInt64 < szL (x - la (bsM la x n)).toInt64
      · rw [if_pos (h2.mpr hc), if_pos hc]
      · rw [if_neg (fun z => hc (h2.mp z)), if_neg hc]
