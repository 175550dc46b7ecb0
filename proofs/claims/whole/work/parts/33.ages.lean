/-! both sides tell the same: ages -/
theorem nI_sm {a : Nat} (h : a < 2 ^ 29) : sm29 (nI a) := by unfold sm29; rw [nI_toInt (by omega)]; omega
theorem ab_lt {a b x : Int32} (ha : sm29 a) (hb : sm29 b) (hx : sm29 x) : (iabs (a - x) < iabs (b - x)) ↔ (szL (x - a).toInt64 < szL (x - b).toInt64) := by
  have e1 := sub_ti ha hx
  have e2 := sub_ti hb hx
  have e3 := sub_ti hx ha
  have e4 := sub_ti hx hb
  rw [sz_abs (by omega) (by omega), sz_abs (by omega) (by omega), Int32.lt_iff_toInt_lt, Int64.lt_iff_toInt_lt, Int32.toInt_toInt64, Int32.toInt_toInt64,
    iabs_ti (by omega) (by omega), iabs_ti (by omega) (by omega), iabs_ti (by omega) (by omega), iabs_ti (by omega) (by omega)]
  omega
theorem agB_bs {la : Nat → Int32} {x : Int32} (hx : sm29 x) : ∀ n, (∀ k, k < n → sm29 (la k)) → agB la x n = bsM la x n := by
  intro n
  induction n with
  | zero => intro _; rfl
  | succ n ih =>
    intro hla
    rw [agB, bsM, ih (fun k hk => hla k (by omega))]
    by_cases e : n = 0
    · rw [if_pos e, if_pos e]
    · have hlt := bsM_lt la x n (by omega)
      have h2 := ab_lt (hla n (by omega)) (hla (bsM la x n) (by omega)) hx
      rw [if_neg e, if_neg e]
      by_cases hc : szL (x - la n).toInt64 < szL (x - la (bsM la x n)).toInt64
      · rw [if_pos (h2.mpr hc), if_pos hc]
      · rw [if_neg (fun z => hc (h2.mp z)), if_neg hc]
theorem ag_bs {la ag : Nat → Int32} {x : Int32} (hx : sm29 x) (n : Nat) (h : ∀ k, k < n → sm29 (la k)) (h0 : 0 < n) : agN la ag x n = ag (bsM la x n) := by
  rw [agN, if_neg (by omega), agB_bs hx n h]
