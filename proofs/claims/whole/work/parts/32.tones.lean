/-! both sides tell the same: tones -/
theorem bm32 {z : Int} (h : -(2 : Int) ^ 31 ≤ z) (h2 : z < (2 : Int) ^ 31) : z.bmod (2 ^ 32) = z := by
  rw [Int.bmod_def]
  split <;> omega
abbrev sm29 (x : Int32) : Prop := -(2 : Int) ^ 29 < x.toInt ∧ x.toInt < (2 : Int) ^ 29
theorem sub_ti {a b : Int32} (ha : sm29 a) (hb : sm29 b) : (a - b).toInt = a.toInt - b.toInt := by
  rw [Int32.toInt_sub]; exact bm32 (by omega) (by omega)
theorem iabs_ti {a : Int32} (h1 : -(2 : Int) ^ 30 < a.toInt) (h2 : a.toInt < (2 : Int) ^ 30) : (iabs a).toInt = (a.toInt.natAbs : Int) := by
  rw [iabs]
  split
  · rename_i z; rw [Int32.le_iff_toInt_le, Int32.toInt_zero] at z; omega
  · rename_i z; rw [Int32.le_iff_toInt_le, Int32.toInt_zero] at z
    rw [Int32.toInt_neg, bm32 (by omega) (by omega)]; omega
theorem tnL_abs (a : Int32) : tnL a = 500 - iabs a := by
  rw [tnL, iabs]
  by_cases h : a < 0
  · rw [if_pos h, if_neg (Int32.not_le.mpr h)]
  · rw [if_neg h, if_pos (Int32.not_lt.mp h)]
theorem tn1_rg1 {t c d : Int32} (ht : sm29 t) (hc : sm29 c) : tn1 t c d = rg1 t c d := by
  have e := sub_ti ht hc
  have ea := iabs_ti (a := t - c) (by omega) (by omega)
  have e5 : (500 : Int32).toInt = 500 := by decide
  have h1 : (0 < tnL (t - c)) ↔ iabs (t - c) < 500 := by
    rw [tnL_abs, Int32.lt_iff_toInt_lt, Int32.lt_iff_toInt_lt, Int32.toInt_zero, Int32.toInt_sub, e5, bm32 (by omega) (by omega)]
    omega
  have h2 : (t - c < 0) ↔ t < c := by
    rw [Int32.lt_iff_toInt_lt, Int32.lt_iff_toInt_lt, Int32.toInt_zero, e]; omega
  rw [tn1, rg1]
  by_cases hd : d = 1
  · rw [if_pos hd, if_pos hd]
    by_cases ha : iabs (t - c) < 500
    · rw [if_pos (h1.mpr ha), if_pos ha, tnL_abs]
      by_cases hb : t < c
      · rw [if_pos (h2.mpr hb), if_pos hb]
      · rw [if_neg (fun z => hb (h2.mp z)), if_neg hb]
    · rw [if_neg (fun z => ha (h1.mp z)), if_neg ha]
  · rw [if_neg hd, if_neg hd]
theorem tn0_rg0 {la sm o d : Nat} (h1 : la ≤ 1000000) (h3 : o ≤ 12) (h4 : d ≤ 3) : tn0 (nI la) (nI sm) (nI o) (nI d) = rg0 (nI la) (nI sm) (nI o) (nI d) := by
  have e : nI la * (2 * nI o + nI d + 3) = nI (la * (2 * o + d + 3)) := by
    rw [show (2 : Int32) = nI 2 from rfl, show (3 : Int32) = nI 3 from rfl, nI_mul, nI_add, nI_add, nI_mul]
  have hb : la * (2 * o + d + 3) ≤ 1000000 * 30 := Nat.mul_le_mul h1 (by omega)
  rw [tn0, rg0, e, show (2 : Int32) = nI 2 from rfl, fdI_N (by omega) (by omega)]
theorem rg0_sm {la sm o d : Nat} (h1 : la ≤ 1000000) (h2 : sm ≤ 1000) (h3 : o ≤ 12) (h4 : d ≤ 3) : sm29 (rg0 (nI la) (nI sm) (nI o) (nI d)) := by
  have e : nI la * (2 * nI o + nI d + 3) = nI (la * (2 * o + d + 3)) := by
    rw [show (2 : Int32) = nI 2 from rfl, show (3 : Int32) = nI 3 from rfl, nI_mul, nI_add, nI_add, nI_mul]
  have hb : la * (2 * o + d + 3) ≤ 1000000 * 30 := Nat.mul_le_mul h1 (by omega)
  have hs : sm * d * (d + 1) ≤ 1000 * 3 * 4 := Nat.mul_le_mul (Nat.mul_le_mul h2 h4) (by omega)
  have e2 : nI sm * nI d * (nI d + 1) = nI (sm * d * (d + 1)) := by
    rw [← nI_succ, nI_mul, nI_mul]
  rw [rg0, e, e2, show (2 : Int32) = nI 2 from rfl, fdI_N (by omega) (by omega), pk_div (by omega) (by omega) (by omega)]
  have hd : la * (2 * o + d + 3) / 2 ≤ 1000000 * 30 := Nat.le_trans (Nat.div_le_self _ _) hb
  generalize la * (2 * o + d + 3) / 2 = A at *
  generalize sm * d * (d + 1) = B at *
  unfold sm29
  rw [Int32.toInt_sub, nI_toInt (by omega), nI_toInt (by omega), bm32 (by omega) (by omega)]
  omega
/-- a tone is the same on both sides -/
theorem tn_rg {la sm co o d : Nat} {tu p : Int32} (h1 : la ≤ 1000000) (h2 : sm ≤ 1000) (hc : co ≤ 4000000) (h3 : o ≤ 12) (h4 : d ≤ 3) : tnM (nI la) (nI sm) tu (nI co) (nI o) (nI d) p = rgD (nI la) (nI sm) tu (nI co) (nI o) (nI d) p := by
  rw [tnM, rgD, tn0_rg0 h1 h3 h4, tn1_rg1 (rg0_sm h1 h2 h3 h4) (by unfold sm29; rw [nI_toInt (by omega)]; omega)]
theorem sz_abs {a : Int32} (h1 : -(2 : Int) ^ 30 < a.toInt) (h2 : a.toInt < (2 : Int) ^ 30) : szL a.toInt64 = (iabs a).toInt64 := by
  apply Int64.toInt_inj.mp
  rw [Int32.toInt_toInt64, iabs_ti h1 h2, szL]
  split
  · rename_i z; rw [Int64.le_iff_toInt_le, Int64.toInt_zero, Int32.toInt_toInt64] at z; rw [Int32.toInt_toInt64]; omega
  · rename_i z; rw [Int64.le_iff_toInt_le, Int64.toInt_zero, Int32.toInt_toInt64] at z
    rw [Int64.toInt_neg, Int32.toInt_toInt64, bm64 (by omega) (by omega)]; omega
