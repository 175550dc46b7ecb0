/-! both sides tell the same: bits -/
theorem bitL_bv {k : Nat} (hk : k < 40) : (bitL (nI k)).toBitVec = 1#64 <<< k := by
  have e : ((nI k).toInt64 &&& 63) = lN k := by
    rw [nI_l (by omega)]
    apply Int64.toBitVec_inj.mp
    show BitVec.ofNat 64 k &&& 63#64 = BitVec.ofNat 64 k
    apply BitVec.eq_of_toNat_eq
    rw [BitVec.toNat_and, BitVec.toNat_ofNat, BitVec.toNat_ofNat]
    rw [show 63 % 2 ^ 64 = 2 ^ 6 - 1 by decide, Nat.and_two_pow_sub_one_eq_mod]
    omega
  rw [bitL, e]
  show 1#64 <<< ((BitVec.ofNat 64 k).smod 64) = _
  have e2 : (BitVec.ofNat 64 k).smod 64 = BitVec.ofNat 64 k := by
    have : ∀ j : Fin 40, (BitVec.ofNat 64 j.val).smod 64 = BitVec.ofNat 64 j.val := by decide +kernel
    exact this ⟨k, hk⟩
  rw [e2]
  apply BitVec.eq_of_toNat_eq
  simp [BitVec.toNat_shiftLeft, Nat.mod_eq_of_lt (show k < 2 ^ 64 by omega)]
theorem bit_and {c : Int64} {k : Nat} (hk : k < 40) : c &&& bitL (nI k) ≠ 0 ↔ c.toBitVec.getLsbD k = true := by
  have h0 : c &&& bitL (nI k) = 0 ↔ (c.toBitVec &&& 1#64 <<< k) = 0#64 := by
    rw [← Int64.toBitVec_inj, ← bitL_bv hk]; rfl
  rw [ne_eq, h0]
  constructor
  · intro h
    cases hb : c.toBitVec.getLsbD k with
    | true => rfl
    | false =>
      exfalso; apply h
      apply BitVec.eq_of_getLsbD_eq
      intro i hi
      rw [BitVec.getLsbD_and, BitVec.getLsbD_shiftLeft]
      by_cases e : i = k
      · subst e; rw [hb]; simp
      · by_cases e2 : i < k
        · simp [e2]
        · have : ¬ (i - k = 0) := by omega
          simp [BitVec.getLsbD_one, this]
  · intro h z
    have := congrArg (fun b => b.getLsbD k) z
    simp [BitVec.getLsbD_and, BitVec.getLsbD_shiftLeft, h] at this
    omega
theorem bqP_bit {c : Int64} {k : Nat} (hk : k < 40) : bqP c k ↔ c.toBitVec.getLsbD k = true := by
  have e : ((nI k).toInt64 &&& 63) = lN k := by
    rw [nI_l (by omega)]
    apply Int64.toBitVec_inj.mp
    show BitVec.ofNat 64 k &&& 63#64 = BitVec.ofNat 64 k
    apply BitVec.eq_of_toNat_eq
    rw [BitVec.toNat_and, BitVec.toNat_ofNat, BitVec.toNat_ofNat]
    rw [show 63 % 2 ^ 64 = 2 ^ 6 - 1 by decide, Nat.and_two_pow_sub_one_eq_mod]
    omega
  have e2 : (BitVec.ofNat 64 k).smod 64 = BitVec.ofNat 64 k := by
    have : ∀ j : Fin 40, (BitVec.ofNat 64 j.val).smod 64 = BitVec.ofNat 64 j.val := by decide +kernel
    exact this ⟨k, hk⟩
  rw [bqP, e, ← Int64.toBitVec_inj]
  show (c.toBitVec.sshiftRight' ((BitVec.ofNat 64 k).smod 64)) &&& 1#64 = 1#64 ↔ _
  rw [e2]
  have h1 : ∀ b : BitVec 64, b &&& 1#64 = 1#64 ↔ b.getLsbD 0 = true := by
    intro b
    constructor
    · intro h
      have := congrArg (fun z => z.getLsbD 0) h
      simpa [BitVec.getLsbD_and] using this
    · intro h
      apply BitVec.eq_of_getLsbD_eq
      intro i hi
      rw [BitVec.getLsbD_and, BitVec.getLsbD_one]
      by_cases e : i = 0
      · subst e; simp [h]
      · simp [e]
  rw [h1, BitVec.sshiftRight', BitVec.getLsbD_sshiftRight]
  have hk9 : (BitVec.ofNat 64 k).toNat = k := by rw [BitVec.toNat_ofNat]; omega
  rw [hk9]
  simp [show k < 64 by omega]
theorem bqP_and {c : Int64} {k : Nat} (hk : k < 40) : bqP c k ↔ c &&& bitL (nI k) ≠ 0 := (bqP_bit hk).trans (bit_and hk).symm
/-- tones -/
theorem fdI_N {a b : Nat} (ha : a < 2 ^ 31) (hb : b < 2 ^ 31) : fdI (nI a) (nI b) = nI a / nI b := by
  rw [fdI, if_pos]
  have h : ∀ z : Int32, z.toBitVec.msb = decide (z.toInt < 0) := fun z => BitVec.msb_eq_toInt
  have h1 : (nI a ^^^ nI b).toBitVec.msb = Bool.xor (decide ((nI a).toInt < 0)) (decide ((nI b).toInt < 0)) := by
    rw [← h (nI a), ← h (nI b), ← BitVec.msb_xor]; rfl
  rw [h, nI_toInt ha, nI_toInt hb] at h1
  rw [Int32.le_iff_toInt_le, Int32.toInt_zero]
  have : ¬ ((a : Int) < 0) := by omega
  have : ¬ ((b : Int) < 0) := by omega
  simp_all
