/-! bits -/
theorem zI_n {p : Prop} : zI p ≠ 0 ↔ p := by
  by_cases h : p
  · rw [zI_t h]; exact ⟨fun _ => h, fun _ => by decide⟩
  · rw [zI_f h]; exact ⟨fun z => absurd rfl z, fun z => absurd z h⟩
theorem zI_z {p : Prop} : zI p = 0 ↔ ¬ p := ⟨fun z w => zI_n.mpr w z, zI_f⟩
theorem zI_c {p q : Prop} (h : p ↔ q) : zI p = zI q := by rw [propext h]
def bqP (c : Int64) (k : Nat) : Prop := c >>> ((nI k).toInt64 &&& 63) &&& 1 = 1
noncomputable def ctM (c : Int64) : Nat → Int32
  | 0 => 0
  | k + 1 => ctM c k + zI (bqP c k)
theorem bitL_bv {k : Nat} (hk : k < 40) : (bitL (nI k)).toBitVec = 1#64 <<< k := by
  have e : ((nI k).toInt64 &&& 63) = lN k := by
    rw [nI_l (by omega)]
    apply Int64.toBitVec_inj.mp
    show BitVec.ofNat 64 k &&& 63#64 = BitVec.ofNat 64 k
    apply BitVec.eq_of_toNat_eq
    rw [BitVec.toNat_and, BitVec.toNat_ofNat, BitVec.toNat_ofNat]
    rw [show 63 % 2 ^ 64 = 2 ^ 6 - 1 by decide, Nat.and_two_pow_sub_one_eq_mod]
    omega
  rw [bitL, e]
  show 1#64 <<< ((BitVec.ofNat 64 k).smod 64) = _
  have e2 : (BitVec.ofNat 64 k).smod 64 = BitVec.ofNat 64 k := by
    have : ∀ j : Fin 40, (BitVec.ofNat 64 j.val).smod 64 = BitVec.ofNat 64 j.val := by decide +kernel
    exact this ⟨k, hk⟩
  rw [e2]
  apply BitVec.eq_of_toNat_eq
  simp [BitVec.toNat_shiftLeft, Nat.mod_eq_of_lt (show k < 2 ^ 64 by omega)]
theorem bit_and {c : Int64} {k : Nat} (hk : k < 40) : c &&& bitL (nI k) ≠ 0 ↔ c.toBitVec.getLsbD k = true := by
  have h0 : c &&& bitL (nI k) = 0 ↔ (c.toBitVec &&& 1#64 <<< k) = 0#64 := by
    rw [← Int64.toBitVec_inj, ← bitL_bv hk]; rfl
  rw [ne_eq, h0]
  constructor
  · intro h
    cases hb : c.toBitVec.getLsbD k with
    | true => rfl
    | false =>
      exfalso; apply h
      apply BitVec.eq_of_getLsbD_eq
      intro i hi
      rw [BitVec.getLsbD_and, BitVec.getLsbD_shiftLeft]
      by_cases e : i = k
      · subst e; rw [hb]; simp
      · by_cases e2 : i < k
        · simp [e2]
        · have : ¬ (i - k = 0) := by omega
          simp [BitVec.getLsbD_one, this]
  · intro h z
    have := congrArg (fun b => b.getLsbD k) z
    simp [BitVec.getLsbD_and, BitVec.getLsbD_shiftLeft, h] at this
    omega
theorem bqP_bit {c : Int64} {k : Nat} (hk : k < 40) : bqP c k ↔ c.toBitVec.getLsbD k = true := by
  have e : ((nI k).toInt64 &&& 63) = lN k := by
    rw [nI_l (by omega)]
    apply Int64.toBitVec_inj.mp
    show BitVec.ofNat 64 k &&& 63#64 = BitVec.ofNat 64 k
    apply BitVec.eq_of_toNat_eq
    rw [BitVec.toNat_and, BitVec.toNat_ofNat, BitVec.toNat_ofNat]
    rw [show 63 % 2 ^ 64 = 2 ^ 6 - 1 by decide, Nat.and_two_pow_sub_one_eq_mod]
    omega
  have e2 : (BitVec.ofNat 64 k).smod 64 = BitVec.ofNat 64 k := by
    have : ∀ j : Fin 40, (BitVec.ofNat 64 j.val).smod 64 = BitVec.ofNat 64 j.val := by decide +kernel
    exact this ⟨k, hk⟩
  rw [bqP, e, ← Int64.toBitVec_inj]
  show (c.toBitVec.sshiftRight' ((BitVec.ofNat 64 k).smod 64)) &&& 1#64 = 1#64 ↔ _
  rw [e2]
  have h1 : ∀ b : BitVec 64, b &&& 1#64 = 1#64 ↔ b.getLsbD 0 = true := by
    intro b
    constructor
    · intro h
      have := congrArg (fun z => z.getLsbD 0) h
      simpa [BitVec.getLsbD_and] using this
    · intro h
      apply BitVec.eq_of_getLsbD_eq
      intro i hi
      rw [BitVec.getLsbD_and, BitVec.getLsbD_one]
      by_cases e : i = 0
      · subst e; simp [h]
      · simp [e]
  rw [h1, BitVec.sshiftRight', BitVec.getLsbD_sshiftRight]
  have hk9 : (BitVec.ofNat 64 k).toNat = k := by rw [BitVec.toNat_ofNat]; omega
  rw [hk9]
  simp [show k < 64 by omega]
theorem bqP_and {c : Int64} {k : Nat} (hk : k < 40) : bqP c k ↔ c &&& bitL (nI k) ≠ 0 := (bqP_bit hk).trans (bit_and hk).symm
/-- tones -/
theorem fdI_N {a b : Nat} (ha : a < 2 ^ 31) (hb : b < 2 ^ 31) : fdI (nI a) (nI b) = nI a / nI b := by
  rw [fdI, if_pos]
  have h : ∀ z : Int32, z.toBitVec.msb = decide (z.toInt < 0) := fun z => BitVec.msb_eq_toInt
  have h1 : (nI a ^^^ nI b).toBitVec.msb = Bool.xor (decide ((nI a).toInt < 0)) (decide ((nI b).toInt < 0)) := by
    rw [← h (nI a), ← h (nI b), ← BitVec.msb_xor]; rfl
  rw [h, nI_toInt ha, nI_toInt hb] at h1
  rw [Int32.le_iff_toInt_le, Int32.toInt_zero]
  have : ¬ ((a : Int) < 0) := by omega
  have : ¬ ((b : Int) < 0) := by omega
  simp_all
theorem bm32 {z : Int} (h : -(2 : Int) ^ 31 ≤ z) (h2 : z < (2 : Int) ^ 31) : z.bmod (2 ^ 32) = z := by
  rw [Int.bmod_def]
  split <;> omega
abbrev sm29 (x : Int32) : Prop := -(2 : Int) ^ 29 < x.toInt ∧ x.toInt < (2 : Int) ^ 29
theorem sub_ti {a b : Int32} (ha : sm29 a) (hb : sm29 b) : (a - b).toInt = a.toInt - b.toInt := by
  rw [Int32.toInt_sub]; exact bm32 (by omega) (by omega)
theorem iabs_ti {a : Int32} (h1 : -(2 : Int) ^ 30 < a.toInt) (h2 : a.toInt < (2 : Int) ^ 30) : (iabs a).toInt = (a.toInt.natAbs : Int) := by
  rw [iabs]
  split
  · rename_i z; rw [Int32.le_iff_toInt_le, Int32.toInt_zero] at z; omega
  · rename_i z; rw [Int32.le_iff_toInt_le, Int32.toInt_zero] at z
    rw [Int32.toInt_neg, bm32 (by omega) (by omega)]; omega
theorem rg0_sm {la sm o d : Nat} (h1 : la ≤ 1000000) (h2 : sm ≤ 1000) (h3 : o ≤ 12) (h4 : d ≤ 3) : sm29 (rg0 (nI la) (nI sm) (nI o) (nI d)) := by
  have e : nI la * (2 * nI o + nI d + 3) = nI (la * (2 * o + d + 3)) := by
    rw [show (2 : Int32) = nI 2 from rfl, show (3 : Int32) = nI 3 from rfl, nI_mul, nI_add, nI_add, nI_mul]
  have hb : la * (2 * o + d + 3) ≤ 1000000 * 30 := Nat.mul_le_mul h1 (by omega)
  have hs : sm * d * (d + 1) ≤ 1000 * 3 * 4 := Nat.mul_le_mul (Nat.mul_le_mul h2 h4) (by omega)
  have e2 : nI sm * nI d * (nI d + 1) = nI (sm * d * (d + 1)) := by
    rw [← nI_succ, nI_mul, nI_mul]
  rw [rg0, e, e2, show (2 : Int32) = nI 2 from rfl, fdI_N (by omega) (by omega), pk_div (by omega) (by omega) (by omega)]
  have hd : la * (2 * o + d + 3) / 2 ≤ 1000000 * 30 := Nat.le_trans (Nat.div_le_self _ _) hb
  generalize la * (2 * o + d + 3) / 2 = A at *
  generalize sm * d * (d + 1) = B at *
  unfold sm29
  rw [Int32.toInt_sub, nI_toInt (by omega), nI_toInt (by omega), bm32 (by omega) (by omega)]
  omega
theorem nI_sm {a : Nat} (h : a < 2 ^ 29) : sm29 (nI a) := by unfold sm29; rw [nI_toInt (by omega)]; omega
theorem nI_inj {a b : Nat} (ha : a < 2 ^ 31) (hb : b < 2 ^ 31) (e : nI a = nI b) : a = b := (nI_eq ha hb).mp e
theorem crS_N {f g : Nat → Int32} : ∀ m, m ≤ 8 → (∀ i, i < m → ∃ a b : Nat, f i = nI a ∧ g i = nI b ∧ 1 ≤ a ∧ a ≤ 99 ∧ 1 ≤ b ∧ b ≤ 99) → ∃ C : Nat, crS f g m = nI C ∧ 10 * m ≤ C ∧ C ≤ 99000 * m := by
  intro m
  induction m with
  | zero => intro _ _; exact ⟨0, rfl, Nat.le_refl _, Nat.le_refl _⟩
  | succ m ih =>
    intro h8 h
    obtain ⟨C, e, h1, h2⟩ := ih (by omega) (fun i hi => h i (by omega))
    obtain ⟨a, b, ea, eb, a1, a2, b1, b2⟩ := h m (by omega)
    have hd : 1000 * a / b ≤ 99000 := Nat.le_trans (Nat.div_le_self _ _) (by omega)
    have hd2 : 10 ≤ 1000 * a / b := (Nat.le_div_iff_mul_le (by omega)).mpr (by omega)
    refine ⟨C + 1000 * a / b, ?_, by omega, by omega⟩
    rw [crS, e, ea, eb, show (1000 : Int32) = nI 1000 from rfl, nI_mul, pk_div (by omega) (by omega) (by omega), nI_add]
theorem wtS_N {f : Nat → Int32} : ∀ m, m ≤ 8 → (∀ i, i < m → ∃ a : Nat, f i = nI a ∧ 1 ≤ a ∧ a ≤ 99) → ∃ C : Nat, wtS f m = nI C ∧ m ≤ C ∧ C ≤ 99 * m := by
  intro m
  induction m with
  | zero => intro _ _; exact ⟨0, rfl, Nat.le_refl _, Nat.le_refl _⟩
  | succ m ih =>
    intro h8 h
    obtain ⟨C, e, h1, h2⟩ := ih (by omega) (fun i hi => h i (by omega))
    obtain ⟨a, ea, a1, a2⟩ := h m (by omega)
    exact ⟨C + a, by rw [wtS, e, ea, nI_add], by omega, by omega⟩
theorem imax_N {a b : Nat} (ha : a ≤ 99) (hb : b ≤ 99) : imax 0 (nI a - nI b) = nI (a - b) := by
  have e : (nI a - nI b).toInt = (a : Int) - b := by
    rw [Int32.toInt_sub, nI_toInt (by omega), nI_toInt (by omega), bm32 (by omega) (by omega)]
  rw [imax]
  by_cases h : b < a
  · rw [if_pos (by rw [Int32.lt_iff_toInt_lt, e, Int32.toInt_zero]; omega)]
    apply Int32.toInt_inj.mp
    rw [e, nI_toInt (by omega)]; omega
  · rw [if_neg (by rw [Int32.lt_iff_toInt_lt, e, Int32.toInt_zero]; omega), show a - b = 0 by omega]; rfl
theorem slS_N {g : Nat → Int32} : ∀ m, m ≤ 8 → (∀ i, i < m → ∃ b : Nat, g i = nI b ∧ b ≤ 99) → ∃ C : Nat, slS g m = nI C ∧ C ≤ 99 * m := by
  intro m
  induction m with
  | zero => intro _ _; exact ⟨0, rfl, Nat.le_refl _⟩
  | succ m ih =>
    intro h8 h
    match m, ih, h with
    | 0, _, _ => exact ⟨0, rfl, Nat.zero_le _⟩
    | j + 1, ih, h =>
      obtain ⟨C, e, h1⟩ := ih (by omega) (fun i hi => h i (by omega))
      obtain ⟨a, ea, a2⟩ := h j (by omega)
      obtain ⟨b, eb, b2⟩ := h (j + 1) (by omega)
      refine ⟨C + (a - b), ?_, by omega⟩
      rw [slS, e, ea, eb, imax_N a2 b2, nI_add]
theorem rg1_sm {t c d : Int32} (ht : sm29 t) (hc : sm29 c) : -(2 : Int) ^ 29 - 250 < (rg1 t c d).toInt ∧ (rg1 t c d).toInt < (2 : Int) ^ 29 + 250 := by
  have e := sub_ti ht hc
  have ea := iabs_ti (a := t - c) (by omega) (by omega)
  rw [rg1]
  split
  · split
    · rename_i h
      have h9 : ¬ iabs (t - c) < 0 := fun z => by
        rw [Int32.lt_iff_toInt_lt, ea, Int32.toInt_zero] at z; omega
      obtain ⟨a, ha, hx⟩ := nI_of h9
      have h5 : a < 500 := by
        rw [hx, show (500 : Int32) = nI 500 from rfl, nI_ltI ha (by omega)] at h; exact h
      have e5 : (500 : Int32) - iabs (t - c) = nI (500 - a) := by
        rw [hx]
        apply Int32.toInt_inj.mp
        rw [Int32.toInt_sub, nI_toInt (by omega), nI_toInt (by omega), show (500 : Int32).toInt = 500 by decide, bm32 (by omega) (by omega)]
        omega
      have e6 : ((500 : Int32) - iabs (t - c)) / 2 = nI ((500 - a) / 2) := by
        rw [e5, show (2 : Int32) = nI 2 from rfl, pk_div (by omega) (by omega) (by omega)]
      have hq : (500 - a) / 2 ≤ 250 := by omega
      rw [e6]
      generalize (500 - a) / 2 = q at hq
      split
      · have e7 : (-nI q).toInt = -(q : Int) := by
          rw [Int32.toInt_neg, nI_toInt (by omega), bm32 (by omega) (by omega)]
        rw [Int32.toInt_add, e7, bm32 (by omega) (by omega)]; omega
      · rw [Int32.toInt_add, nI_toInt (by omega), bm32 (by omega) (by omega)]; omega
    · omega
  · omega
/-! both sides tell the same: how many bits -/
theorem and16 {a b c d : Nat} (ha : a < 16) (hc : c < 16) : (a + 16 * b) &&& (c + 16 * d) = (a &&& c) + 16 * (b &&& d) := by
  have h1 : ((a + 16 * b) &&& (c + 16 * d)) % 2 ^ 4 = (a &&& c) := by
    rw [Nat.and_mod_two_pow, show (a + 16 * b) % 2 ^ 4 = a by omega, show (c + 16 * d) % 2 ^ 4 = c by omega]
  have h2 : ((a + 16 * b) &&& (c + 16 * d)) / 2 ^ 4 = (b &&& d) := by
    rw [Nat.and_div_two_pow, show (a + 16 * b) / 2 ^ 4 = b by omega, show (c + 16 * d) / 2 ^ 4 = d by omega]
  omega
theorem and256 {a b c d : Nat} (ha : a < 256) (hc : c < 256) : (a + 256 * b) &&& (c + 256 * d) = (a &&& c) + 256 * (b &&& d) := by
  have h1 : ((a + 256 * b) &&& (c + 256 * d)) % 2 ^ 8 = (a &&& c) := by
    rw [Nat.and_mod_two_pow, show (a + 256 * b) % 2 ^ 8 = a by omega, show (c + 256 * d) % 2 ^ 8 = c by omega]
  have h2 : ((a + 256 * b) &&& (c + 256 * d)) / 2 ^ 8 = (b &&& d) := by
    rw [Nat.and_div_two_pow, show (a + 256 * b) / 2 ^ 8 = b by omega, show (c + 256 * d) / 2 ^ 8 = d by omega]
  omega
def m5 : Nat → Nat
  | 0 => 0
  | k + 1 => 5 + 16 * m5 k
def m3 : Nat → Nat
  | 0 => 0
  | k + 1 => 3 + 16 * m3 k
def mf : Nat → Nat
  | 0 => 0
  | k + 1 => 15 + 256 * mf k
def Sg (g : Nat → Nat) : Nat → Nat → Nat
  | 0, _ => 0
  | k + 1, n => g (n % 16) + 16 * Sg g k (n / 16)
theorem Sg_s (g : Nat → Nat) (k n : Nat) : Sg g (k + 1) n = g (n % 16) + 16 * Sg g k (n / 16) := rfl
theorem Sg_add (f g h : Nat → Nat) (e : ∀ d, d < 16 → f d + g d = h d) : ∀ k n, Sg f k n + Sg g k n = Sg h k n := by
  intro k
  induction k with
  | zero => intro n; rfl
  | succ k ih =>
    intro n
    have h1 := ih (n / 16)
    have h2 := e (n % 16) (by omega)
    rw [Sg_s, Sg_s, Sg_s]; omega
theorem Sg_id : ∀ k n, n < 16 ^ k → Sg (fun d => d) k n = n := by
  intro k
  induction k with
  | zero => intro n h; show 0 = n; rw [Nat.pow_zero] at h; omega
  | succ k ih =>
    intro n h
    have h1 := ih (n / 16) (by rw [Nat.pow_succ] at h; omega)
    rw [Sg_s, h1]; omega
theorem Sg_m5 : ∀ k n, (n / 2 &&& m5 k) = Sg (fun d => d / 2 &&& 5) k n := by
  intro k
  induction k with
  | zero => intro n; exact Nat.and_zero _
  | succ k ih =>
    intro n
    have e : n / 2 = ((n % 16) / 2 + 8 * (n / 16 % 2)) + 16 * (n / 16 / 2) := by omega
    have h8 : ∀ a : Fin 8, ∀ b : Fin 2, (a.val + 8 * b.val) &&& 5 = a.val &&& 5 := by decide +kernel
    have h9 := h8 ⟨n % 16 / 2, by omega⟩ ⟨n / 16 % 2, by omega⟩
    rw [e, m5, and16 (by omega) (by omega), ih, Sg_s]
    exact congrArg (· + 16 * Sg (fun d => d / 2 &&& 5) k (n / 16)) h9
theorem Sg_m3 {g : Nat → Nat} (hg : ∀ d, d < 16 → g d < 16) : ∀ k n, (Sg g k n &&& m3 k) = Sg (fun d => g d &&& 3) k n := by
  intro k
  induction k with
  | zero => intro n; exact Nat.and_zero _
  | succ k ih =>
    intro n
    rw [Sg_s, m3, and16 (hg _ (by omega)) (by omega), ih, Sg_s]
theorem Sg_m3q {g : Nat → Nat} (hg : ∀ d, d < 16 → g d < 16) : ∀ k n, (Sg g k n / 4 &&& m3 k) = Sg (fun d => g d / 4 &&& 3) k n := by
  intro k
  induction k with
  | zero => intro n; exact Nat.and_zero _
  | succ k ih =>
    intro n
    have h0 := hg (n % 16) (by omega)
    have e : (g (n % 16) + 16 * Sg g k (n / 16)) / 4 = (g (n % 16) / 4 + 4 * (Sg g k (n / 16) % 4)) + 16 * (Sg g k (n / 16) / 4) := by omega
    have h8 : ∀ a : Fin 4, ∀ b : Fin 4, (a.val + 4 * b.val) &&& 3 = a.val &&& 3 := by decide +kernel
    have h9 := h8 ⟨g (n % 16) / 4, by omega⟩ ⟨Sg g k (n / 16) % 4, by omega⟩
    rw [Sg_s, e, m3, and16 (by omega) (by omega), ih, Sg_s]
    exact congrArg (· + 16 * Sg (fun d => g d / 4 &&& 3) k (n / 16)) h9
def g1 (d : Nat) : Nat := d - (d / 2 &&& 5)
def g2 (d : Nat) : Nat := (g1 d &&& 3) + (g1 d / 4 &&& 3)
theorem g1_le : ∀ d, d < 16 → g1 d < 16 ∧ g1 d + (d / 2 &&& 5) = d := by
  have h : ∀ d : Fin 16, g1 d.val < 16 ∧ g1 d.val + (d.val / 2 &&& 5) = d.val := by decide +kernel
  exact fun d hd => h ⟨d, hd⟩
theorem g2_le : ∀ d, d < 16 → g2 d ≤ 4 ∧ g2 d = d % 2 + d / 2 % 2 + d / 4 % 2 + d / 8 % 2 := by
  have h : ∀ d : Fin 16, g2 d.val ≤ 4 ∧ g2 d.val = d.val % 2 + d.val / 2 % 2 + d.val / 4 % 2 + d.val / 8 % 2 := by decide +kernel
  exact fun d hd => h ⟨d, hd⟩
def Bt : Nat → Nat → Nat
  | 0, _ => 0
  | k + 1, z => z % 16 + 256 * Bt k (z / 256)
theorem Bt_s (k z : Nat) : Bt (k + 1) z = z % 16 + 256 * Bt k (z / 256) := rfl
theorem Bt_mf : ∀ k z, (z &&& mf k) = Bt k z := by
  intro k
  induction k with
  | zero => intro z; exact Nat.and_zero _
  | succ k ih =>
    intro z
    have e : z = z % 256 + 256 * (z / 256) := by omega
    have h : (z % 256 &&& 15) = z % 16 := by
      rw [show (15 : Nat) = 2 ^ 4 - 1 by decide, Nat.and_two_pow_sub_one_eq_mod]; omega
    rw [Bt_s, ← ih, ← h, mf]
    conv => lhs; rw [e]
    exact and256 (by omega) (by omega)
def Sb : Nat → Nat → Nat
  | 0, _ => 0
  | k + 1, n => (g2 (n % 16) + g2 (n / 16 % 16)) + 256 * Sb k (n / 256)
theorem Sb_s (k n : Nat) : Sb (k + 1) n = (g2 (n % 16) + g2 (n / 16 % 16)) + 256 * Sb k (n / 256) := rfl
theorem Bt_Sb : ∀ k n, Bt k (Sg g2 (2 * k) n + Sg g2 (2 * k) n / 16) = Sb k n := by
  intro k
  induction k with
  | zero => intro n; rfl
  | succ k ih =>
    intro n
    have h1 := (g2_le (n % 16) (by omega)).1
    have h2 := (g2_le (n / 16 % 16) (by omega)).1
    have hd : n / 16 / 16 = n / 256 := by omega
    have h3 := ih (n / 256)
    have hy : Sg g2 (2 * k) (n / 256) % 16 ≤ 4 := by
      match k with
      | 0 => exact Nat.zero_le _
      | j + 1 =>
        have h4 := (g2_le (n / 256 % 16) (by omega)).1
        rw [show 2 * (j + 1) = (2 * j + 1) + 1 by omega, Sg_s]; omega
    rw [show 2 * (k + 1) = 2 * k + 1 + 1 by omega, Sg_s, Sg_s, hd, Bt_s, Sb_s, ← h3]
    generalize Sg g2 (2 * k) (n / 256) = Y at *
    generalize g2 (n % 16) = a at *
    generalize g2 (n / 16 % 16) = b at *
    have e1 : (a + 16 * (b + 16 * Y) + (a + 16 * (b + 16 * Y)) / 16) % 16 = a + b := by omega
    have e2 : (a + 16 * (b + 16 * Y) + (a + 16 * (b + 16 * Y)) / 16) / 256 = Y + Y / 16 := by omega
    rw [e1, e2]
def pcn : Nat → Nat → Nat
  | 0, _ => 0
  | k + 1, n => n % 2 + pcn k (n / 2)
theorem pcn_s (k n : Nat) : pcn (k + 1) n = n % 2 + pcn k (n / 2) := rfl
theorem pcn_t : ∀ k n, pcn (k + 1) n = pcn k n + n / 2 ^ k % 2 := by
  intro k
  induction k with
  | zero => intro n; show n % 2 + 0 = 0 + n / 2 ^ 0 % 2; rw [Nat.pow_zero, Nat.div_one]; omega
  | succ k ih =>
    intro n
    rw [pcn_s, ih (n / 2), pcn_s, Nat.div_div_eq_div_mul, Nat.pow_succ, Nat.mul_comm 2]
    omega
theorem pcn_8 (k n : Nat) : pcn (k + 8) n = g2 (n % 16) + g2 (n / 16 % 16) + pcn k (n / 256) := by
  rw [(g2_le (n % 16) (by omega)).2, (g2_le (n / 16 % 16) (by omega)).2]
  show n % 2 + (n / 2 % 2 + (n / 2 / 2 % 2 + (n / 2 / 2 / 2 % 2 + (n / 2 / 2 / 2 / 2 % 2 + (n / 2 / 2 / 2 / 2 / 2 % 2 + (n / 2 / 2 / 2 / 2 / 2 / 2 % 2 + (n / 2 / 2 / 2 / 2 / 2 / 2 / 2 % 2 + pcn k (n / 2 / 2 / 2 / 2 / 2 / 2 / 2 / 2)))))))) = _
  rw [show n / 2 / 2 / 2 / 2 / 2 / 2 / 2 / 2 = n / 256 by omega]
  omega
def bcN (n : Nat) : Nat :=
  let a := ((n - (n / 2 &&& m5 16)) &&& m3 16) + ((n - (n / 2 &&& m5 16)) / 4 &&& m3 16)
  let b := (a + a / 16) &&& mf 8
  let c := b + b / 256
  let d := c + c / 65536
  (d + d / 4294967296) % 128
theorem Sg_tr {g : Nat → Nat} (h0 : g 0 = 0) : ∀ j i n, n < 16 ^ j → Sg g (j + i) n = Sg g j n := by
  intro j
  induction j with
  | zero =>
    intro i n h
    have hn : n = 0 := by rw [Nat.pow_zero] at h; omega
    subst hn
    have : ∀ i, Sg g i 0 = 0 := by
      intro i
      induction i with
      | zero => rfl
      | succ i ih => rw [Sg_s, show 0 % 16 = 0 by decide, show 0 / 16 = 0 by decide, ih, h0]
    exact this _
  | succ j ih =>
    intro i n h
    rw [show j + 1 + i = (j + i) + 1 by omega, Sg_s, Sg_s, ih i (n / 16) (by rw [Nat.pow_succ] at h; omega)]
theorem bcN_pcn {n : Nat} (h : n < 2 ^ 40) : bcN n = pcn 40 n := by
  have a1 : n - (n / 2 &&& m5 16) = Sg g1 16 n := by
    have e1 := Sg_m5 16 n
    have e2 := Sg_add g1 (fun d => d / 2 &&& 5) (fun d => d) (fun d hd => (g1_le d hd).2) 16 n
    have e3 := Sg_id 16 n (by omega)
    omega
  have a2 : (Sg g1 16 n &&& m3 16) + (Sg g1 16 n / 4 &&& m3 16) = Sg g2 16 n := by
    rw [Sg_m3 (fun d hd => (g1_le d hd).1), Sg_m3q (fun d hd => (g1_le d hd).1)]
    exact Sg_add _ _ _ (fun d _ => rfl) 16 n
  have a3 := Bt_Sb 8 n
  have a4 : pcn 40 n = _ := pcn_8 32 n
  rw [pcn_8 24, pcn_8 16, pcn_8 8, pcn_8 0] at a4
  simp only [bcN]
  rw [a1, a2, Bt_mf, a3, a4]
  show (_ + _) % 128 = _ + (_ + (_ + (_ + (_ + 0))))
  rw [Sb_s, Sb_s, Sb_s, Sb_s, Sb_s, show n / 256 / 256 / 256 / 256 / 256 = 0 by omega]
  have z0 : Sb 3 0 = 0 := by decide +kernel
  rw [z0]
  have b0 := (g2_le (n % 16) (by omega)).1
  have b1 := (g2_le (n / 16 % 16) (by omega)).1
  have b2 := (g2_le (n / 256 % 16) (by omega)).1
  have b3 := (g2_le (n / 256 / 16 % 16) (by omega)).1
  have b4 := (g2_le (n / 256 / 256 % 16) (by omega)).1
  have b5 := (g2_le (n / 256 / 256 / 16 % 16) (by omega)).1
  have b6 := (g2_le (n / 256 / 256 / 256 % 16) (by omega)).1
  have b7 := (g2_le (n / 256 / 256 / 256 / 16 % 16) (by omega)).1
  have b8 := (g2_le (n / 256 / 256 / 256 / 256 % 16) (by omega)).1
  have b9 := (g2_le (n / 256 / 256 / 256 / 256 / 16 % 16) (by omega)).1
  generalize g2 (n % 16) = c0 at *
  generalize g2 (n / 16 % 16) = c1 at *
  generalize g2 (n / 256 % 16) = c2 at *
  generalize g2 (n / 256 / 16 % 16) = c3 at *
  generalize g2 (n / 256 / 256 % 16) = c4 at *
  generalize g2 (n / 256 / 256 / 16 % 16) = c5 at *
  generalize g2 (n / 256 / 256 / 256 % 16) = c6 at *
  generalize g2 (n / 256 / 256 / 256 / 16 % 16) = c7 at *
  generalize g2 (n / 256 / 256 / 256 / 256 % 16) = c8 at *
  generalize g2 (n / 256 / 256 / 256 / 256 / 16 % 16) = c9 at *
  generalize e0 : c0 + c1 = p0 at *
  generalize e1 : c2 + c3 = p1 at *
  generalize e2 : c4 + c5 = p2 at *
  generalize e3 : c6 + c7 = p3 at *
  generalize e4 : c8 + c9 = p4 at *
  have q0 : p0 ≤ 8 := by omega
  have q1 : p1 ≤ 8 := by omega
  have q2 : p2 ≤ 8 := by omega
  have q3 : p3 ≤ 8 := by omega
  have q4 : p4 ≤ 8 := by omega
  clear e0 e1 e2 e3 e4 b0 b1 b2 b3 b4 b5 b6 b7 b8 b9 a1 a2 a3 a4
  have x1 : (p0 + 256 * (p1 + 256 * (p2 + 256 * (p3 + 256 * p4)))) + (p0 + 256 * (p1 + 256 * (p2 + 256 * (p3 + 256 * p4)))) / 256 = (p0 + p1) + 256 * ((p1 + p2) + 256 * ((p2 + p3) + 256 * ((p3 + p4) + 256 * p4))) := by omega
  rw [x1]
  have x2 : ((p0 + p1) + 256 * ((p1 + p2) + 256 * ((p2 + p3) + 256 * ((p3 + p4) + 256 * p4)))) + ((p0 + p1) + 256 * ((p1 + p2) + 256 * ((p2 + p3) + 256 * ((p3 + p4) + 256 * p4)))) / 65536 = (p0 + p1 + p2 + p3) + 256 * ((p1 + p2 + p3 + p4) + 256 * ((p2 + p3 + p4) + 256 * ((p3 + p4) + 256 * p4))) := by omega
  rw [x2]
  clear x1 x2
  have x3 : ((p0 + p1 + p2 + p3) + 256 * ((p1 + p2 + p3 + p4) + 256 * ((p2 + p3 + p4) + 256 * ((p3 + p4) + 256 * p4)))) / 4294967296 = p4 := by omega
  rw [x3]
  clear x3
  generalize (p1 + p2 + p3 + p4) + 256 * ((p2 + p3 + p4) + 256 * ((p3 + p4) + 256 * p4)) = w
  omega
theorem lN_tb {n : Nat} (h : n < 2 ^ 64) : (lN n).toBitVec.toNat = n := by
  show (BitVec.ofNat 64 n).toNat = n
  rw [BitVec.toNat_ofNat]; exact Nat.mod_eq_of_lt h
theorem lN_of (c : Int64) : c = lN c.toBitVec.toNat := by
  apply Int64.toBitVec_inj.mp
  apply BitVec.eq_of_toNat_eq
  exact (lN_tb c.toBitVec.isLt).symm
theorem lN_and {a b : Nat} (ha : a < 2 ^ 64) (hb : b < 2 ^ 64) : lN a &&& lN b = lN (a &&& b) := by
  apply Int64.toBitVec_inj.mp
  apply BitVec.eq_of_toNat_eq
  rw [lN_tb (Nat.lt_of_le_of_lt Nat.and_le_left ha)]
  show ((lN a).toBitVec &&& (lN b).toBitVec).toNat = _
  rw [BitVec.toNat_and, lN_tb ha, lN_tb hb]
theorem lsr_N {a k : Nat} {x : Int32} (ha : a < 2 ^ 64) (hk : ((x.toInt64.toUInt64 &&& Int64.toUInt64 63)).toNat % 64 = k) : lsr (lN a) x = lN (a / 2 ^ k) := by
  apply Int64.toBitVec_inj.mp
  apply BitVec.eq_of_toNat_eq
  rw [lN_tb (Nat.lt_of_le_of_lt (Nat.div_le_self _ _) ha)]
  have e : (lsr (lN a) x).toBitVec.toNat = ((lN a).toUInt64 >>> (x.toInt64.toUInt64 &&& Int64.toUInt64 63)).toNat := rfl
  have e2 : (lN a).toUInt64.toNat = a := lN_tb ha
  rw [e, UInt64.toNat_shiftRight, hk, Nat.shiftRight_eq_div_pow, e2]
theorem bcnt_N {n : Nat} (h : n < 2 ^ 40) : bcnt (lN n) = nI (bcN n) := by
  have k5 : (6148914691236517205 : Int64) = lN (m5 16) := by decide +kernel
  have k3 : (3689348814741910323 : Int64) = lN (m3 16) := by decide +kernel
  have kf : (1085102592571150095 : Int64) = lN (mf 8) := by decide +kernel
  have l5 : m5 16 < 2 ^ 64 := by decide +kernel
  have l3 : m3 16 < 2 ^ 64 := by decide +kernel
  have lf : mf 8 < 2 ^ 64 := by decide +kernel
  have h1 : bc1 (lN n) = lN (n - (n / 2 &&& m5 16)) := by
    rw [bc1, lsr_N (k := 1) (by omega) (by decide +kernel), k5, lN_and (by omega) l5, lN_sub (Nat.le_trans Nat.and_le_left (by omega))]
  simp only [bcN]
  rw [bcnt, h1]
  have b1 : n - (n / 2 &&& m5 16) < 2 ^ 40 := by omega
  generalize n - (n / 2 &&& m5 16) = a1 at *
  have h2 : bc2 (lN a1) = lN ((a1 &&& m3 16) + (a1 / 4 &&& m3 16)) := by
    rw [bc2, lsr_N (k := 2) (by omega) (by decide +kernel), k3, lN_and (by omega) l3, lN_and (by omega) l3, lN_add]
  rw [h2]
  have b2 : (a1 &&& m3 16) + (a1 / 4 &&& m3 16) < 2 ^ 41 := by
    have w1 : (a1 &&& m3 16) ≤ a1 := Nat.and_le_left
    have w2 : (a1 / 4 &&& m3 16) ≤ a1 / 4 := Nat.and_le_left
    omega
  generalize (a1 &&& m3 16) + (a1 / 4 &&& m3 16) = a2 at *
  have h3 : bc3 (lN a2) = lN ((a2 + a2 / 16) &&& mf 8) := by
    rw [bc3, lsr_N (k := 4) (by omega) (by decide +kernel), kf, lN_add, lN_and (by omega) lf]
  rw [h3]
  have b3 : ((a2 + a2 / 16) &&& mf 8) < 2 ^ 42 := Nat.lt_of_le_of_lt Nat.and_le_left (by omega)
  generalize ((a2 + a2 / 16) &&& mf 8) = a3 at *
  have h4 : bc4 (lN a3) = lN (a3 + a3 / 256) := by
    rw [bc4, lsr_N (k := 8) (by omega) (by decide +kernel), lN_add]
  rw [h4]
  have h5 : bc5 (lN (a3 + a3 / 256)) = lN (a3 + a3 / 256 + (a3 + a3 / 256) / 65536) := by
    rw [bc5, lsr_N (k := 16) (by omega) (by decide +kernel), lN_add]
  rw [h5]
  generalize hd : a3 + a3 / 256 + (a3 + a3 / 256) / 65536 = a5 at *
  have h6 : bc6 (lN a5) = lN (a5 + a5 / 4294967296) := by
    rw [bc6, lsr_N (k := 32) (by omega) (by decide +kernel), lN_add]
  rw [h6, lN_i]
  have e : (nI (a5 + a5 / 4294967296)).toBitVec.toNat = (a5 + a5 / 4294967296) % 2 ^ 32 := by
    show (BitVec.ofNat 32 _).toNat = _
    rw [BitVec.toNat_ofNat]
  rw [pk_and _ 7 (by decide +kernel), e]
  congr 1
  omega
theorem bqP_N {n k : Nat} (hk : k < 40) (hn : n < 2 ^ 64) : bqP (lN n) k ↔ n / 2 ^ k % 2 = 1 := by
  rw [bqP_bit hk]
  show (BitVec.ofNat 64 n).getLsbD k = true ↔ _
  rw [BitVec.getLsbD_ofNat, Nat.testBit_eq_decide_div_mod_eq]
  simp [show k < 64 by omega]
theorem ctM_N {n : Nat} (hn : n < 2 ^ 64) : ∀ k, k ≤ 40 → ctM (lN n) k = nI (pcn k n) := by
  intro k
  induction k with
  | zero => intro _; rfl
  | succ k ih =>
    intro h
    rw [pcn_t, ← nI_add, ← ih (by omega), ctM]
    congr 1
    have hb := bqP_N (n := n) (k := k) (by omega) hn
    by_cases w : n / 2 ^ k % 2 = 1
    · rw [zI_t (hb.mpr w), w]; rfl
    · rw [zI_f (fun z => w (hb.mp z)), show n / 2 ^ k % 2 = 0 by omega]; rfl
theorem pcn_hi {n nc : Nat} (h : n < 2 ^ nc) : ∀ j, pcn (nc + j) n = pcn nc n := by
  intro j
  induction j with
  | zero => rfl
  | succ j ih =>
    have : n / 2 ^ (nc + j) = 0 := Nat.div_eq_of_lt (Nat.lt_of_lt_of_le h (Nat.pow_le_pow_right (by decide) (by omega)))
    rw [show nc + (j + 1) = (nc + j) + 1 by omega, pcn_t, this, ih]; omega
/-- how many bits: both sides -/
theorem bc_ct {c : Int64} {nc : Nat} (h40 : nc ≤ 40) (h : c.toBitVec.toNat < 2 ^ nc) : bcnt c = ctM c nc := by
  have h2 : c.toBitVec.toNat < 2 ^ 40 := Nat.lt_of_lt_of_le h (Nat.pow_le_pow_right (by decide) h40)
  have e := pcn_hi h (40 - nc)
  rw [show nc + (40 - nc) = 40 by omega] at e
  rw [lN_of c, bcnt_N h2, ctM_N (by omega) nc h40, bcN_pcn h2, e]
def bt (c : Int64) (j : Nat) : Prop := c.toBitVec.getLsbD j = true
theorem bt_lt {c : Int64} {m j : Nat} (h : c.toBitVec.toNat < 2 ^ m) (hj : bt c j) : j < m := by
  refine Nat.lt_of_not_le fun z => ?_
  have h2 : c.toBitVec.toNat < 2 ^ j := Nat.lt_of_lt_of_le h (Nat.pow_le_pow_right (by decide) z)
  have h3 : c.toBitVec.toNat.testBit j = false := Nat.testBit_lt_two_pow h2
  exact Bool.noConfusion ((show c.toBitVec.toNat.testBit j = true from hj).symm.trans h3)
theorem bitL_tb {k : Nat} (hk : k < 40) : (bitL (nI k)).toBitVec.toNat = 2 ^ k := by
  rw [bitL_bv hk, BitVec.toNat_shiftLeft, Nat.shiftLeft_eq]
  have : (2 : Nat) ^ k < 2 ^ 40 := Nat.pow_lt_pow_right (by decide) hk
  rw [show (1#64).toNat = 1 by decide, Nat.one_mul]
  exact Nat.mod_eq_of_lt (Nat.lt_trans this (by decide))
theorem bit_bt {k j : Nat} (hk : k < 40) : bt (bitL (nI k)) j ↔ j = k := by
  show (bitL (nI k)).toBitVec.toNat.testBit j = true ↔ _
  rw [bitL_tb hk, Nat.testBit_two_pow]
  simp [eq_comm]
theorem or_bt {a b : Int64} {j : Nat} : bt (a ||| b) j ↔ bt a j ∨ bt b j := by
  show (a.toBitVec ||| b.toBitVec).getLsbD j = true ↔ _
  rw [BitVec.getLsbD_or, Bool.or_eq_true]; exact Iff.rfl
theorem or_tb {a b : Int64} {m : Nat} (ha : a.toBitVec.toNat < 2 ^ m) (hb : b.toBitVec.toNat < 2 ^ m) : (a ||| b).toBitVec.toNat < 2 ^ m := by
  show (a.toBitVec ||| b.toBitVec).toNat < _
  rw [BitVec.toNat_or]; exact Nat.or_lt_two_pow ha hb
theorem and_bt {a b : Int64} : a &&& b ≠ 0 ↔ ∃ j, bt a j ∧ bt b j := by
  constructor
  · intro h
    refine Classical.byContradiction fun z => h ?_
    apply Int64.toBitVec_inj.mp
    show (a.toBitVec &&& b.toBitVec) = 0#64
    apply BitVec.eq_of_getLsbD_eq
    intro i hi
    rw [BitVec.getLsbD_and, BitVec.getLsbD_zero]
    cases ha : a.toBitVec.getLsbD i with
    | false => rfl
    | true =>
      cases hb : b.toBitVec.getLsbD i with
      | false => rfl
      | true => exact absurd ⟨i, ha, hb⟩ z
  · rintro ⟨j, ha, hb⟩ z
    have z2 : (a.toBitVec &&& b.toBitVec) = 0#64 := Int64.toBitVec_inj.mpr z
    have z3 := congrArg (fun b => b.getLsbD j) z2
    simp only [BitVec.getLsbD_and, BitVec.getLsbD_zero] at z3
    rw [show a.toBitVec.getLsbD j = true from ha, show b.toBitVec.getLsbD j = true from hb] at z3
    cases z3
theorem bqP_bt {c : Int64} {k : Nat} (hk : k < 40) : bqP c k ↔ bt c k := bqP_bit hk
theorem gn_bt {nm : Int64} {ci : Nat → Int64} {sd : Nat → Int32} : ∀ k, k ≤ 40 → (gnS nm ci sd k).toBitVec.toNat < 2 ^ k ∧ ∀ j, bt (gnS nm ci sd k) j ↔ j < k ∧ sd j ≠ 0 ∧ goP nm ci (gnS nm ci sd j) j := by
  intro k
  induction k with
  | zero =>
    intro _
    refine ⟨show (0 : Int64).toBitVec.toNat < 2 ^ 0 by decide +kernel, fun j => ⟨fun z => ?_, fun z => absurd z.1 (Nat.not_lt_zero _)⟩⟩
    have : (0#64).getLsbD j = true := z
    rw [BitVec.getLsbD_zero] at this; cases this
  | succ k ih =>
    intro hk
    obtain ⟨h1, h2⟩ := ih (by omega)
    have h3 : (gnS nm ci sd k).toBitVec.toNat < 2 ^ (k + 1) := Nat.lt_trans h1 (Nat.pow_lt_pow_right (by decide) (by omega))
    rw [gnS]
    split
    · rename_i hg
      refine ⟨or_tb h3 (by rw [bitL_tb (by omega)]; exact Nat.pow_lt_pow_right (by decide) (by omega)), fun j => ?_⟩
      rw [or_bt, h2, bit_bt (by omega)]
      constructor
      · rintro (⟨a, b⟩ | a)
        · exact ⟨by omega, b⟩
        · subst a; exact ⟨by omega, hg⟩
      · rintro ⟨a, b⟩
        by_cases e : j = k
        · exact Or.inr e
        · exact Or.inl ⟨by omega, b⟩
    · rename_i hg
      refine ⟨h3, fun j => ?_⟩
      rw [h2]
      constructor
      · rintro ⟨a, b⟩; exact ⟨by omega, b⟩
      · rintro ⟨a, b⟩
        by_cases e : j = k
        · subst e; exact absurd b hg
        · exact ⟨by omega, b⟩
theorem us_bt {hl : Nat → Prop} {sd : Nat → Int32} : ∀ k, k ≤ 40 → ∀ j, bt (usS hl sd k) j ↔ j < k ∧ sd j ≠ 0 ∧ ¬ hl j := by
  intro k
  induction k with
  | zero =>
    intro _ j
    refine ⟨fun z => ?_, fun z => absurd z.1 (Nat.not_lt_zero _)⟩
    have : (0#64).getLsbD j = true := z
    rw [BitVec.getLsbD_zero] at this; cases this
  | succ k ih =>
    intro hk j
    have h2 := ih (by omega) j
    rw [usS]
    split
    · rename_i hg
      rw [or_bt, h2, bit_bt (by omega)]
      constructor
      · rintro (⟨a, b⟩ | a)
        · exact ⟨by omega, b⟩
        · subst a; exact ⟨by omega, hg.1, zI_z.mp hg.2⟩
      · rintro ⟨a, b⟩
        by_cases e : j = k
        · exact Or.inr e
        · exact Or.inl ⟨by omega, b⟩
    · rename_i hg
      rw [h2]
      constructor
      · rintro ⟨a, b⟩; exact ⟨by omega, b⟩
      · rintro ⟨a, b⟩
        by_cases e : j = k
        · subst e; exact absurd ⟨b.1, zI_z.mpr b.2⟩ hg
        · exact ⟨by omega, b⟩
noncomputable def cN (P : Nat → Prop) : Nat → Int32
  | 0 => 0
  | k + 1 => cN P k + zI (P k)
theorem cN_s (P : Nat → Prop) (k : Nat) : cN P (k + 1) = cN P k + zI (P k) := rfl
theorem cN_c {P Q : Nat → Prop} : ∀ m, (∀ k, k < m → (P k ↔ Q k)) → cN P m = cN Q m := by
  intro m
  induction m with
  | zero => intro _; rfl
  | succ m ih => intro h; rw [cN_s, cN_s, ih (fun k hk => h k (by omega)), zI_c (h m (by omega))]
theorem zI_or {p q : Prop} (h : ¬ (p ∧ q)) : zI (p ∨ q) = zI p + zI q := by
  by_cases a : p
  · have b : ¬ q := fun z => h ⟨a, z⟩
    rw [zI_t (Or.inl a), zI_t a, zI_f b]; rfl
  · by_cases b : q
    · rw [zI_t (Or.inr b), zI_f a, zI_t b]; rfl
    · rw [zI_f (fun z => z.elim a b), zI_f a, zI_f b]; rfl
theorem cN_or {P Q : Nat → Prop} : ∀ m, (∀ k, k < m → ¬ (P k ∧ Q k)) → cN (fun k => P k ∨ Q k) m = cN P m + cN Q m := by
  intro m
  induction m with
  | zero => intro _; rfl
  | succ m ih =>
    intro h
    rw [cN_s, cN_s, cN_s, ih (fun k hk => h k (by omega)), zI_or (h m (by omega)), Int32.add_assoc, Int32.add_assoc]
    congr 1
    rw [← Int32.add_assoc, ← Int32.add_assoc, Int32.add_comm (cN Q m)]
theorem cN_one {i : Nat} : ∀ m, cN (fun k => k = i) m = if i < m then 1 else 0 := by
  intro m
  induction m with
  | zero => rfl
  | succ m ih =>
    rw [cN_s, ih]
    by_cases e : m = i
    · subst e; rw [zI_t rfl, if_neg (Nat.lt_irrefl _), if_pos (by omega)]; rfl
    · rw [zI_f e]
      by_cases e2 : i < m
      · rw [if_pos e2, if_pos (by omega)]; rfl
      · rw [if_neg e2, if_neg (by omega)]; rfl
theorem ctM_c (c : Int64) : ∀ m, ctM c m = cN (fun k => bqP c k) m := by
  intro m
  induction m with
  | zero => rfl
  | succ m ih => rw [cN_s, ctM, ih]
theorem bm64 {z : Int} (h : -(2 : Int) ^ 62 ≤ z) (h2 : z < (2 : Int) ^ 62) : z.bmod (2 ^ 64) = z := by
  rw [Int.bmod_def]
  split <;> omega
theorem xs64 (a b : Int64) : 0 ≤ a ^^^ b ↔ (a.toInt < 0 ↔ b.toInt < 0) := by
  have h : ∀ z : Int64, z.toBitVec.msb = decide (z.toInt < 0) := fun z => BitVec.msb_eq_toInt
  have h1 : (a ^^^ b).toBitVec.msb = Bool.xor (decide (a.toInt < 0)) (decide (b.toInt < 0)) := by
    rw [← h a, ← h b, ← BitVec.msb_xor]; rfl
  rw [h] at h1
  rw [Int64.le_iff_toInt_le, Int64.toInt_zero]
  by_cases ha : a.toInt < 0 <;> by_cases hb : b.toInt < 0 <;> simp [ha, hb] at h1 ⊢ <;> omega
def fsT (q : Nat → Bool) : Nat → Int32
  | 0 => -1
  | n + 1 => if q n = true then (if fsT q n = -1 then nI n else fsT q n) else fsT q n
def lsT (q : Nat → Bool) : Nat → Int32
  | 0 => -1
  | n + 1 => if q n = true then nI n else lsT q n
theorem nI_m1 {n : Nat} (h : n < 2 ^ 31) : ¬ nI n = -1 := fun z => by
  have := congrArg Int32.toInt z
  rw [nI_toInt h] at this
  have e : (-1 : Int32).toInt = -1 := by decide
  omega
theorem fs_ls {q : Nat → Bool} : ∀ n, n ≤ 256 → (tl q n = [] → fsT q n = -1 ∧ lsT q n = -1) ∧ (tl q n ≠ [] → (∃ t, (tl q n)[0]? = some t ∧ t < n ∧ fsT q n = nI t) ∧ ∃ t, (tl q n)[(tl q n).length - 1]? = some t ∧ t < n ∧ lsT q n = nI t) := by
  intro n
  induction n with
  | zero => intro _; exact ⟨fun _ => ⟨rfl, rfl⟩, fun h => absurd rfl h⟩
  | succ n ih =>
    intro hn
    obtain ⟨i1, i2⟩ := ih (by omega)
    rcases hq : q n with _ | _
    · rw [tl_f hq]
      have e1 : fsT q (n + 1) = fsT q n := by rw [fsT, hq]; rfl
      have e2 : lsT q (n + 1) = lsT q n := by rw [lsT, hq]; rfl
      rw [e1, e2]
      refine ⟨i1, fun h => ?_⟩
      obtain ⟨⟨t, a1, a2, a3⟩, ⟨u, b1, b2, b3⟩⟩ := i2 h
      exact ⟨⟨t, a1, by omega, a3⟩, ⟨u, b1, by omega, b3⟩⟩
    · rw [tl_t hq]
      refine ⟨fun h => absurd h (by simp), fun _ => ⟨?_, ⟨n, by simp, by omega, by rw [lsT, hq]; rfl⟩⟩⟩
      by_cases he : tl q n = []
      · refine ⟨n, by rw [he]; rfl, by omega, ?_⟩
        rw [fsT, hq, if_pos rfl, if_pos (i1 he).1]
      · obtain ⟨⟨t, a1, a2, a3⟩, _⟩ := i2 he
        refine ⟨t, ?_, by omega, ?_⟩
        · rw [List.getElem?_append_left]
          · exact a1
          · exact List.length_pos_iff.mpr he
        · rw [fsT, hq, if_pos rfl, if_neg (by rw [a3]; exact nI_m1 (by omega)), a3]
theorem fs_tF {q : Nat → Bool} (h : (aT q).length ≠ 0) : fsT q 256 = nI (tF q) ∧ lsT q 256 = nI (tZ q) ∧ tF q < 256 ∧ tZ q < 256 ∧ q (tF q) = true ∧ q (tZ q) = true := by
  have hp : 0 < (aT q).length := Nat.pos_of_ne_zero h
  obtain ⟨⟨t, a1, a2, a3⟩, ⟨u, b1, b2, b3⟩⟩ := (fs_ls (q := q) 256 (Nat.le_refl _)).2 (fun z => h (by rw [show aT q = [] from z]; rfl))
  have e1 : tF q = t := Option.some.inj ((tF_at hp).symm.trans a1)
  have e2 : tZ q = u := Option.some.inj ((tZ_at hp).symm.trans b1)
  rw [e1, e2]
  exact ⟨a3, b3, a2, b2, (aT_at a1).2, (aT_at b1).2⟩
theorem tF_le {q : Nat → Bool} {t : Nat} (ht : t < 256) (h : q t = true) : tF q ≤ t ∧ t ≤ tZ q ∧ (aT q).length ≠ 0 := by
  have hm : t ∈ aT q := tl_mem.mpr ⟨ht, h⟩
  obtain ⟨i, hi, e⟩ := List.mem_iff_getElem.mp hm
  have hs : (aT q).Pairwise (· < ·) := List.Pairwise.filter _ List.pairwise_lt_range
  have hp : 0 < (aT q).length := by omega
  have f1 : tF q = (aT q)[0] := Option.some.inj ((tF_at hp).symm.trans (List.getElem?_eq_getElem hp))
  have f2 : tZ q = (aT q)[(aT q).length - 1] := Option.some.inj ((tZ_at hp).symm.trans (List.getElem?_eq_getElem (by omega)))
  refine ⟨?_, ?_, by omega⟩
  · rw [f1, ← e]
    rcases Nat.eq_zero_or_pos i with z | z
    · subst z; exact Nat.le_refl _
    · exact Nat.le_of_lt (List.pairwise_iff_getElem.mp hs 0 i hp hi z)
  · rw [f2, ← e]
    rcases Nat.eq_or_lt_of_le (show i ≤ (aT q).length - 1 by omega) with z | z
    · subst z; exact Nat.le_refl _
    · exact Nat.le_of_lt (List.pairwise_iff_getElem.mp hs i _ hi (by omega) z)
