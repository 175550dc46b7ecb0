/-! both sides tell the same: how many bits -/
theorem and16 {a b c d : Nat} (ha : a < 16) (hc : c < 16) : (a + 16 * b) &&& (c + 16 * d) = (a &&& c) + 16 * (b &&& d) := by
  have h1 : ((a + 16 * b) &&& (c + 16 * d)) % 2 ^ 4 = (a &&& c) := by
    rw [Nat.and_mod_two_pow, show (a + 16 * b) % 2 ^ 4 = a by omega, show (c + 16 * d) % 2 ^ 4 = c by omega]
  have h2 : ((a + 16 * b) &&& (c + 16 * d)) / 2 ^ 4 = (b &&& d) := by
    rw [Nat.and_div_two_pow, show (a + 16 * b) / 2 ^ 4 = b by omega, show (c + 16 * d) / 2 ^ 4 = d by omega]
  omega
theorem and256 {a b c d : Nat} (ha : a < 256) (hc : c < 256) : (a + 256 * b) &&& (c + 256 * d) = (a &&& c) + 256 * (b &&& d) := by
  have h1 : ((a + 256 * b) &&& (c + 256 * d)) % 2 ^ 8 = (a &&& c) := by
    rw [Nat.and_mod_two_pow, show (a + 256 * b) % 2 ^ 8 = a by omega, show (c + 256 * d) % 2 ^ 8 = c by omega]
  have h2 : ((a + 256 * b) &&& (c + 256 * d)) / 2 ^ 8 = (b &&& d) := by
    rw [Nat.and_div_two_pow, show (a + 256 * b) / 2 ^ 8 = b by omega, show (c + 256 * d) / 2 ^ 8 = d by omega]
  omega
def m5 : Nat → Nat
  | 0 => 0
  | k + 1 => 5 + 16 * m5 k
def m3 : Nat → Nat
  | 0 => 0
  | k + 1 => 3 + 16 * m3 k
def mf : Nat → Nat
  | 0 => 0
  | k + 1 => 15 + 256 * mf k
def Sg (g : Nat → Nat) : Nat → Nat → Nat
  | 0, _ => 0
  | k + 1, n => g (n % 16) + 16 * Sg g k (n / 16)
theorem Sg_s (g : Nat → Nat) (k n : Nat) : Sg g (k + 1) n = g (n % 16) + 16 * Sg g k (n / 16) := rfl
theorem Sg_add (f g h : Nat → Nat) (e : ∀ d, d < 16 → f d + g d = h d) : ∀ k n, Sg f k n + Sg g k n = Sg h k n := by
  intro k
  induction k with
  | zero => intro n; rfl
  | succ k ih =>
    intro n
    have h1 := ih (n / 16)
    have h2 := e (n % 16) (by omega)
    rw [Sg_s, Sg_s, Sg_s]; omega
theorem Sg_id : ∀ k n, n < 16 ^ k → Sg (fun d => d) k n = n := by
  intro k
  induction k with
  | zero => intro n h; show 0 = n; rw [Nat.pow_zero] at h; omega
  | succ k ih =>
    intro n h
    have h1 := ih (n / 16) (by rw [Nat.pow_succ] at h; omega)
    rw [Sg_s, h1]; omega
theorem Sg_m5 : ∀ k n, (n / 2 &&& m5 k) = Sg (fun d => d / 2 &&& 5) k n := by
  intro k
  induction k with
  | zero => intro n; exact Nat.and_zero _
  | succ k ih =>
    intro n
    have e : n / 2 = ((n % 16) / 2 + 8 * (n / 16 % 2)) + 16 * (n / 16 / 2) := by omega
    have h8 : ∀ a : Fin 8, ∀ b : Fin 2, (a.val + 8 * b.val) &&& 5 = a.val &&& 5 := by decide +kernel
    have h9 := h8 ⟨n % 16 / 2, by omega⟩ ⟨n / 16 % 2, by omega⟩
    rw [e, m5, and16 (by omega) (by omega), ih, Sg_s]
    exact congrArg (· + 16 * Sg (fun d => d / 2 &&& 5) k (n / 16)) h9
theorem Sg_m3 {g : Nat → Nat} (hg : ∀ d, d < 16 → g d < 16) : ∀ k n, (Sg g k n &&& m3 k) = Sg (fun d => g d &&& 3) k n := by
  intro k
  induction k with
  | zero => intro n; exact Nat.and_zero _
  | succ k ih =>
    intro n
    rw [Sg_s, m3, and16 (hg _ (by omega)) (by omega), ih, Sg_s]
theorem Sg_m3q {g : Nat → Nat} (hg : ∀ d, d < 16 → g d < 16) : ∀ k n, (Sg g k n / 4 &&& m3 k) = Sg (fun d => g d / 4 &&& 3) k n := by
  intro k
  induction k with
  | zero => intro n; exact Nat.and_zero _
  | succ k ih =>
    intro n
    have h0 := hg (n % 16) (by omega)
    have e : (g (n % 16) + 16 * Sg g k (n / 16)) / 4 = (g (n % 16) / 4 + 4 * (Sg g k (n / 16) % 4)) + 16 * (Sg g k (n / 16) / 4) := by omega
    have h8 : ∀ a : Fin 4, ∀ b : Fin 4, (a.val + 4 * b.val) &&& 3 = a.val &&& 3 := by decide +kernel
    have h9 := h8 ⟨g (n % 16) / 4, by omega⟩ ⟨Sg g k (n / 16) % 4, by omega⟩
    rw [Sg_s, e, m3, and16 (by omega) (by omega), ih, Sg_s]
    exact congrArg (· + 16 * Sg (fun d => g d / 4 &&& 3) k (n / 16)) h9
def g1 (d : Nat) : Nat := d - (d / 2 &&& 5)
def g2 (d : Nat) : Nat := (g1 d &&& 3) + (g1 d / 4 &&& 3)
theorem g1_le : ∀ d, d < 16 → g1 d < 16 ∧ g1 d + (d / 2 &&& 5) = d := by
  have h : ∀ d : Fin 16, g1 d.val < 16 ∧ g1 d.val + (d.val / 2 &&& 5) = d.val := by decide +kernel
  exact fun d hd => h ⟨d, hd⟩
theorem g2_le : ∀ d, d < 16 → g2 d ≤ 4 ∧ g2 d = d % 2 + d / 2 % 2 + d / 4 % 2 + d / 8 % 2 := by
  have h : ∀ d : Fin 16, g2 d.val ≤ 4 ∧ g2 d.val = d.val % 2 + d.val / 2 % 2 + d.val / 4 % 2 + d.val / 8 % 2 := by decide +kernel
  exact fun d hd => h ⟨d, hd⟩
def Bt : Nat → Nat → Nat
  | 0, _ => 0
  | k + 1, z => z % 16 + 256 * Bt k (z / 256)
theorem Bt_s (k z : Nat) : Bt (k + 1) z = z % 16 + 256 * Bt k (z / 256) := rfl
theorem Bt_mf : ∀ k z, (z &&& mf k) = Bt k z := by
  intro k
  induction k with
  | zero => intro z; exact Nat.and_zero _
  | succ k ih =>
    intro z
    have e : z = z % 256 + 256 * (z / 256) := by omega
    have h : (z % 256 &&& 15) = z % 16 := by
      rw [show (15 : Nat) = 2 ^ 4 - 1 by decide, Nat.and_two_pow_sub_one_eq_mod]; omega
    rw [Bt_s, ← ih, ← h, mf]
    conv => lhs; rw [e]
    exact and256 (by omega) (by omega)
def Sb : Nat → Nat → Nat
  | 0, _ => 0
  | k + 1, n => (g2 (n % 16) + g2 (n / 16 % 16)) + 256 * Sb k (n / 256)
theorem Sb_s (k n : Nat) : Sb (k + 1) n = (g2 (n % 16) + g2 (n / 16 % 16)) + 256 * Sb k (n / 256) := rfl
theorem Bt_Sb : ∀ k n, Bt k (Sg g2 (2 * k) n + Sg g2 (2 * k) n / 16) = Sb k n := by
  intro k
  induction k with
  | zero => intro n; rfl
  | succ k ih =>
    intro n
    have h1 := (g2_le (n % 16) (by omega)).1
    have h2 := (g2_le (n / 16 % 16) (by omega)).1
    have hd : n / 16 / 16 = n / 256 := by omega
    have h3 := ih (n / 256)
    have hy : Sg g2 (2 * k) (n / 256) % 16 ≤ 4 := by
      match k with
      | 0 => exact Nat.zero_le _
      | j + 1 =>
        have h4 := (g2_le (n / 256 % 16) (by omega)).1
        rw [show 2 * (j + 1) = (2 * j + 1) + 1 by omega, Sg_s]; omega
    rw [show 2 * (k + 1) = 2 * k + 1 + 1 by omega, Sg_s, Sg_s, hd, Bt_s, Sb_s, ← h3]
    generalize Sg g2 (2 * k) (n / 256) = Y at *
    generalize g2 (n % 16) = a at *
    generalize g2 (n / 16 % 16) = b at *
    have e1 : (a + 16 * (b + 16 * Y) + (a + 16 * (b + 16 * Y)) / 16) % 16 = a + b := by omega
    have e2 : (a + 16 * (b + 16 * Y) + (a + 16 * (b + 16 * Y)) / 16) / 256 = Y + Y / 16 := by omega
    rw [e1, e2]
def pcn : Nat → Nat → Nat
  | 0, _ => 0
  | k + 1, n => n % 2 + pcn k (n / 2)
theorem pcn_s (k n : Nat) : pcn (k + 1) n = n % 2 + pcn k (n / 2) := rfl
theorem pcn_t : ∀ k n, pcn (k + 1) n = pcn k n + n / 2 ^ k % 2 := by
  intro k
  induction k with
  | zero => intro n; show n % 2 + 0 = 0 + n / 2 ^ 0 % 2; rw [Nat.pow_zero, Nat.div_one]; omega
  | succ k ih =>
    intro n
    rw [pcn_s, ih (n / 2), pcn_s, Nat.div_div_eq_div_mul, Nat.pow_succ, Nat.mul_comm 2]
    omega
theorem pcn_8 (k n : Nat) : pcn (k + 8) n = g2 (n % 16) + g2 (n / 16 % 16) + pcn k (n / 256) := by
  rw [(g2_le (n % 16) (by omega)).2, (g2_le (n / 16 % 16) (by omega)).2]
  show n % 2 + (n / 2 % 2 + (n / 2 / 2 % 2 + (n / 2 / 2 / 2 % 2 + (n / 2 / 2 / 2 / 2 % 2 + (n / 2 / 2 / 2 / 2 / 2 % 2 + (n / 2 / 2 / 2 / 2 / 2 / 2 % 2 + (n / 2 / 2 / 2 / 2 / 2 / 2 / 2 % 2 + pcn k (n / 2 / 2 / 2 / 2 / 2 / 2 / 2 / 2)))))))) = _
  rw [show n / 2 / 2 / 2 / 2 / 2 / 2 / 2 / 2 = n / 256 by omega]
  omega
def bcN (n : Nat) : Nat :=
  let a := ((n - (n / 2 &&& m5 16)) &&& m3 16) + ((n - (n / 2 &&& m5 16)) / 4 &&& m3 16)
  let b := (a + a / 16) &&& mf 8
  let c := b + b / 256
  let d := c + c / 65536
  (d + d / 4294967296) % 128
theorem Sg_tr {g : Nat → Nat} (h0 : g 0 = 0) : ∀ j i n, n < 16 ^ j → Sg g (j + i) n = Sg g j n := by
  intro j
  induction j with
  | zero =>
    intro i n h
    have hn : n = 0 := by rw [Nat.pow_zero] at h; omega
    subst hn
    have : ∀ i, Sg g i 0 = 0 := by
      intro i
      induction i with
      | zero => rfl
      | succ i ih => rw [Sg_s, show 0 % 16 = 0 by decide, show 0 / 16 = 0 by decide, ih, h0]
    exact this _
  | succ j ih =>
    intro i n h
    rw [show j + 1 + i = (j + i) + 1 by omega, Sg_s, Sg_s, ih i (n / 16) (by rw [Nat.pow_succ] at h; omega)]
theorem bcN_pcn {n : Nat} (h : n < 2 ^ 40) : bcN n = pcn 40 n := by
  have a1 : n - (n / 2 &&& m5 16) = Sg g1 16 n := by
    have e1 := Sg_m5 16 n
    have e2 := Sg_add g1 (fun d => d / 2 &&& 5) (fun d => d) (fun d hd => (g1_le d hd).2) 16 n
    have e3 := Sg_id 16 n (by omega)
    omega
  have a2 : (Sg g1 16 n &&& m3 16) + (Sg g1 16 n / 4 &&& m3 16) = Sg g2 16 n := by
    rw [Sg_m3 (fun d hd => (g1_le d hd).1), Sg_m3q (fun d hd => (g1_le d hd).1)]
    exact Sg_add _ _ _ (fun d _ => rfl) 16 n
  have a3 := Bt_Sb 8 n
  have a4 : pcn 40 n = _ := pcn_8 32 n
  rw [pcn_8 24, pcn_8 16, pcn_8 8, pcn_8 0] at a4
  simp only [bcN]
  rw [a1, a2, Bt_mf, a3, a4]
  show (_ + _) % 128 = _ + (_ + (_ + (_ + (_ + 0))))
  rw [Sb_s, Sb_s, Sb_s, Sb_s, Sb_s, show n / 256 / 256 / 256 / 256 / 256 = 0 by omega]
  have z0 : Sb 3 0 = 0 := by decide +kernel
  rw [z0]
  have b0 := (g2_le (n % 16) (by omega)).1
  have b1 := (g2_le (n / 16 % 16) (by omega)).1
  have b2 := (g2_le (n / 256 % 16) (by omega)).1
  have b3 := (g2_le (n / 256 / 16 % 16) (by omega)).1
  have b4 := (g2_le (n / 256 / 256 % 16) (by omega)).1
  have b5 := (g2_le (n / 256 / 256 / 16 % 16) (by omega)).1
  have b6 := (g2_le (n / 256 / 256 / 256 % 16) (by omega)).1
  have b7 := (g2_le (n / 256 / 256 / 256 / 16 % 16) (by omega)).1
  have b8 := (g2_le (n / 256 / 256 / 256 / 256 % 16) (by omega)).1
  have b9 := (g2_le (n / 256 / 256 / 256 / 256 / 16 % 16) (by omega)).1
  generalize g2 (n % 16) = c0 at *
  generalize g2 (n / 16 % 16) = c1 at *
  generalize g2 (n / 256 % 16) = c2 at *
  generalize g2 (n / 256 / 16 % 16) = c3 at *
  generalize g2 (n / 256 / 256 % 16) = c4 at *
  generalize g2 (n / 256 / 256 / 16 % 16) = c5 at *
  generalize g2 (n / 256 / 256 / 256 % 16) = c6 at *
  generalize g2 (n / 256 / 256 / 256 / 16 % 16) = c7 at *
  generalize g2 (n / 256 / 256 / 256 / 256 % 16) = c8 at *
  generalize g2 (n / 256 / 256 / 256 / 256 / 16 % 16) = c9 at *
  generalize e0 : c0 + c1 = p0 at *
  generalize e1 : c2 + c3 = p1 at *
  generalize e2 : c4 + c5 = p2 at *
  generalize e3 : c6 + c7 = p3 at *
  generalize e4 : c8 + c9 = p4 at *
  have q0 : p0 ≤ 8 := by omega
  have q1 : p1 ≤ 8 := by omega
  have q2 : p2 ≤ 8 := by omega
  have q3 : p3 ≤ 8 := by omega
  have q4 : p4 ≤ 8 := by omega
  clear e0 e1 e2 e3 e4 b0 b1 b2 b3 b4 b5 b6 b7 b8 b9 a1 a2 a3 a4
  have x1 : (p0 + 256 * (p1 + 256 * (p2 + 256 * (p3 + 256 * p4)))) + (p0 + 256 * (p1 + 256 * (p2 + 256 * (p3 + 256 * p4)))) / 256 = (p0 + p1) + 256 * ((p1 + p2) + 256 * ((p2 + p3) + 256 * ((p3 + p4) + 256 * p4))) := by omega
  rw [x1]
  have x2 : ((p0 + p1) + 256 * ((p1 + p2) + 256 * ((p2 + p3) + 256 * ((p3 + p4) + 256 * p4)))) + ((p0 + p1) + 256 * ((p1 + p2) + 256 * ((p2 + p3) + 256 * ((p3 + p4) + 256 * p4)))) / 65536 = (p0 + p1 + p2 + p3) + 256 * ((p1 + p2 + p3 + p4) + 256 * ((p2 + p3 + p4) + 256 * ((p3 + p4) + 256 * p4))) := by omega
  rw [x2]
  clear x1 x2
  have x3 : ((p0 + p1 + p2 + p3) + 256 * ((p1 + p2 + p3 + p4) + 256 * ((p2 + p3 + p4) + 256 * ((p3 + p4) + 256 * p4)))) / 4294967296 = p4 := by omega
  rw [x3]
  clear x3
  generalize (p1 + p2 + p3 + p4) + 256 * ((p2 + p3 + p4) + 256 * ((p3 + p4) + 256 * p4)) = w
  omega
theorem lN_tb {n : Nat} (h : n < 2 ^ 64) : (lN n).toBitVec.toNat = n := by
  show (BitVec.ofNat 64 n).toNat = n
  rw [BitVec.toNat_ofNat]; exact Nat.mod_eq_of_lt h
theorem lN_of (c : Int64) : c = lN c.toBitVec.toNat := by
  apply Int64.toBitVec_inj.mp
  apply BitVec.eq_of_toNat_eq
  exact (lN_tb c.toBitVec.isLt).symm
theorem lN_and {a b : Nat} (ha : a < 2 ^ 64) (hb : b < 2 ^ 64) : lN a &&& lN b = lN (a &&& b) := by
  apply Int64.toBitVec_inj.mp
  apply BitVec.eq_of_toNat_eq
  rw [lN_tb (Nat.lt_of_le_of_lt Nat.and_le_left ha)]
  show ((lN a).toBitVec &&& (lN b).toBitVec).toNat = _
  rw [BitVec.toNat_and, lN_tb ha, lN_tb hb]
theorem lsr_N {a k : Nat} {x : Int32} (ha : a < 2 ^ 64) (hk : ((x.toInt64.toUInt64 &&& Int64.toUInt64 63)).toNat % 64 = k) : lsr (lN a) x = lN (a / 2 ^ k) := by
  apply Int64.toBitVec_inj.mp
  apply BitVec.eq_of_toNat_eq
  rw [lN_tb (Nat.lt_of_le_of_lt (Nat.div_le_self _ _) ha)]
  have e : (lsr (lN a) x).toBitVec.toNat = ((lN a).toUInt64 >>> (x.toInt64.toUInt64 &&& Int64.toUInt64 63)).toNat := rfl
  have e2 : (lN a).toUInt64.toNat = a := lN_tb ha
  rw [e, UInt64.toNat_shiftRight, hk, Nat.shiftRight_eq_div_pow, e2]
theorem bcnt_N {n : Nat} (h : n < 2 ^ 40) : bcnt (lN n) = nI (bcN n) := by
  have k5 : (6148914691236517205 : Int64) = lN (m5 16) := by decide +kernel
  have k3 : (3689348814741910323 : Int64) = lN (m3 16) := by decide +kernel
  have kf : (1085102592571150095 : Int64) = lN (mf 8) := by decide +kernel
  have l5 : m5 16 < 2 ^ 64 := by decide +kernel
  have l3 : m3 16 < 2 ^ 64 := by decide +kernel
  have lf : mf 8 < 2 ^ 64 := by decide +kernel
  have h1 : bc1 (lN n) = lN (n - (n / 2 &&& m5 16)) := by
    rw [bc1, lsr_N (k := 1) (by omega) (by decide +kernel), k5, lN_and (by omega) l5, lN_sub (Nat.le_trans Nat.and_le_left (by omega))]
  simp only [bcN]
  rw [bcnt, h1]
  have b1 : n - (n / 2 &&& m5 16) < 2 ^ 40 := by omega
  generalize n - (n / 2 &&& m5 16) = a1 at *
  have h2 : bc2 (lN a1) = lN ((a1 &&& m3 16) + (a1 / 4 &&& m3 16)) := by
    rw [bc2, lsr_N (k := 2) (by omega) (by decide +kernel), k3, lN_and (by omega) l3, lN_and (by omega) l3, lN_add]
  rw [h2]
  have b2 : (a1 &&& m3 16) + (a1 / 4 &&& m3 16) < 2 ^ 41 := by
    have w1 : (a1 &&& m3 16) ≤ a1 := Nat.and_le_left
    have w2 : (a1 / 4 &&& m3 16) ≤ a1 / 4 := Nat.and_le_left
    omega
  generalize (a1 &&& m3 16) + (a1 / 4 &&& m3 16) = a2 at *
  have h3 : bc3 (lN a2) = lN ((a2 + a2 / 16) &&& mf 8) := by
    rw [bc3, lsr_N (k := 4) (by omega) (by decide +kernel), kf, lN_add, lN_and (by omega) lf]
  rw [h3]
  have b3 : ((a2 + a2 / 16) &&& mf 8) < 2 ^ 42 := Nat.lt_of_le_of_lt Nat.and_le_left (by omega)
  generalize ((a2 + a2 / 16) &&& mf 8) = a3 at *
  have h4 : bc4 (lN a3) = lN (a3 + a3 / 256) := by
    rw [bc4, lsr_N (k := 8) (by omega) (by decide +kernel), lN_add]
  rw [h4]
  have h5 : bc5 (lN (a3 + a3 / 256)) = lN (a3 + a3 / 256 + (a3 + a3 / 256) / 65536) := by
    rw [bc5, lsr_N (k := 16) (by omega) (by decide +kernel), lN_add]
  rw [h5]
  generalize hd : a3 + a3 / 256 + (a3 + a3 / 256) / 65536 = a5 at *
  have h6 : bc6 (lN a5) = lN (a5 + a5 / 4294967296) := by
    rw [bc6, lsr_N (k := 32) (by omega) (by decide +kernel), lN_add]
  rw [h6, lN_i]
  have e : (nI (a5 + a5 / 4294967296)).toBitVec.toNat = (a5 + a5 / 4294967296) % 2 ^ 32 := by
    show (BitVec.ofNat 32 _).toNat = _
    rw [BitVec.toNat_ofNat]
  rw [pk_and _ 7 (by decide +kernel), e]
  congr 1
  omega
theorem bqP_N {n k : Nat} (hk : k < 40) (hn : n < 2 ^ 64) : bqP (lN n) k ↔ n / 2 ^ k % 2 = 1 := by
  rw [bqP_bit hk]
  show (BitVec.ofNat 64 n).getLsbD k = true ↔ _
  rw [BitVec.getLsbD_ofNat, Nat.testBit_eq_decide_div_mod_eq]
  simp [show k < 64 by omega]
theorem ctM_N {n : Nat} (hn : n < 2 ^ 64) : ∀ k, k ≤ 40 → ctM (lN n) k = nI (pcn k n) := by
  intro k
  induction k with
  | zero => intro _; rfl
  | succ k ih =>
    intro h
    rw [pcn_t, ← nI_add, ← ih (by omega), ctM]
    congr 1
    have hb := bqP_N (n := n) (k := k) (by omega) hn
    by_cases w : n / 2 ^ k % 2 = 1
    · rw [zI_t (hb.mpr w), w]; rfl
    · rw [zI_f (fun z => w (hb.mp z)), show n / 2 ^ k % 2 = 0 by omega]; rfl
theorem pcn_hi {n nc : Nat} (h : n < 2 ^ nc) : ∀ j, pcn (nc + j) n = pcn nc n := by
  intro j
  induction j with
  | zero => rfl
  | succ j ih =>
    have : n / 2 ^ (nc + j) = 0 := Nat.div_eq_of_lt (Nat.lt_of_lt_of_le h (Nat.pow_le_pow_right (by decide) (by omega)))
    rw [show nc + (j + 1) = (nc + j) + 1 by omega, pcn_t, this, ih]; omega
/-- how many bits: both sides -/
theorem bc_ct {c : Int64} {nc : Nat} (h40 : nc ≤ 40) (h : c.toBitVec.toNat < 2 ^ nc) : bcnt c = ctM c nc := by
  have h2 : c.toBitVec.toNat < 2 ^ 40 := Nat.lt_of_lt_of_le h (Nat.pow_le_pow_right (by decide) h40)
  have e := pcn_hi h (40 - nc)
  rw [show nc + (40 - nc) = 40 by omega] at e
  rw [lN_of c, bcnt_N h2, ctM_N (by omega) nc h40, bcN_pcn h2, e]
