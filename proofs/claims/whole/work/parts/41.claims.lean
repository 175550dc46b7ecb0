/-! claims: both sides -/
theorem rlC.eqs {I : aI} {L : aL} {n i : Nat} (h : rlC I L n i) : I 42 i = I (100 + i) 0 ∧ I 43 i = I (100 + i) 1 ∧ I 44 i = I (100 + i) 2 ∧ I 48 i = I (100 + i) 6 ∧ L 49 i = L (100 + i) 7 ∧ I 50 i = I (100 + i) 8 := by
  obtain ⟨s, ln, d, h1, h2, h3, h4, h5, h6, h7, h8, h9, h10⟩ := h
  exact ⟨h4, h2.2.1.trans h2.1.symm, h2.2.2.2.1.trans h2.2.2.1.symm, h6, h7, h9⟩
theorem zero_tb (m : Nat) : (0 : Int64).toBitVec.toNat < 2 ^ m := by
  rw [show (0 : Int64).toBitVec.toNat = 0 from rfl]; exact Nat.two_pow_pos m
theorem zero_bq {j : Nat} (hj : j < 40) : ¬ bqP 0 j := fun z => by
  have := bt_lt (m := 0) (zero_tb 0) ((bqP_bt hj).mp z)
  omega
theorem bit_tb {i m : Nat} (h : i < m) (hm : m ≤ 40) : (bitL (nI i)).toBitVec.toNat < 2 ^ m := by
  rw [bitL_tb (by omega)]; exact Nat.pow_lt_pow_right (by decide) h
theorem and_1 (z : Int64) : z &&& 1 = 0 ∨ z &&& 1 = 1 := by
  have h : (z.toBitVec &&& 1#64) = 0#64 ∨ (z.toBitVec &&& 1#64) = 1#64 := by
    cases hb : z.toBitVec.getLsbD 0 with
    | false =>
      left
      apply BitVec.eq_of_getLsbD_eq
      intro i hi
      rw [BitVec.getLsbD_and, BitVec.getLsbD_one]
      by_cases e : i = 0
      · subst e; rw [hb, Bool.false_and, BitVec.getLsbD_zero]
      · simp [e]
    | true =>
      right
      apply BitVec.eq_of_getLsbD_eq
      intro i hi
      rw [BitVec.getLsbD_and, BitVec.getLsbD_one]
      by_cases e : i = 0
      · subst e; simp [hb]
      · simp [e]
  rcases h with h | h
  · exact Or.inl (Int64.toBitVec_inj.mp h)
  · exact Or.inr (Int64.toBitVec_inj.mp h)
theorem cite_c {c : Int64} {j : Nat} (hj : j < 40) : c >>> ((nI j).toInt64 &&& 63) &&& 1 = 0 ↔ c &&& bitL (nI j) = 0 := by
  have h := bqP_and (c := c) hj
  constructor
  · intro z
    refine Classical.byContradiction fun y => ?_
    have := h.mpr y
    rw [bqP, z] at this
    exact absurd this (by decide)
  · intro z
    rcases and_1 (c >>> ((nI j).toInt64 &&& 63)) with y | y
    · exact y
    · exact absurd z (h.mp y)
theorem bsM_c {la lb : Nat → Int32} {y : Int32} : ∀ n, (∀ k, k < n → la k = lb k) → bsM la y n = bsM lb y n := by
  intro n
  induction n with
  | zero => intro _; rfl
  | succ n ih =>
    intro h
    rw [bsM, bsM, ih (fun k hk => h k (by omega))]
    by_cases e : n = 0
    · rw [if_pos e, if_pos e]
    · rw [if_neg e, if_neg e, h n (by omega), h (bsM lb y n) (by have := bsM_lt lb y n (by omega); omega)]
/-- the nearest star's age: both sides -/
theorem age_eq {I J : aI} {n a b : Nat} (hn0 : 0 < n) (g7 : ∀ k, k < n → rlS I k ∧ rlL I k) (ha : a < 32) (hb : b < 32) (e : ∀ a b, 20 ≤ a → a ≤ 50 → J a b = I a b) : (agN (fun k => I (200 + 8 * k) 6) (fun k => I (200 + 8 * k) 4) (40000 * iabs (nI a - nI b)) n) = J 25 (bsM (fun k => J 27 k) (40000 * iabs (nI a - nI b)) n) := by
  have hd : ∃ d : Nat, d < 32 ∧ iabs (nI a - nI b) = nI d := by
    rcases Nat.le_total a b with h | h
    · exact ⟨b - a, by omega, by rw [← iabs_sub h (by omega)]; apply Int32.toInt_inj.mp; rw [Int32.toInt_sub, nI_toInt (by omega), nI_toInt (by omega), nI_toInt (by omega), bm32 (by omega) (by omega)]; omega⟩
    · refine ⟨a - b, by omega, ?_⟩
      have e1 : (nI a - nI b) = nI (a - b) := by
        apply Int32.toInt_inj.mp
        rw [Int32.toInt_sub, nI_toInt (by omega), nI_toInt (by omega), nI_toInt (by omega), bm32 (by omega) (by omega)]; omega
      rw [e1, iabs, if_pos (nI_pos' (by omega))]
  obtain ⟨d, hd1, hd2⟩ := hd
  have ex : (40000 : Int32) * iabs (nI a - nI b) = nI (40000 * d) := by rw [hd2, show (40000 : Int32) = nI 40000 from rfl, nI_mul]
  have hsl : ∀ k, k < n → sm29 (I (200 + 8 * k) 6) := fun k hk => by
    obtain ⟨ss, la, sm, co, -, -, -, -, -, h6, h7, h8, -⟩ := (g7 k hk).1
    rw [h7]; exact nI_sm (by omega)
  have hs6 : ∀ k, k < n → I 27 k = I (200 + 8 * k) 6 ∧ I 25 k = I (200 + 8 * k) 4 := fun k hk => by
    obtain ⟨ss, la, sm, co, -, -, -, -, -, h6, -⟩ := (g7 k hk).1
    exact ⟨h6 2 (by decide), h6 0 (by decide)⟩
  rw [ag_bs (by rw [ex]; exact nI_sm (by omega)) n hsl hn0]
  have hb2 : bsM (fun k => J 27 k) (40000 * iabs (nI a - nI b)) n = bsM (fun k => I (200 + 8 * k) 6) (40000 * iabs (nI a - nI b)) n := bsM_c n (fun k hk => (e 27 k (by decide) (by decide)).trans (hs6 k hk).1)
  rw [hb2]
  have hlt := bsM_lt (fun k => I (200 + 8 * k) 6) (40000 * iabs (nI a - nI b)) n hn0
  exact ((e 25 _ (by decide) (by decide)).trans (hs6 _ hlt).2).symm
set_option maxHeartbeats 4000000 in
set_option maxRecDepth 100000 in
theorem st_claimTone {l : Launch} {E : aE} {S : aS} {I : aI} {L : aL} {Rf : aR} {Kr : aK} (hst : l.stackTraces = false) {N : Nat} {xs : Nat → Int32} {x y w : Int32}  (hR : Rel N xs S I L Rf) (hk : ∀ (c : Int32) (S' : aS) (I' : aI) (L' : aL) (R' : aR), rlM N xs S' I' → (∀ Kr2 : aK, (∀ (b : Int32) (I2 : aI) (L2 : aL), Rel N xs S' I2 L2 R' → I2 20 31 = c → (c = 0 → L2 10 0 = b.toInt64) → Kr2 (some (.int b)) S' I2 L2 R') → aMet l E yX4_claimTone cX4_claimTone 6 (some .int) rmX4_claimTone [.ref 20, .int x, .int y, .int w] S' I' L' R' Kr2 aNoX) → Kr (some (.int c)) S' I' L' R') : aMetW l E yL_claimTone cL_claimTone 6 (some .int) [(0, 12, 15, 25), (0, 12, 19, 15)] rmL_claimTone [.ref 3, .int x, .int y, .int w, .ref 10] S I L Rf Kr := by
  have hR0 := hR
  obtain ⟨n, nc, sh, g1, g2, g3, g4, g5, g6, g7, g8, g9⟩ := hR0
  have hn : n ≤ 6 := g1.2.1
  have hnc : nc ≤ 40 := g1.2.2.1
  have hm : rlM N xs S I := ⟨g3, g2.1 0 _ rfl⟩
  have F : ∀ z : Int32, Rel N xs S (au2 I 20 31 z) L Rf ∧ au2 I 20 31 z 20 31 = z := fun z => hR.fl (eqX.refl I) (eqX.refl L) (eM.rf _) (eL.rf L)
  refine s_L_claimTone hst (g1.1.1 0 _ rfl) g3.2.2 (fun Kr' Kx' hA hB1 hB2 => ?_)
  obtain ⟨m1, m2, m3, m4, m5, m6⟩ := mid (J := I) (fun _ _ _ _ => rfl) g1 g4 g7 g8
  refine s_X3_claimTone hst g1 (rel_hsi g7) (rel_hoo g7) (fun z => hB1 _ _ _ _ (hk 1 _ _ _ _ hm (fun Kr2 h2 => s_X4_claimTone hst g2 m1 hn m2 hnc m3 m4 (fun _ => h2 0 _ _ (F 1).1 (F 1).2 (fun z => absurd z (by decide))) (fun k j hk9 hj9 ex ey _ I2 L2 c1 d1 => absurd ⟨in1 hk9 ex, in1 hj9 ey⟩ z) (fun k j hk9 hj9 ex ey _ I2 L2 c1 => absurd ⟨in1 hk9 ex, in1 hj9 ey⟩ z)))) (fun k j hk9 hj9 ex ey z I' L' e1 f1 => ?_) (fun k j hk9 hj9 ex ey h40 p1 p2 S' I' L' R' hN => ?_)
  · have em : ∀ a b, 20 ≤ a → a ≤ 50 → I' a b = I a b := fun a b z1 z2 => e1 a b (by omega) (by omega) (by omega)
    obtain ⟨m1, m2, m3, m4, m5, m6⟩ := mid em g1 g4 g7 g8
    have hm1 : rlM N xs S I' := hm.x (fun b => e1 1 b (by decide) (by decide) (by decide))
    refine hB2 _ _ _ _ (hk 2 _ _ _ _ hm1 (fun Kr2 h2 => s_X4_claimTone hst g2 m1 hn m2 hnc m3 m4 (fun z => absurd ⟨in1 hk9 ex, in1 hj9 ey⟩ z) (fun k2 j2 hk2 hj2 ex2 ey2 _ I2 L2 c1 d1 => h2 0 _ _ (hR.fl e1 f1 c1 d1).1 (hR.fl e1 f1 c1 d1).2 (fun z => absurd z (by decide))) (fun k2 j2 hk2 hj2 ex2 ey2 p9 I2 L2 c1 => ?_)))
    obtain rfl : k2 = k := nI_same (by omega) (by omega) ex2 ex
    obtain rfl : j2 = j := nI_same (by omega) (by omega) ey2 ey
    rw [m6] at p9
    exact absurd p9 z
  · have em : ∀ a b, 20 ≤ a → a ≤ 50 → I' a b = I a b := fun a b z1 z2 => hN.2.2.1 a b (by omega) (by omega) (by omega) (by omega) (by omega)
    obtain ⟨m1, m2, m3, m4, m5, m6⟩ := mid em g1 g4 g7 g8
    have hm1 : rlM N xs S' I' := ⟨g3.c (hN.2.1 1 (by omega)) (hN.2.1 10 (by omega)) (fun b => hN.2.2.1 1 b (by decide) (by decide) (by decide) (by omega) (by omega)), (hN.2.1 20 (by omega)).trans hm.2⟩
    have g2' : lyM S' R' := g2.c (fun a z1 z2 => hN.2.1 a (by omega)) (fun k => hN.2.2.2.2.1 20 k (by omega) (by omega))
    refine hA _ _ _ _ _ hm1.1.2.2 (hk 0 _ _ _ _ hm1 (fun Kr2 h2 => s_X4_claimTone hst g2' m1 hn m2 hnc m3 m4 (fun z => absurd ⟨in1 hk9 ex, in1 hj9 ey⟩ z) (fun k2 j2 hk2 hj2 ex2 ey2 p9 I2 L2 c1 d1 => ?_) (fun k2 j2 hk2 hj2 ex2 ey2 p9 I2 L2 hM9 => ?_)))
    · obtain rfl : k2 = k := nI_same (by omega) (by omega) ex2 ex
      obtain rfl : j2 = j := nI_same (by omega) (by omega) ey2 ey
      rw [m6] at p9
      exact absurd ⟨h40, p1, p2⟩ p9
    · obtain rfl : k2 = k := nI_same (by omega) (by omega) ex2 ex
      obtain rfl : j2 = j := nI_same (by omega) (by omega) ey2 ey
      obtain ⟨ln, -, l2, el⟩ := p1
      have Q := re_new g1 g2 g3 g4 g5 g6 g7 g8 g9 h40 hN hM9 (s := k2) (ln := ln) (d := ooC I k2) rfl el rfl ⟨hk2, by omega, (g7 k2 hk2).2.oo.2.1⟩ (Or.inl rfl) (fun _ => f3_of hj2) (zero_tb nc) (fun j hj z => absurd z (zero_bq (by omega)))
      exact h2 _ _ _ Q.1 Q.2.1 (fun _ => Q.2.2)
set_option maxHeartbeats 4000000 in
set_option maxRecDepth 100000 in
theorem st_claimAge {l : Launch} {E : aE} {S : aS} {I : aI} {L : aL} {Rf : aR} {Kr : aK} (hst : l.stackTraces = false) {N : Nat} {xs : Nat → Int32} {x y : Int32}  (hR : Rel N xs S I L Rf) (hk : ∀ (c : Int32) (S' : aS) (I' : aI) (L' : aL) (R' : aR), rlM N xs S' I' → (∀ Kr2 : aK, (∀ (b : Int32) (I2 : aI) (L2 : aL), Rel N xs S' I2 L2 R' → I2 20 31 = c → (c = 0 → L2 10 0 = b.toInt64) → Kr2 (some (.int b)) S' I2 L2 R') → aMet l E yX4_claimAge cX4_claimAge 6 (some .int) rmX4_claimAge [.ref 20, .int x, .int y] S' I' L' R' Kr2 aNoX) → Kr (some (.int c)) S' I' L' R') : aMetW l E yL_claimAge cL_claimAge 5 (some .int) [(0, 10, 13, 25), (0, 10, 17, 13), (0, 10, 21, 15)] rmL_claimAge [.ref 3, .int x, .int y, .ref 10] S I L Rf Kr := by
  have hR0 := hR
  obtain ⟨n, nc, sh, g1, g2, g3, g4, g5, g6, g7, g8, g9⟩ := hR0
  have hn : n ≤ 6 := g1.2.1
  have hnc : nc ≤ 40 := g1.2.2.1
  have hm : rlM N xs S I := ⟨g3, g2.1 0 _ rfl⟩
  have F : ∀ z : Int32, Rel N xs S (au2 I 20 31 z) L Rf ∧ au2 I 20 31 z 20 31 = z := fun z => hR.fl (eqX.refl I) (eqX.refl L) (eM.rf _) (eL.rf L)
  refine s_L_claimAge hst (g1.1.1 0 _ rfl) g3.2.2 (fun Kr' Kx' hA hB1 hB2 hB3 => ?_)
  obtain ⟨m1, m2, m3, m4, m5, m6⟩ := mid (J := I) (fun _ _ _ _ => rfl) g1 g4 g7 g8
  refine s_X3_claimAge hst g1 (fun z => hB1 _ _ _ _ (hk 1 _ _ _ _ hm (fun Kr2 h2 => s_X4_claimAge hst g2 m1 hn (fun z => by obtain ⟨s, ln, d, h, -⟩ := g8 0 z; omega) m2 hnc (fun i hi => ⟨(m5 i hi).2.2.1, (m5 i hi).2.2.2.1⟩) (fun _ => h2 0 _ _ (F 1).1 (F 1).2 (fun z => absurd z (by decide))) (fun i j hi9 hj9 ex ey _ => absurd ⟨in1 hi9 ex, in1 hj9 ey⟩ z) (fun i j hi9 hj9 ex ey _ _ => absurd ⟨in1 hi9 ex, in1 hj9 ey⟩ z) (fun i j hi9 hj9 ex ey _ _ _ _ I2 L2 c1 => absurd ⟨in1 hi9 ex, in1 hj9 ey⟩ z)))) (fun i j hi9 hj9 ex ey z9 => hB2 _ _ _ _ (hk 2 _ _ _ _ hm (fun Kr2 h2 => s_X4_claimAge hst g2 m1 hn (fun z => by obtain ⟨s, ln, d, h, -⟩ := g8 0 z; omega) m2 hnc (fun i hi => ⟨(m5 i hi).2.2.1, (m5 i hi).2.2.2.1⟩) (fun z => absurd ⟨in1 hi9 ex, in1 hj9 ey⟩ z) (fun i2 j2 hi2 hj2 ex2 ey2 q9 => h2 0 _ _ (F 2).1 (F 2).2 (fun z => absurd z (by decide))) (fun i2 j2 hi2 hj2 ex2 ey2 q9 _ => ?_) (fun i2 j2 hi2 hj2 ex2 ey2 q9 _ _ _ I2 L2 c1 => ?_)))) (fun i j hi9 hj9 ex ey z8 z9 => hB3 _ _ _ _ (hk 3 _ _ _ _ hm (fun Kr2 h2 => s_X4_claimAge hst g2 m1 hn (fun z => by obtain ⟨s, ln, d, h, -⟩ := g8 0 z; omega) m2 hnc (fun i hi => ⟨(m5 i hi).2.2.1, (m5 i hi).2.2.2.1⟩) (fun z => absurd ⟨in1 hi9 ex, in1 hj9 ey⟩ z) (fun i2 j2 hi2 hj2 ex2 ey2 q9 => ?_) (fun i2 j2 hi2 hj2 ex2 ey2 q9 _ => h2 0 _ _ (F 3).1 (F 3).2 (fun z => absurd z (by decide))) (fun i2 j2 hi2 hj2 ex2 ey2 q9 q8 q7 q6 I2 L2 c1 => ?_)))) (fun i j hi9 hj9 ex ey z9 h40 s1 s2 S' I' L' R' hN => ?_)
  · obtain rfl : i2 = i := nI_same (by omega) (by omega) ex2 ex
    obtain rfl : j2 = j := nI_same (by omega) (by omega) ey2 ey
    obtain ⟨p0, p1, p2, p3, p4, p5⟩ := (g8 i2 hi2).eqs
    obtain ⟨r0, r1, r2, r3, r4, r5⟩ := (g8 j2 hj2).eqs
    rw [p0, r0, p1, r1, p2, r2] at q9
    exact absurd q9 z9
  · obtain rfl : i2 = i := nI_same (by omega) (by omega) ex2 ex
    obtain rfl : j2 = j := nI_same (by omega) (by omega) ey2 ey
    obtain ⟨p0, p1, p2, p3, p4, p5⟩ := (g8 i2 hi2).eqs
    obtain ⟨r0, r1, r2, r3, r4, r5⟩ := (g8 j2 hj2).eqs
    rw [p0, r0, p1, r1, p2, r2] at q9
    exact absurd q9 z9
  · obtain rfl : i2 = i := nI_same (by omega) (by omega) ex2 ex
    obtain rfl : j2 = j := nI_same (by omega) (by omega) ey2 ey
    obtain ⟨p0, p1, p2, p3, p4, p5⟩ := (g8 i2 hi2).eqs
    obtain ⟨r0, r1, r2, r3, r4, r5⟩ := (g8 j2 hj2).eqs
    rw [p0, r0, p1, r1, p2, r2] at q9
    exact absurd z8 q9
  · obtain rfl : i2 = i := nI_same (by omega) (by omega) ex2 ex
    obtain rfl : j2 = j := nI_same (by omega) (by omega) ey2 ey
    obtain ⟨p0, p1, p2, p3, p4, p5⟩ := (g8 i2 hi2).eqs
    obtain ⟨r0, r1, r2, r3, r4, r5⟩ := (g8 j2 hj2).eqs
    rw [p5] at q7
    rw [r5] at q6
    exact absurd ⟨q8, q7, q6⟩ z9
  · have em : ∀ a b, 20 ≤ a → a ≤ 50 → I' a b = I a b := fun a b z1 z2 => hN.2.2.1 a b (by omega) (by omega) (by omega) (by omega) (by omega)
    obtain ⟨m1, m2, m3, m4, m5, m6⟩ := mid em g1 g4 g7 g8
    have hm1 : rlM N xs S' I' := ⟨g3.c (hN.2.1 1 (by omega)) (hN.2.1 10 (by omega)) (fun b => hN.2.2.1 1 b (by decide) (by decide) (by decide) (by omega) (by omega)), (hN.2.1 20 (by omega)).trans hm.2⟩
    have g2' : lyM S' R' := g2.c (fun a z1 z2 => hN.2.1 a (by omega)) (fun k => hN.2.2.2.2.1 20 k (by omega) (by omega))
    refine hA _ _ _ _ _ hm1.1.2.2 (hk 0 _ _ _ _ hm1 (fun Kr2 h2 => s_X4_claimAge hst g2' m1 hn (fun z => by obtain ⟨s, ln, d, h, -⟩ := g8 0 z; omega) m2 hnc (fun i hi => ⟨(m5 i hi).2.2.1, (m5 i hi).2.2.2.1⟩) (fun z => absurd ⟨in1 hi9 ex, in1 hj9 ey⟩ z) (fun i2 j2 hi2 hj2 ex2 ey2 q9 => ?_) (fun i2 j2 hi2 hj2 ex2 ey2 q9 q8 => ?_) (fun i2 j2 hi2 hj2 ex2 ey2 q9 q8 q7 q6 I2 L2 hM9 => ?_)))
    · obtain rfl : i2 = i := nI_same (by omega) (by omega) ex2 ex
      obtain rfl : j2 = j := nI_same (by omega) (by omega) ey2 ey
      obtain ⟨p0, p1, p2, p3, p4, p5⟩ := (g8 i2 hi2).eqs
      obtain ⟨r0, r1, r2, r3, r4, r5⟩ := (g8 j2 hj2).eqs
      have u0 := (em 42 i2 (by decide) (by decide)).trans p0
      have u1 := (em 43 i2 (by decide) (by decide)).trans p1
      have u2 := (em 44 i2 (by decide) (by decide)).trans p2
      have u5 := (em 50 i2 (by decide) (by decide)).trans p5
      have v0 := (em 42 j2 (by decide) (by decide)).trans r0
      have v1 := (em 43 j2 (by decide) (by decide)).trans r1
      have v2 := (em 44 j2 (by decide) (by decide)).trans r2
      have v5 := (em 50 j2 (by decide) (by decide)).trans r5
      rw [u0, v0, u1, v1, u2, v2] at q9
      exact absurd z9 q9
    · obtain rfl : i2 = i := nI_same (by omega) (by omega) ex2 ex
      obtain rfl : j2 = j := nI_same (by omega) (by omega) ey2 ey
      obtain ⟨p0, p1, p2, p3, p4, p5⟩ := (g8 i2 hi2).eqs
      obtain ⟨r0, r1, r2, r3, r4, r5⟩ := (g8 j2 hj2).eqs
      have u0 := (em 42 i2 (by decide) (by decide)).trans p0
      have u1 := (em 43 i2 (by decide) (by decide)).trans p1
      have u2 := (em 44 i2 (by decide) (by decide)).trans p2
      have u5 := (em 50 i2 (by decide) (by decide)).trans p5
      have v0 := (em 42 j2 (by decide) (by decide)).trans r0
      have v1 := (em 43 j2 (by decide) (by decide)).trans r1
      have v2 := (em 44 j2 (by decide) (by decide)).trans r2
      have v5 := (em 50 j2 (by decide) (by decide)).trans r5
      rw [u5, v5] at q8
      exact absurd ⟨h40, s1, s2⟩ q8
    · obtain rfl : i2 = i := nI_same (by omega) (by omega) ex2 ex
      obtain rfl : j2 = j := nI_same (by omega) (by omega) ey2 ey
      obtain ⟨p0, p1, p2, p3, p4, p5⟩ := (g8 i2 hi2).eqs
      obtain ⟨r0, r1, r2, r3, r4, r5⟩ := (g8 j2 hj2).eqs
      have u0 := (em 42 i2 (by decide) (by decide)).trans p0
      have u1 := (em 43 i2 (by decide) (by decide)).trans p1
      have u2 := (em 44 i2 (by decide) (by decide)).trans p2
      have u5 := (em 50 i2 (by decide) (by decide)).trans p5
      have v0 := (em 42 j2 (by decide) (by decide)).trans r0
      have v1 := (em 43 j2 (by decide) (by decide)).trans r1
      have v2 := (em 44 j2 (by decide) (by decide)).trans r2
      have v5 := (em 50 j2 (by decide) (by decide)).trans r5
      have a1 := (g8 i2 hi2).sc hn
      have a2 := (g8 j2 hj2).sc hn
      rw [u1, u2, v2, a1.2.2.2.2.1, a2.2.2.2.2.1, ← age_eq (show 0 < n by omega) g7 a1.2.2.2.1 a2.2.2.2.1 em] at hM9
      rw [a1.2.2.2.2.1, a2.2.2.2.2.1] at hN
      have Q := re_new g1 g2 g3 g4 g5 g6 g7 g8 g9 h40 hN hM9 (s := scC I i2) (ln := lnC I i2) (d := 0) a1.2.1 rfl rfl ⟨a1.1, a1.2.2.2.1, by omega⟩ (Or.inr (Or.inl rfl)) (fun z => absurd z (by decide)) (or_tb (bit_tb hi2 hnc) (bit_tb hj2 hnc)) (fun j hj z => by
        rw [bqP_bt (by omega), or_bt, bit_bt (by omega), bit_bt (by omega)] at z
        rcases z with rfl | rfl
        · exact s1
        · exact s2)
      exact h2 _ _ _ Q.1 Q.2.1 (fun _ => Q.2.2)
set_option maxHeartbeats 4000000 in
set_option maxRecDepth 100000 in
theorem st_claimPlanet {l : Launch} {E : aE} {S : aS} {I : aI} {L : aL} {Rf : aR} {Kr : aK} (hst : l.stackTraces = false) {N : Nat} {xs : Nat → Int32} {x : Int32}  (hR : Rel N xs S I L Rf) (hk : ∀ (c : Int32) (S' : aS) (I' : aI) (L' : aL) (R' : aR), rlM N xs S' I' → (∀ Kr2 : aK, (∀ (b : Int32) (I2 : aI) (L2 : aL), Rel N xs S' I2 L2 R' → I2 20 31 = c → (c = 0 → L2 10 0 = b.toInt64) → Kr2 (some (.int b)) S' I2 L2 R') → aMet l E yX4_claimPlanet cX4_claimPlanet 5 (some .int) rmX4_claimPlanet [.ref 20, .int x] S' I' L' R' Kr2 aNoX) → Kr (some (.int c)) S' I' L' R') : aMetW l E yL_claimPlanet cL_claimPlanet 4 (some .int) [(0, 9, 12, 25), (0, 9, 15, 13), (0, 9, 18, 15)] rmL_claimPlanet [.ref 3, .int x, .ref 10] S I L Rf Kr := by
  have hR0 := hR
  obtain ⟨n, nc, sh, g1, g2, g3, g4, g5, g6, g7, g8, g9⟩ := hR0
  have hn : n ≤ 6 := g1.2.1
  have hnc : nc ≤ 40 := g1.2.2.1
  have hm : rlM N xs S I := ⟨g3, g2.1 0 _ rfl⟩
  have F : ∀ z : Int32, Rel N xs S (au2 I 20 31 z) L Rf ∧ au2 I 20 31 z 20 31 = z := fun z => hR.fl (eqX.refl I) (eqX.refl L) (eM.rf _) (eL.rf L)
  refine s_L_claimPlanet hst (g1.1.1 0 _ rfl) g3.2.2 (fun Kr' Kx' hA hB1 hB2 hB3 => ?_)
  obtain ⟨m1, m2, m3, m4, m5, m6⟩ := mid (J := I) (fun _ _ _ _ => rfl) g1 g4 g7 g8
  refine s_X3_claimPlanet hst g1 (fun z => hB1 _ _ _ _ (hk 1 _ _ _ _ hm (fun Kr2 h2 => s_X4_claimPlanet hst g2 m2 hnc (fun _ => h2 0 _ _ (F 1).1 (F 1).2 (fun z => absurd z (by decide))) (fun i hi9 ex _ => absurd (in1 hi9 ex) z) (fun i hi9 ex _ _ => absurd (in1 hi9 ex) z) (fun i hi9 ex _ _ _ I2 L2 c1 => absurd (in1 hi9 ex) z)))) (fun i hi9 ex z9 => hB2 _ _ _ _ (hk 2 _ _ _ _ hm (fun Kr2 h2 => s_X4_claimPlanet hst g2 m2 hnc (fun z => absurd (in1 hi9 ex) z) (fun i2 hi2 ex2 q9 => h2 0 _ _ (F 2).1 (F 2).2 (fun z => absurd z (by decide))) (fun i2 hi2 ex2 q9 _ => ?_) (fun i2 hi2 ex2 q9 _ _ I2 L2 c1 => ?_)))) (fun i hi9 ex z8 z9 => hB3 _ _ _ _ (hk 3 _ _ _ _ hm (fun Kr2 h2 => s_X4_claimPlanet hst g2 m2 hnc (fun z => absurd (in1 hi9 ex) z) (fun i2 hi2 ex2 q9 => ?_) (fun i2 hi2 ex2 q9 _ => h2 0 _ _ (F 3).1 (F 3).2 (fun z => absurd z (by decide))) (fun i2 hi2 ex2 q9 q8 q7 I2 L2 c1 => ?_)))) (fun i hi9 ex z9 h40 s1 S' I' L' R' hN => ?_)
  · obtain rfl : i2 = i := nI_same (by omega) (by omega) ex2 ex
    obtain ⟨p0, p1, p2, p3, p4, p5⟩ := (g8 i2 hi2).eqs
    rw [p0] at q9
    exact absurd q9 z9
  · obtain rfl : i2 = i := nI_same (by omega) (by omega) ex2 ex
    obtain ⟨p0, p1, p2, p3, p4, p5⟩ := (g8 i2 hi2).eqs
    rw [p0] at q9
    exact absurd q9 z9
  · obtain rfl : i2 = i := nI_same (by omega) (by omega) ex2 ex
    obtain ⟨p0, p1, p2, p3, p4, p5⟩ := (g8 i2 hi2).eqs
    rw [p0] at q9
    exact absurd z8 q9
  · obtain rfl : i2 = i := nI_same (by omega) (by omega) ex2 ex
    obtain ⟨p0, p1, p2, p3, p4, p5⟩ := (g8 i2 hi2).eqs
    rw [p5] at q7
    exact absurd ⟨q8, q7⟩ z9
  · have em : ∀ a b, 20 ≤ a → a ≤ 50 → I' a b = I a b := fun a b z1 z2 => hN.2.2.1 a b (by omega) (by omega) (by omega) (by omega) (by omega)
    obtain ⟨m1, m2, m3, m4, m5, m6⟩ := mid em g1 g4 g7 g8
    have hm1 : rlM N xs S' I' := ⟨g3.c (hN.2.1 1 (by omega)) (hN.2.1 10 (by omega)) (fun b => hN.2.2.1 1 b (by decide) (by decide) (by decide) (by omega) (by omega)), (hN.2.1 20 (by omega)).trans hm.2⟩
    have g2' : lyM S' R' := g2.c (fun a z1 z2 => hN.2.1 a (by omega)) (fun k => hN.2.2.2.2.1 20 k (by omega) (by omega))
    refine hA _ _ _ _ _ hm1.1.2.2 (hk 0 _ _ _ _ hm1 (fun Kr2 h2 => s_X4_claimPlanet hst g2' m2 hnc (fun z => absurd (in1 hi9 ex) z) (fun i2 hi2 ex2 q9 => ?_) (fun i2 hi2 ex2 q9 q8 => ?_) (fun i2 hi2 ex2 q9 q8 q7 I2 L2 hM9 => ?_)))
    · obtain rfl : i2 = i := nI_same (by omega) (by omega) ex2 ex
      obtain ⟨p0, p1, p2, p3, p4, p5⟩ := (g8 i2 hi2).eqs
      have u0 := (em 42 i2 (by decide) (by decide)).trans p0
      have u1 := (em 43 i2 (by decide) (by decide)).trans p1
      have u2 := (em 44 i2 (by decide) (by decide)).trans p2
      have u5 := (em 50 i2 (by decide) (by decide)).trans p5
      rw [u0] at q9
      exact absurd z9 q9
    · obtain rfl : i2 = i := nI_same (by omega) (by omega) ex2 ex
      obtain ⟨p0, p1, p2, p3, p4, p5⟩ := (g8 i2 hi2).eqs
      have u0 := (em 42 i2 (by decide) (by decide)).trans p0
      have u1 := (em 43 i2 (by decide) (by decide)).trans p1
      have u2 := (em 44 i2 (by decide) (by decide)).trans p2
      have u5 := (em 50 i2 (by decide) (by decide)).trans p5
      rw [u5] at q8
      exact absurd ⟨h40, s1⟩ q8
    · obtain rfl : i2 = i := nI_same (by omega) (by omega) ex2 ex
      obtain ⟨p0, p1, p2, p3, p4, p5⟩ := (g8 i2 hi2).eqs
      have u0 := (em 42 i2 (by decide) (by decide)).trans p0
      have u1 := (em 43 i2 (by decide) (by decide)).trans p1
      have u2 := (em 44 i2 (by decide) (by decide)).trans p2
      have u5 := (em 50 i2 (by decide) (by decide)).trans p5
      have a1 := (g8 i2 hi2).sc hn
      rw [u1, u2] at hM9
      have Q := re_new g1 g2 g3 g4 g5 g6 g7 g8 g9 h40 hN hM9 (s := scC I i2) (ln := lnC I i2) (d := 0) a1.2.1 a1.2.2.2.2.1 rfl ⟨a1.1, a1.2.2.2.1, by omega⟩ (Or.inr (Or.inr rfl)) (fun z => absurd z (by decide)) (bit_tb hi2 hnc) (fun j hj z => by
        rw [bqP_bt (by omega), bit_bt (by omega)] at z
        rw [z]; exact s1)
      exact h2 _ _ _ Q.1 Q.2.1 (fun _ => Q.2.2)
set_option maxHeartbeats 4000000 in
set_option maxRecDepth 100000 in
theorem st_cite {l : Launch} {E : aE} {S : aS} {I : aI} {L : aL} {Rf : aR} {Kr : aK} (hst : l.stackTraces = false) {N : Nat} {xs : Nat → Int32} {x y : Int32}  (hR : Rel N xs S I L Rf) (hk : ∀ (c : Int32) (S' : aS) (I' : aI) (L' : aL) (R' : aR), rlM N xs S' I' → (∀ Kr2 : aK, (∀ (b : Int32) (I2 : aI) (L2 : aL), Rel N xs S' I2 L2 R' → I2 20 31 = c → (c = 0 → L2 10 0 = b.toInt64) → Kr2 (some (.int b)) S' I2 L2 R') → aMet l E yX4_cite cX4_cite 6 (some .int) rmX4_cite [.ref 20, .int x, .int y] S' I' L' R' Kr2 aNoX) → Kr (some (.int c)) S' I' L' R') : aMetW l E yL_cite cL_cite 5 (some .int) [(0, 10, 13, 25), (0, 10, 17, 13), (0, 10, 21, 15)] rmL_cite [.ref 3, .int x, .int y, .ref 10] S I L Rf Kr := by
  have hR0 := hR
  obtain ⟨n, nc, sh, g1, g2, g3, g4, g5, g6, g7, g8, g9⟩ := hR0
  have hn : n ≤ 6 := g1.2.1
  have hnc : nc ≤ 40 := g1.2.2.1
  have hm : rlM N xs S I := ⟨g3, g2.1 0 _ rfl⟩
  have F : ∀ z : Int32, Rel N xs S (au2 I 20 31 z) L Rf ∧ au2 I 20 31 z 20 31 = z := fun z => hR.fl (eqX.refl I) (eqX.refl L) (eM.rf _) (eL.rf L)
  refine s_L_cite hst (g1.1.1 0 _ rfl) g3.2.2 (fun Kr' Kx' hA hB1 hB2 hB3 => ?_)
  obtain ⟨m1, m2, m3, m4, m5, m6⟩ := mid (J := I) (fun _ _ _ _ => rfl) g1 g4 g7 g8
  refine s_X3_cite hst g1 (fun z => hB1 _ _ _ _ (hk 1 _ _ _ _ hm (fun Kr2 h2 => s_X4_cite hst g2 m2 hnc (fun _ => h2 0 _ _ (F 1).1 (F 1).2 (fun z => absurd z (by decide))) (fun i j hi9 hj9 ex ey _ => absurd ⟨in1 hi9 ex, in1 hj9 ey⟩ z) (fun i j hi9 hj9 ex ey _ _ => absurd ⟨in1 hi9 ex, in1 hj9 ey⟩ z) (fun i j hi9 hj9 ex ey _ _ _ _ => absurd ⟨in1 hi9 ex, in1 hj9 ey⟩ z)))) (fun i j hi9 hj9 ex ey z9 => hB2 _ _ _ _ (hk 2 _ _ _ _ hm (fun Kr2 h2 => s_X4_cite hst g2 m2 hnc (fun z => absurd ⟨in1 hi9 ex, in1 hj9 ey⟩ z) (fun i2 j2 hi2 hj2 ex2 ey2 q9 => h2 0 _ _ (F 2).1 (F 2).2 (fun z => absurd z (by decide))) (fun i2 j2 hi2 hj2 ex2 ey2 q9 _ => ?_) (fun i2 j2 hi2 hj2 ex2 ey2 q9 _ _ _ => ?_)))) (fun i j hi9 hj9 ex ey z8 z9 => hB3 _ _ _ _ (hk 3 _ _ _ _ hm (fun Kr2 h2 => s_X4_cite hst g2 m2 hnc (fun z => absurd ⟨in1 hi9 ex, in1 hj9 ey⟩ z) (fun i2 j2 hi2 hj2 ex2 ey2 q9 => ?_) (fun i2 j2 hi2 hj2 ex2 ey2 q9 _ => h2 0 _ _ (F 3).1 (F 3).2 (fun z => absurd z (by decide))) (fun i2 j2 hi2 hj2 ex2 ey2 q9 q8 q7 q6 => ?_)))) (fun i j hi9 hj9 ex ey z9 s1 s2 s3 => hA _ _ _ _ _ g3.2.2 (hk 0 _ _ _ _ hm (fun Kr2 h2 => s_X4_cite hst g2 m2 hnc (fun z => absurd ⟨in1 hi9 ex, in1 hj9 ey⟩ z) (fun i2 j2 hi2 hj2 ex2 ey2 q9 => ?_) (fun i2 j2 hi2 hj2 ex2 ey2 q9 q8 => ?_) (fun i2 j2 hi2 hj2 ex2 ey2 q9 q8 q7 q6 => ?_))))
  · obtain rfl : i2 = i := nI_same (by omega) (by omega) ex2 ex
    obtain rfl : j2 = j := nI_same (by omega) (by omega) ey2 ey
    exact absurd q9 z9
  · obtain rfl : i2 = i := nI_same (by omega) (by omega) ex2 ex
    obtain rfl : j2 = j := nI_same (by omega) (by omega) ey2 ey
    exact absurd q9 z9
  · obtain rfl : i2 = i := nI_same (by omega) (by omega) ex2 ex
    obtain rfl : j2 = j := nI_same (by omega) (by omega) ey2 ey
    exact absurd z8 q9
  · obtain rfl : i2 = i := nI_same (by omega) (by omega) ex2 ex
    obtain rfl : j2 = j := nI_same (by omega) (by omega) ey2 ey
    obtain ⟨p0, p1, p2, p3, p4, p5⟩ := (g8 i2 hi2).eqs
    obtain ⟨r0, r1, r2, r3, r4, r5⟩ := (g8 j2 hj2).eqs
    rw [p5] at q8
    rw [r5] at q7
    rw [p4, cite_c (by omega)] at q6
    exact absurd ⟨q8, q7, q6⟩ z9
  · obtain rfl : i2 = i := nI_same (by omega) (by omega) ex2 ex
    obtain rfl : j2 = j := nI_same (by omega) (by omega) ey2 ey
    exact absurd z9 q9
  · obtain rfl : i2 = i := nI_same (by omega) (by omega) ex2 ex
    obtain rfl : j2 = j := nI_same (by omega) (by omega) ey2 ey
    obtain ⟨p0, p1, p2, p3, p4, p5⟩ := (g8 i2 hi2).eqs
    obtain ⟨r0, r1, r2, r3, r4, r5⟩ := (g8 j2 hj2).eqs
    rw [p5, r5, au2_n (by omega), au2_n (by omega), p4, cite_c (by omega)] at q8
    exact absurd ⟨s1, s2, s3⟩ q8
  · obtain rfl : i2 = i := nI_same (by omega) (by omega) ex2 ex
    obtain rfl : j2 = j := nI_same (by omega) (by omega) ey2 ey
    obtain ⟨p0, p1, p2, p3, p4, p5⟩ := (g8 i2 hi2).eqs
    obtain ⟨r0, r1, r2, r3, r4, r5⟩ := (g8 j2 hj2).eqs
    have ec : au2 (au2 L (100 + i2) 7 (L (100 + i2) 7 ||| bitL (nI j2))) 10 0 (bcnt (L (100 + i2) 7 ||| bitL (nI j2))).toInt64 49 i2 = L (100 + i2) 7 := by
      rw [au2_n (by omega), au2_n (by omega), p4]
    rw [ec]
    obtain ⟨s, ln, d, -, -, -, -, -, -, -, h8, -⟩ := g8 i2 hi2
    have hb : (L (100 + i2) 7 ||| bitL (nI j2)).toBitVec.toNat < 2 ^ i2 := or_tb h8 (bit_tb q9 (by omega))
    refine h2 _ _ _ (re_cite (i0 := i2) (j0 := j2) (ci := L (100 + i2) 7 ||| bitL (nI j2)) g1 g2 g3 g4 g5 g6 g7 g8 g9 (fun a b z => by rw [au2_n (by omega)]) (fun a b z => by rw [au2_n (by omega), au2_n (by omega), au2_n (by omega)]) hi2 q9 s2 rfl (by rw [au2_n (by omega), au2_n (by omega), au2_s]) (au2_s _ _ _ _)) (au2_s _ _ _ _) (fun _ => ?_)
    rw [au2_n (by omega), au2_s, bc_ct hnc (Nat.lt_trans hb (Nat.pow_lt_pow_right (by decide) hi2))]
set_option maxHeartbeats 4000000 in
set_option maxRecDepth 100000 in
theorem st_withdraw {l : Launch} {E : aE} {S : aS} {I : aI} {L : aL} {Rf : aR} {Kr : aK} (hst : l.stackTraces = false) {N : Nat} {xs : Nat → Int32} {x : Int32}  (hR : Rel N xs S I L Rf) (hk : ∀ (c : Int32) (S' : aS) (I' : aI) (L' : aL) (R' : aR), rlM N xs S' I' → (∀ Kr2 : aK, (∀ (b : Int32) (I2 : aI) (L2 : aL), Rel N xs S' I2 L2 R' → I2 20 31 = c → (c = 0 → L2 10 0 = b.toInt64) → Kr2 (some (.int b)) S' I2 L2 R') → aMet l E yX4_withdraw cX4_withdraw 3 (some .int) rmX4_withdraw [.ref 20, .int x] S' I' L' R' Kr2 aNoX) → Kr (some (.int c)) S' I' L' R') : aMetW l E yL_withdraw cL_withdraw 4 (some .int) [(0, 9, 12, 25), (0, 9, 15, 15)] rmL_withdraw [.ref 3, .int x, .ref 10] S I L Rf Kr := by
  have hR0 := hR
  obtain ⟨n, nc, sh, g1, g2, g3, g4, g5, g6, g7, g8, g9⟩ := hR0
  have hn : n ≤ 6 := g1.2.1
  have hnc : nc ≤ 40 := g1.2.2.1
  have hm : rlM N xs S I := ⟨g3, g2.1 0 _ rfl⟩
  have F : ∀ z : Int32, Rel N xs S (au2 I 20 31 z) L Rf ∧ au2 I 20 31 z 20 31 = z := fun z => hR.fl (eqX.refl I) (eqX.refl L) (eM.rf _) (eL.rf L)
  refine s_L_withdraw hst (g1.1.1 0 _ rfl) g3.2.2 (fun Kr' Kx' hA hB1 hB2 => ?_)
  obtain ⟨m1, m2, m3, m4, m5, m6⟩ := mid (J := I) (fun _ _ _ _ => rfl) g1 g4 g7 g8
  refine s_X3_withdraw hst g1 (fun z => hB1 _ _ _ _ (hk 1 _ _ _ _ hm (fun Kr2 h2 => s_X4_withdraw hst g2 m2 hnc (fun _ => h2 0 _ _ (F 1).1 (F 1).2 (fun z => absurd z (by decide))) (fun i hi9 ex _ => absurd (in1 hi9 ex) z) (fun i hi9 ex _ I2 d1 d2 => absurd (in1 hi9 ex) z)))) (fun i hi9 ex z9 => hB2 _ _ _ _ (hk 2 _ _ _ _ hm (fun Kr2 h2 => s_X4_withdraw hst g2 m2 hnc (fun z => absurd (in1 hi9 ex) z) (fun i2 hi2 ex2 q9 => h2 0 _ _ (F 2).1 (F 2).2 (fun z => absurd z (by decide))) (fun i2 hi2 ex2 q9 I2 d1 d2 => ?_)))) (fun i hi9 ex z9 I' e1 e2 => ?_)
  · obtain rfl : i2 = i := nI_same (by omega) (by omega) ex2 ex
    rw [(g8 i2 hi2).eqs.2.2.2.2.2] at q9
    exact absurd z9 q9
  · have em : ∀ a b, 20 ≤ a → a ≤ 50 → I' a b = I a b := fun a b z1 z2 => e1 a b (by omega)
    have h21 : I' 20 21 = nI nc := (em _ _ (by decide) (by decide)).trans g4.2.1
    refine hA _ _ _ _ _ g3.2.2 (hk 0 _ _ _ _ (hm.x (fun b => e1 1 b (by omega))) (fun Kr2 h2 => s_X4_withdraw hst g2 h21 hnc (fun z => absurd (in1 hi9 ex) z) (fun i2 hi2 ex2 q9 => ?_) (fun i2 hi2 ex2 q9 I2 d1 d2 => ?_)))
    · obtain rfl : i2 = i := nI_same (by omega) (by omega) ex2 ex
      rw [em 50 _ (by decide) (by decide), (g8 i2 hi2).eqs.2.2.2.2.2] at q9
      exact absurd q9 z9
    · obtain rfl : i2 = i := nI_same (by omega) (by omega) ex2 ex
      have h01 : ∀ k, k < nc → I (100 + k) 8 = 0 ∨ I (100 + k) 8 = 1 := fun k hk => by
        obtain ⟨s, ln, d, -, -, -, -, -, -, -, -, -, h10⟩ := g8 k hk
        exact h10
      have hci : ∀ k, k < nc → (L (100 + k) 7).toBitVec.toNat < 2 ^ k := fun k hk => by
        obtain ⟨s, ln, d, -, -, -, -, -, -, -, h8, -⟩ := g8 k hk
        exact h8
      have W := falls_w (ci := fun k => L (100 + k) 7) (ci2 := fun k => au2 L 10 0 (bcnt (gnS (bitL (nI i2)) (fun k => L (100 + k) 7) (fun k => I (100 + k) 8) nc)).toInt64 49 k) (sd := fun k => I (100 + k) 8) (sd2 := fun k => I' 50 k) (i := i2) hnc hi2 z9 h01 (fun k hk => (em 50 k (by decide) (by decide)).trans (g8 k hk).eqs.2.2.2.2.2) (fun k hk => (au2_n (by omega)).trans (g8 k hk).eqs.2.2.2.2.1) hci (fun k hk hz j hj hb => g9 k hk hz j hj hb)
      refine h2 _ _ _ (re_falls (st := foM (fun k => au2 L 10 0 (bcnt (gnS (bitL (nI i2)) (fun k => L (100 + k) 7) (fun k => I (100 + k) 8) nc)).toInt64 49 k) (fun k => if k = i2 then 0 else I' 50 k) nc) g1 g2 g3 g4 g5 g6 g7 g8 g9 (fun a b z => (d1 a b (by omega)).trans ((au2_n (by omega)).trans (e1 a b (by omega)))) (fun p q _ _ _ h4 _ => au2_n (by omega)) (fun k hk => ((d1 _ _ (by omega)).trans (au2_n (by omega))).trans ((e2 k hk).trans (W.1 k hk))) (fun k hk => d2 k) (fun k hk => falls_01 _ _ hk) (fun k hk hz j hj hb => falls_cl _ _ hk hz j hj (by rw [au2_n (by omega)]; exact hb))) ((d1 _ _ (by decide)).trans (au2_s _ _ _ _)) (fun _ => (au2_s _ _ _ _).trans (congrArg Int32.toInt64 W.2))
set_option maxHeartbeats 4000000 in
set_option maxRecDepth 100000 in
theorem st_audit {l : Launch} {E : aE} {S : aS} {I : aI} {L : aL} {Rf : aR} {Kr : aK} {Kx : aX} (hst : l.stackTraces = false) {N : Nat} {xs : Nat → Int32} (hR : Rel N xs S I L Rf) (hk : ∀ (r : Int32) (I' : aI) (L' : aL), rlM N xs S I' → (∀ Kr2 : aK, (∀ (I2 : aI) (L2 : aL), Rel N xs S I2 L2 Rf → Kr2 (some (.int r)) S I2 L2 Rf) → aMet l E yX4_audit cX4_audit 4 (some .int) rmX4_audit [.ref 20] S I' L' Rf Kr2 aNoX) → Kr (some (.int r)) S I' L' Rf) : aMet l E yX3_audit cX3_audit 5 (some .int) rmX3_audit [.ref 3] S I L Rf Kr Kx := by
  have hR0 := hR
  obtain ⟨n, nc, sh, g1, g2, g3, g4, g5, g6, g7, g8, g9⟩ := hR0
  have hn : n ≤ 6 := g1.2.1
  have hnc : nc ≤ 40 := g1.2.2.1
  have hm : rlM N xs S I := ⟨g3, g2.1 0 _ rfl⟩
  refine s_X3_audit hst g1 (rel_hsi g7) (rel_hoo g7) (rel_hcf hn g8) (fun I' L' e1 f1 e2 => ?_)
  have em : ∀ a b, 20 ≤ a → a ≤ 50 → I' a b = I a b := fun a b z1 z2 => e1 a b (by omega) (by omega) (by omega) (by omega)
  obtain ⟨m1, m2, m3, m4, m5, m6⟩ := mid em g1 g4 g7 g8
  refine hk _ _ _ (hm.x (fun b => e1 1 b (by omega) (by omega) (by omega) (by omega))) (fun Kr2 h2 => s_X4_audit hst g2 m2 m3 m4 hn hnc m5 (fun I2 L2 d1 d2 d3 => ?_))
  have h01 : ∀ k, k < nc → I (100 + k) 8 = 0 ∨ I (100 + k) 8 = 1 := fun k hk => by
    obtain ⟨s, ln, d, -, -, -, -, -, -, -, -, -, h10⟩ := g8 k hk
    exact h10
  have hci : ∀ k, k < nc → (L (100 + k) 7).toBitVec.toNat < 2 ^ k := fun k hk => by
    obtain ⟨s, ln, d, -, -, -, -, -, -, -, h8, -⟩ := g8 k hk
    exact h8
  have fL : ∀ a b, a = 47 ∨ a = 49 → L' a b = L a b := fun a b z => f1 a b (by omega) (by omega) (by omega)
  have W := falls_a (ci := fun k => L (100 + k) 7) (ci2 := fun k => L' 49 k) (sd := fun k => I (100 + k) 8) (sd2 := fun k => I' 50 k) (hl := fun j => hlP I L (100 + j) (200 + 8 * scC I j) (min (dcC I j) (ooC I (scC I j)))) (hl2 := fun j => hlM I' L' (qI I) (vI I) (fI I) (ooC I) (scC I j) (dcC I j) j) hnc h01 (fun k hk => (em 50 k (by decide) (by decide)).trans (g8 k hk).eqs.2.2.2.2.2) (fun k hk => (fL 49 k (Or.inr rfl)).trans (g8 k hk).eqs.2.2.2.2.1) (fun k hk => rel_hl hn g7 g8 hk (fun a b z1 z2 z3 => em a b (by omega) (by omega)) (fun b => fL 47 b (Or.inl rfl))) hci (fun k hk hz j hj hb => g9 k hk hz j hj hb)
  rw [← W.2]
  refine h2 _ _ (re_falls (st := foM (fun k => L' 49 k) (auS (fun j => hlM I' L' (qI I) (vI I) (fI I) (ooC I) (scC I j) (dcC I j) j) (fun k => I' 50 k) nc) nc) g1 g2 g3 g4 g5 g6 g7 g8 g9 (fun a b z => (d1 a b (by omega) (by omega) (by omega)).trans ((au2_n (by omega)).trans (e1 a b (by omega) (by omega) (by omega) (by omega)))) (fun p q h1 h2 h3 h4 h5 => (d2 p q h5).trans (f1 p q h1 h2 h3)) (fun k hk => ((d1 _ _ (by omega) (by omega) (by omega)).trans (au2_n (by omega))).trans ((e2 k hk).trans (W.1 k hk))) (fun k hk => d3 k) (fun k hk => falls_01 _ _ hk) (fun k hk hz j hj hb => falls_cl _ _ hk hz j hj (by rw [fL 49 k (Or.inr rfl)]; exact hb)))
