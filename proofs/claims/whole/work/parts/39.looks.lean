/-! a call on both sides: the law asks the class first, then the reference -/
abbrev ssC (I : aI) : Nat → Nat := fun k => (I (200 + 8 * k) 3).toNatClampNeg
abbrev ffC (I : aI) : Nat → Nat → Nat := fun k i => (I (200 + 8 * k + 1) i).toNatClampNeg
abbrev ggC (I : aI) : Nat → Nat → Nat := fun k i => (I (200 + 8 * k + 2) i).toNatClampNeg
theorem rlS.hss {I : aI} {k : Nat} (h : rlS I k) : I (200 + 8 * k) 3 = nI (ssC I k) ∧ ssC I k ≤ 8 ∧ ∀ i, i < ssC I k → I (200 + 8 * k + 1) i = nI (ffC I k i) ∧ I (200 + 8 * k + 2) i = nI (ggC I k i) ∧ ffC I k i ≤ 99 ∧ 1 ≤ ggC I k i ∧ ggC I k i ≤ 99 := by
  obtain ⟨ss, la, sm, co, h1, h2, h3, h4, -⟩ := h
  have e := cl_of h3 (by omega)
  refine ⟨e.1, by show (I (200 + 8 * k) 3).toNatClampNeg ≤ 8; omega, fun i hi => ?_⟩
  have hi2 : i < (I (200 + 8 * k) 3).toNatClampNeg := hi
  obtain ⟨a, b, ea, eb, q⟩ := h4 i (by omega)
  have wa := cl_of ea (by omega)
  have wb := cl_of eb (by omega)
  exact ⟨wa.1, wb.1, by show (I (200 + 8 * k + 1) i).toNatClampNeg ≤ 99; omega, by show 1 ≤ (I (200 + 8 * k + 2) i).toNatClampNeg; omega, by show (I (200 + 8 * k + 2) i).toNatClampNeg ≤ 99; omega⟩
theorem rlS.cr {I : aI} {k : Nat} (h : rlS I k) : crS (fun i => I (200 + 8 * k + 1) i) (fun i => I (200 + 8 * k + 2) i) (ssC I k) = I 26 k := by
  obtain ⟨ss, la, sm, co, h1, h2, h3, h4, h5, h6, -⟩ := h
  have e := cl_of h3 (by omega)
  have e6 : I 26 k = I (200 + 8 * k) 5 := h6 1 (by decide)
  rw [e6, h5]
  show crS _ _ (I (200 + 8 * k) 3).toNatClampNeg = _
  rw [e.2]
theorem rlS.tn {I : aI} {k : Nat} {y w v : Int32} (h : rlS I k) (hy : rgN y 1 12) (hw : rgN w 0 3) : rgS I (200 + 8 * k) y w v = tnI I k y w v := by
  obtain ⟨ss, la, sm, co, h1, h2, h3, h4, h5, h6, h7, h8, h9, h10, h11, h12⟩ := h
  obtain ⟨a, -, a2, rfl⟩ := hy
  obtain ⟨b, -, b2, rfl⟩ := hw
  have e2 : I 27 k = I (200 + 8 * k) 6 := h6 2 (by decide)
  have e3 : I 28 k = I (200 + 8 * k) 7 := h6 3 (by decide)
  have e4 : I 29 k = I (200 + 8 * k) 8 := h6 4 (by decide)
  have e5 : I 30 k = I (200 + 8 * k) 9 := h6 5 (by decide)
  rw [tnI, rgS, e2, e3, e4, e5, h7, h9, h11, tn_rg h8 h10 h12 a2 b2]
theorem rlM.x {N : Nat} {xs : Nat → Int32} {S : aS} {I J : aI} (h : rlM N xs S I) (e : ∀ b, J 1 b = I 1 b) : rlM N xs S J := ⟨h.1.c rfl rfl e, h.2⟩
theorem mid {S : aS} {R : aR} {I J : aI} {L : aL} {n nc : Nat} (e : ∀ a b, 20 ≤ a → a ≤ 50 → J a b = I a b) (g1 : lyC S R I n nc) (g4 : rlG I n nc) (g7 : ∀ k, k < n → rlS I k ∧ rlL I k) (g8 : ∀ i, i < nc → rlC I L n i) : J 20 4 = nI n ∧ J 20 21 = nI nc ∧ tbM J ∧ okM J n (qI I) (vI I) (fI I) (ooC I) ∧ clM J n nc (scC I) (dcC I) (lnC I) ∧ J 20 14 = I 3 4 :=
  ⟨(e _ _ (by decide) (by decide)).trans g4.1, (e _ _ (by decide) (by decide)).trans g4.2.1, g4.2.2.1.y (fun b => e _ _ (by decide) (by decide)), (rel_okM g4 g7).x (fun a b z => e a b (by omega) (by omega)), (rel_clM g1.2.1 g8).x (fun a b z1 z2 => e a b (by omega) (by omega)), (e _ _ (by decide) (by decide)).trans g4.2.2.2.1⟩
theorem fin_i {N : Nat} {xs : Nat → Int32} {S : aS} {I I1 I2 : aI} {L L1 L2 : aL} {R : aR} {r b : Int32} {Kr2 : aK} (hR : Rel N xs S I L R) (h2 : ∀ (b : Int32) (I2 : aI) (L2 : aL), Rel N xs S I2 L2 R → I2 20 31 = 0 → ((0 : Int32) = 0 → L2 10 0 = b.toInt64) → Kr2 (some (.int b)) S I2 L2 R) (a9 : eqX I1 I) (b9 : eqX L1 L) (c9 : eM I2 (au2 I1 20 31 0)) (d9 : eL L2 (au2 L1 10 0 r.toInt64)) (e9 : r = b) : Kr2 (some (.int b)) S I2 L2 R :=
  have q := hR.rd a9 b9 c9 d9
  h2 _ _ _ q.1 q.2.1 (fun _ => q.2.2.trans (congrArg Int32.toInt64 e9))
theorem fin_z {N : Nat} {xs : Nat → Int32} {S : aS} {I I1 I2 : aI} {L L1 L2 : aL} {R : aR} {r b : Int32} {Kr2 : aK} (hR : Rel N xs S I L R) (h2 : ∀ (b : Int32) (I2 : aI) (L2 : aL), Rel N xs S I2 L2 R → I2 20 31 = 0 → ((0 : Int32) = 0 → L2 10 0 = (if b = 0 then 0 else 1)) → Kr2 (some (.int b)) S I2 L2 R) (a9 : eqX I1 I) (b9 : eqX L1 L) (c9 : eM I2 (au2 I1 20 31 0)) (d9 : eL L2 (au2 L1 10 0 (if r = 0 then 0 else 1))) (e9 : r = b) : Kr2 (some (.int b)) S I2 L2 R :=
  have q := hR.rd a9 b9 c9 d9
  h2 _ _ _ q.1 q.2.1 (fun _ => q.2.2.trans (congrArg (fun q : Int32 => if q = 0 then (0 : Int64) else 1) e9))
theorem fin_l {N : Nat} {xs : Nat → Int32} {S : aS} {I I1 I2 : aI} {L L1 L2 : aL} {R : aR} {r b : Int64} {Kr2 : aK} (hR : Rel N xs S I L R) (h2 : ∀ (b : Int64) (I2 : aI) (L2 : aL), Rel N xs S I2 L2 R → I2 20 31 = 0 → ((0 : Int32) = 0 → L2 10 0 = b) → Kr2 (some (.long b)) S I2 L2 R) (a9 : eqX I1 I) (b9 : eqX L1 L) (c9 : eM I2 (au2 I1 20 31 0)) (d9 : eL L2 (au2 L1 10 0 r)) (e9 : r = b) : Kr2 (some (.long b)) S I2 L2 R :=
  have q := hR.rd a9 b9 c9 d9
  h2 _ _ _ q.1 q.2.1 (fun _ => q.2.2.trans e9)
theorem nar01 {y : Int32} (h : y = 0 ∨ y = 1) : narrow .boolean (.int y) = .int y := by
  rcases h with rfl | rfl <;> rfl
theorem in1 {x : Int32} {n k : Nat} (h : k < n) (e : x = nI k) : inN x n := ⟨k, h, e⟩
theorem nI_same {x : Int32} {a b : Nat} (ha : a < 2 ^ 31) (hb : b < 2 ^ 31) (e : x = nI a) (f : x = nI b) : a = b := nI_inj ha hb (e.symm.trans f)
set_option maxHeartbeats 4000000 in
set_option maxRecDepth 100000 in
theorem st_crossingAnew {l : Launch} {E : aE} {S : aS} {I : aI} {L : aL} {Rf : aR} {Kr : aK} (hst : l.stackTraces = false) {N : Nat} {xs : Nat → Int32} {x : Int32}  (hR : Rel N xs S I L Rf) (hk : ∀ (c : Int32) (S' : aS) (I' : aI) (L' : aL) (R' : aR), rlM N xs S' I' → (∀ Kr2 : aK, (∀ (b : Int32) (I2 : aI) (L2 : aL), Rel N xs S' I2 L2 R' → I2 20 31 = c → (c = 0 → L2 10 0 = b.toInt64) → Kr2 (some (.int b)) S' I2 L2 R') → aMet l E yX4_crossingAnew cX4_crossingAnew 2 (some .int) rmX4_crossingAnew [.ref 20, .int x] S' I' L' R' Kr2 aNoX) → Kr (some (.int c)) S' I' L' R') : aMetW l E yL_crossingAnew cL_crossingAnew 4 (some .int) [(0, 9, 12, 25)] rmL_crossingAnew [.ref 3, .int x, .ref 10] S I L Rf Kr := by
  have hR0 := hR
  obtain ⟨n, nc, sh, g1, g2, g3, g4, g5, g6, g7, g8, g9⟩ := hR0
  have hn : n ≤ 6 := g1.2.1
  have hnc : nc ≤ 40 := g1.2.2.1
  have hm : rlM N xs S I := ⟨g3, g2.1 0 _ rfl⟩
  have F : ∀ z : Int32, Rel N xs S (au2 I 20 31 z) L Rf ∧ au2 I 20 31 z 20 31 = z := fun z => hR.fl (eqX.refl I) (eqX.refl L) (eM.rf _) (eL.rf L)
  refine s_L_crossingAnew hst (g1.1.1 0 _ rfl) g3.2.2 (fun Kr' Kx' hA hB1 => ?_)
  refine s_X3_crossingAnew hst (ss := ssC I) (ff := ffC I) (gg := ggC I) g1 (fun k hk => (g7 k hk).1.hss) (fun z => hB1 _ _ _ _ (hk 1 _ _ _ _ hm (fun Kr2 h2 => s_X4_crossingAnew hst g2 g4.1 hn (fun _ => h2 0 _ _ (F 1).1 (F 1).2 (fun z => absurd z (by decide))) (fun k hk9 ex => absurd (in1 hk9 ex) z)))) (fun k hk9 ex => hA _ _ _ _ _ g3.2.2 (hk 0 _ _ _ _ hm (fun Kr2 h2 => s_X4_crossingAnew hst g2 g4.1 hn (fun z => absurd (in1 hk9 ex) z) (fun k2 hk2 ex2 => ?_))))
  obtain rfl : k2 = k := nI_same (by omega) (by omega) ex2 ex
  exact fin_i hR h2 (eqX.refl I) (eqX.refl L) (eM.rf _) (eL.rf _) ((g7 k2 hk2).1.cr)
set_option maxHeartbeats 4000000 in
set_option maxRecDepth 100000 in
theorem st_ofStar {l : Launch} {E : aE} {S : aS} {I : aI} {L : aL} {Rf : aR} {Kr : aK} (hst : l.stackTraces = false) {N : Nat} {xs : Nat → Int32} {x y : Int32}  (hR : Rel N xs S I L Rf) (hk : ∀ (c : Int32) (S' : aS) (I' : aI) (L' : aL) (R' : aR), rlM N xs S' I' → (∀ Kr2 : aK, (∀ (b : Int32) (I2 : aI) (L2 : aL), Rel N xs S' I2 L2 R' → I2 20 31 = c → (c = 0 → L2 10 0 = b.toInt64) → Kr2 (some (.int b)) S' I2 L2 R') → aMet l E yX4_ofStar cX4_ofStar 3 (some .int) rmX4_ofStar [.ref 20, .int x, .int y] S' I' L' R' Kr2 aNoX) → Kr (some (.int c)) S' I' L' R') : aMetW l E yL_ofStar cL_ofStar 5 (some .int) [(0, 10, 13, 25), (0, 10, 17, 13)] rmL_ofStar [.ref 3, .int x, .int y, .ref 10] S I L Rf Kr := by
  have hR0 := hR
  obtain ⟨n, nc, sh, g1, g2, g3, g4, g5, g6, g7, g8, g9⟩ := hR0
  have hn : n ≤ 6 := g1.2.1
  have hnc : nc ≤ 40 := g1.2.2.1
  have hm : rlM N xs S I := ⟨g3, g2.1 0 _ rfl⟩
  have F : ∀ z : Int32, Rel N xs S (au2 I 20 31 z) L Rf ∧ au2 I 20 31 z 20 31 = z := fun z => hR.fl (eqX.refl I) (eqX.refl L) (eM.rf _) (eL.rf L)
  refine s_L_ofStar hst (g1.1.1 0 _ rfl) g3.2.2 (fun Kr' Kx' hA hB1 hB2 => ?_)
  refine s_X3_ofStar hst g1 (fun z => hB1 _ _ _ _ (hk 1 _ _ _ _ hm (fun Kr2 h2 => s_X4_ofStar hst g2 g4.1 hn (fun _ => h2 0 _ _ (F 1).1 (F 1).2 (fun z => absurd z (by decide))) (fun a _ => absurd a z) (fun k j hk9 hj9 ex ey => absurd (in1 hk9 ex) z)))) (fun a z => hB2 _ _ _ _ (hk 2 _ _ _ _ hm (fun Kr2 h2 => s_X4_ofStar hst g2 g4.1 hn (fun y9 => absurd a y9) (fun _ _ => h2 0 _ _ (F 2).1 (F 2).2 (fun z => absurd z (by decide))) (fun k j hk9 hj9 ex ey => absurd (in1 hj9 ey) z)))) (fun k j hk9 hj9 ex ey => hA _ _ _ _ _ g3.2.2 (hk 0 _ _ _ _ hm (fun Kr2 h2 => s_X4_ofStar hst g2 g4.1 hn (fun z => absurd (in1 hk9 ex) z) (fun _ z => absurd (in1 hj9 ey) z) (fun k2 j2 hk2 hj2 ex2 ey2 => ?_))))
  obtain rfl : k2 = k := nI_same (by omega) (by omega) ex2 ex
  obtain rfl : j2 = j := nI_same (by omega) (by omega) ey2 ey
  exact fin_i hR h2 (eqX.refl I) (eqX.refl L) (eM.rf _) (eL.rf _) ((((g7 k2 hk2).1.choose_spec.choose_spec.choose_spec.choose_spec.2.2.2.2.2.1 j2 hj2).symm.trans (au2_n (by omega)).symm))
set_option maxHeartbeats 4000000 in
set_option maxRecDepth 100000 in
theorem st_tone {l : Launch} {E : aE} {S : aS} {I : aI} {L : aL} {Rf : aR} {Kr : aK} (hst : l.stackTraces = false) {N : Nat} {xs : Nat → Int32} {x y w v : Int32}  (hR : Rel N xs S I L Rf) (hk : ∀ (c : Int32) (S' : aS) (I' : aI) (L' : aL) (R' : aR), rlM N xs S' I' → (∀ Kr2 : aK, (∀ (b : Int32) (I2 : aI) (L2 : aL), Rel N xs S' I2 L2 R' → I2 20 31 = c → (c = 0 → L2 10 0 = b.toInt64) → Kr2 (some (.int b)) S' I2 L2 R') → aMet l E yX4_tone cX4_tone 6 (some .int) rmX4_tone [.ref 20, .int x, .int y, .int w, .int v] S' I' L' R' Kr2 aNoX) → Kr (some (.int c)) S' I' L' R') : aMetW l E yL_tone cL_tone 7 (some .int) [(0, 14, 17, 25), (0, 14, 21, 13)] rmL_tone [.ref 3, .int x, .int y, .int w, .int v, .ref 10] S I L Rf Kr := by
  have hR0 := hR
  obtain ⟨n, nc, sh, g1, g2, g3, g4, g5, g6, g7, g8, g9⟩ := hR0
  have hn : n ≤ 6 := g1.2.1
  have hnc : nc ≤ 40 := g1.2.2.1
  have hm : rlM N xs S I := ⟨g3, g2.1 0 _ rfl⟩
  have F : ∀ z : Int32, Rel N xs S (au2 I 20 31 z) L Rf ∧ au2 I 20 31 z 20 31 = z := fun z => hR.fl (eqX.refl I) (eqX.refl L) (eM.rf _) (eL.rf L)
  refine s_L_tone hst (g1.1.1 0 _ rfl) g3.2.2 (fun Kr' Kx' hA hB1 hB2 => ?_)
  refine s_X3_tone hst g1 (fun z => hB1 _ _ _ _ (hk 1 _ _ _ _ hm (fun Kr2 h2 => s_X4_tone hst g2 g4.1 hn (fun _ => h2 0 _ _ (F 1).1 (F 1).2 (fun z => absurd z (by decide))) (fun a _ => absurd a z) (fun k hk9 ex _ => absurd (in1 hk9 ex) z)))) (fun a z => hB2 _ _ _ _ (hk 2 _ _ _ _ hm (fun Kr2 h2 => s_X4_tone hst g2 g4.1 hn (fun y9 => absurd a y9) (fun _ _ => h2 0 _ _ (F 2).1 (F 2).2 (fun z => absurd z (by decide))) (fun k hk9 ex p9 => absurd p9 z)))) (fun k hk9 ex p9 => hA _ _ _ _ _ g3.2.2 (hk 0 _ _ _ _ hm (fun Kr2 h2 => s_X4_tone hst g2 g4.1 hn (fun z => absurd (in1 hk9 ex) z) (fun _ z => absurd p9 z) (fun k2 hk2 ex2 _ => ?_))))
  obtain rfl : k2 = k := nI_same (by omega) (by omega) ex2 ex
  exact fin_i hR h2 (eqX.refl I) (eqX.refl L) (eM.rf _) (eL.rf _) (((g7 k2 hk2).1.tn p9.1 p9.2.1))
set_option maxHeartbeats 4000000 in
set_option maxRecDepth 100000 in
theorem st_frames {l : Launch} {E : aE} {S : aS} {I : aI} {L : aL} {Rf : aR} {Kr : aK} (hst : l.stackTraces = false) {N : Nat} {xs : Nat → Int32} {x : Int32}  (hR : Rel N xs S I L Rf) (hk : ∀ (c : Int32) (S' : aS) (I' : aI) (L' : aL) (R' : aR), rlM N xs S' I' → (∀ Kr2 : aK, (∀ (b : Int32) (I2 : aI) (L2 : aL), Rel N xs S' I2 L2 R' → I2 20 31 = c → (c = 0 → L2 10 0 = b.toInt64) → Kr2 (some (.int b)) S' I2 L2 R') → aMet l E yX4_frames cX4_frames 2 (some .int) rmX4_frames [.ref 20, .int x] S' I' L' R' Kr2 aNoX) → Kr (some (.int c)) S' I' L' R') : aMetW l E yL_frames cL_frames 4 (some .int) [(0, 9, 12, 25)] rmL_frames [.ref 3, .int x, .ref 10] S I L Rf Kr := by
  have hR0 := hR
  obtain ⟨n, nc, sh, g1, g2, g3, g4, g5, g6, g7, g8, g9⟩ := hR0
  have hn : n ≤ 6 := g1.2.1
  have hnc : nc ≤ 40 := g1.2.2.1
  have hm : rlM N xs S I := ⟨g3, g2.1 0 _ rfl⟩
  have F : ∀ z : Int32, Rel N xs S (au2 I 20 31 z) L Rf ∧ au2 I 20 31 z 20 31 = z := fun z => hR.fl (eqX.refl I) (eqX.refl L) (eM.rf _) (eL.rf L)
  refine s_L_frames hst (g1.1.1 0 _ rfl) g3.2.2 (fun Kr' Kx' hA hB1 => ?_)
  obtain ⟨m1, m2, m3, m4, m5, m6⟩ := mid (J := I) (fun _ _ _ _ => rfl) g1 g4 g7 g8
  refine s_X3_frames hst g1 (rel_hsi g7) (fun z => hB1 _ _ _ _ (hk 1 _ _ _ _ hm (fun Kr2 h2 => s_X4_frames hst g2 m1 hn m4 (fun _ => h2 0 _ _ (F 1).1 (F 1).2 (fun z => absurd z (by decide))) (fun k hk9 ex I2 L2 c1 d1 => absurd (in1 hk9 ex) z)))) (fun k hk9 ex I' L' e1 f1 => ?_)
  have em : ∀ a b, 20 ≤ a → a ≤ 50 → I' a b = I a b := fun a b z1 z2 => e1 a b (by omega) (by omega) (by omega)
  obtain ⟨m1, m2, m3, m4, m5, m6⟩ := mid em g1 g4 g7 g8
  have hm1 : rlM N xs S I' := hm.x (fun b => e1 1 b (by decide) (by decide) (by decide))
  refine hA _ _ _ _ _ g3.2.2 (hk 0 _ _ _ _ hm1 (fun Kr2 h2 => s_X4_frames hst g2 m1 hn m4 (fun z => absurd (in1 hk9 ex) z) (fun k2 hk2 ex2 I2 L2 c1 d1 => ?_)))
  obtain rfl : k2 = k := nI_same (by omega) (by omega) ex2 ex
  exact fin_i hR h2 e1 f1 c1 d1 (rfl)
set_option maxHeartbeats 4000000 in
set_option maxRecDepth 100000 in
theorem st_value {l : Launch} {E : aE} {S : aS} {I : aI} {L : aL} {Rf : aR} {Kr : aK} (hst : l.stackTraces = false) {N : Nat} {xs : Nat → Int32} {x y w : Int32}  (hR : Rel N xs S I L Rf) (hk : ∀ (c : Int32) (S' : aS) (I' : aI) (L' : aL) (R' : aR), rlM N xs S' I' → (∀ Kr2 : aK, (∀ (b : Int32) (I2 : aI) (L2 : aL), Rel N xs S' I2 L2 R' → I2 20 31 = c → (c = 0 → L2 10 0 = b.toInt64) → Kr2 (some (.int b)) S' I2 L2 R') → aMet l E yX4_value cX4_value 5 (some .int) rmX4_value [.ref 20, .int x, .int y, .int w] S' I' L' R' Kr2 aNoX) → Kr (some (.int c)) S' I' L' R') : aMetW l E yL_value cL_value 6 (some .int) [(0, 12, 15, 25), (0, 12, 19, 13)] rmL_value [.ref 3, .int x, .int y, .int w, .ref 10] S I L Rf Kr := by
  have hR0 := hR
  obtain ⟨n, nc, sh, g1, g2, g3, g4, g5, g6, g7, g8, g9⟩ := hR0
  have hn : n ≤ 6 := g1.2.1
  have hnc : nc ≤ 40 := g1.2.2.1
  have hm : rlM N xs S I := ⟨g3, g2.1 0 _ rfl⟩
  have F : ∀ z : Int32, Rel N xs S (au2 I 20 31 z) L Rf ∧ au2 I 20 31 z 20 31 = z := fun z => hR.fl (eqX.refl I) (eqX.refl L) (eM.rf _) (eL.rf L)
  refine s_L_value hst (g1.1.1 0 _ rfl) g3.2.2 (fun Kr' Kx' hA hB1 hB2 => ?_)
  obtain ⟨m1, m2, m3, m4, m5, m6⟩ := mid (J := I) (fun _ _ _ _ => rfl) g1 g4 g7 g8
  refine s_X3_value hst g1 (rel_hsi g7) (rel_hoo g7) (fun z => hB1 _ _ _ _ (hk 1 _ _ _ _ hm (fun Kr2 h2 => s_X4_value hst g2 m1 hn m3 m4 (fun _ => h2 0 _ _ (F 1).1 (F 1).2 (fun z => absurd z (by decide))) (fun a _ => absurd a z) (fun k j t hk9 hj9 ht9 ex ey ew I2 L2 c1 d1 => absurd ⟨in1 hk9 ex, in1 hj9 ey⟩ z)))) (fun a z => hB2 _ _ _ _ (hk 2 _ _ _ _ hm (fun Kr2 h2 => s_X4_value hst g2 m1 hn m3 m4 (fun y9 => absurd a y9) (fun _ _ => h2 0 _ _ (F 2).1 (F 2).2 (fun z => absurd z (by decide))) (fun k j t hk9 hj9 ht9 ex ey ew I2 L2 c1 d1 => absurd (in1 ht9 ew) z)))) (fun k j t hk9 hj9 ht9 ex ey ew I' L' e1 f1 => ?_)
  have em : ∀ a b, 20 ≤ a → a ≤ 50 → I' a b = I a b := fun a b z1 z2 => e1 a b (by omega) (by omega) (by omega)
  obtain ⟨m1, m2, m3, m4, m5, m6⟩ := mid em g1 g4 g7 g8
  have hm1 : rlM N xs S I' := hm.x (fun b => e1 1 b (by decide) (by decide) (by decide))
  refine hA _ _ _ _ _ g3.2.2 (hk 0 _ _ _ _ hm1 (fun Kr2 h2 => s_X4_value hst g2 m1 hn m3 m4 (fun z => absurd ⟨in1 hk9 ex, in1 hj9 ey⟩ z) (fun _ z => absurd (in1 ht9 ew) z) (fun k2 j2 t2 hk2 hj2 ht2 ex2 ey2 ew2 I2 L2 c1 d1 => ?_)))
  obtain rfl : k2 = k := nI_same (by omega) (by omega) ex2 ex
  obtain rfl : j2 = j := nI_same (by omega) (by omega) ey2 ey
  obtain rfl : t2 = t := nI_same (by omega) (by omega) ew2 ew
  exact fin_i hR h2 e1 f1 c1 d1 (rfl)
set_option maxHeartbeats 4000000 in
set_option maxRecDepth 100000 in
theorem st_power {l : Launch} {E : aE} {S : aS} {I : aI} {L : aL} {Rf : aR} {Kr : aK} (hst : l.stackTraces = false) {N : Nat} {xs : Nat → Int32} {x y w : Int32}  (hR : Rel N xs S I L Rf) (hk : ∀ (c : Int32) (S' : aS) (I' : aI) (L' : aL) (R' : aR), rlM N xs S' I' → (∀ Kr2 : aK, (∀ (b : Int64) (I2 : aI) (L2 : aL), Rel N xs S' I2 L2 R' → I2 20 31 = c → (c = 0 → L2 10 0 = b) → Kr2 (some (.long b)) S' I2 L2 R') → aMet l E yX4_power cX4_power 5 (some .long) rmX4_power [.ref 20, .int x, .int y, .int w] S' I' L' R' Kr2 aNoX) → Kr (some (.int c)) S' I' L' R') : aMetW l E yL_power cL_power 6 (some .int) [(0, 11, 14, 25), (0, 11, 18, 13)] rmL_power [.ref 3, .int x, .int y, .int w, .ref 10] S I L Rf Kr := by
  have hR0 := hR
  obtain ⟨n, nc, sh, g1, g2, g3, g4, g5, g6, g7, g8, g9⟩ := hR0
  have hn : n ≤ 6 := g1.2.1
  have hnc : nc ≤ 40 := g1.2.2.1
  have hm : rlM N xs S I := ⟨g3, g2.1 0 _ rfl⟩
  have F : ∀ z : Int32, Rel N xs S (au2 I 20 31 z) L Rf ∧ au2 I 20 31 z 20 31 = z := fun z => hR.fl (eqX.refl I) (eqX.refl L) (eM.rf _) (eL.rf L)
  refine s_L_power hst (g1.1.1 0 _ rfl) g3.2.2 (fun Kr' Kx' hA hB1 hB2 => ?_)
  obtain ⟨m1, m2, m3, m4, m5, m6⟩ := mid (J := I) (fun _ _ _ _ => rfl) g1 g4 g7 g8
  refine s_X3_power hst g1 (rel_hsi g7) (rel_hoo g7) (fun z => hB1 _ _ _ _ (hk 1 _ _ _ _ hm (fun Kr2 h2 => s_X4_power hst g2 m1 hn m3 m4 (fun _ => h2 0 _ _ (F 1).1 (F 1).2 (fun z => absurd z (by decide))) (fun a _ => absurd a z) (fun k j t hk9 hj9 ht9 ex ey ew I2 L2 c1 d1 => absurd ⟨in1 hk9 ex, in1 hj9 ey⟩ z)))) (fun a z => hB2 _ _ _ _ (hk 2 _ _ _ _ hm (fun Kr2 h2 => s_X4_power hst g2 m1 hn m3 m4 (fun y9 => absurd a y9) (fun _ _ => h2 0 _ _ (F 2).1 (F 2).2 (fun z => absurd z (by decide))) (fun k j t hk9 hj9 ht9 ex ey ew I2 L2 c1 d1 => absurd (in1 ht9 ew) z)))) (fun k j t hk9 hj9 ht9 ex ey ew I' L' e1 f1 => ?_)
  have em : ∀ a b, 20 ≤ a → a ≤ 50 → I' a b = I a b := fun a b z1 z2 => e1 a b (by omega) (by omega) (by omega)
  obtain ⟨m1, m2, m3, m4, m5, m6⟩ := mid em g1 g4 g7 g8
  have hm1 : rlM N xs S I' := hm.x (fun b => e1 1 b (by decide) (by decide) (by decide))
  refine hA _ _ _ _ _ g3.2.2 (hk 0 _ _ _ _ hm1 (fun Kr2 h2 => s_X4_power hst g2 m1 hn m3 m4 (fun z => absurd ⟨in1 hk9 ex, in1 hj9 ey⟩ z) (fun _ z => absurd (in1 ht9 ew) z) (fun k2 j2 t2 hk2 hj2 ht2 ex2 ey2 ew2 I2 L2 c1 d1 => ?_)))
  obtain rfl : k2 = k := nI_same (by omega) (by omega) ex2 ex
  obtain rfl : j2 = j := nI_same (by omega) (by omega) ey2 ey
  obtain rfl : t2 = t := nI_same (by omega) (by omega) ew2 ew
  exact fin_l hR h2 e1 f1 c1 d1 (rfl)
set_option maxHeartbeats 4000000 in
set_option maxRecDepth 100000 in
theorem st_window {l : Launch} {E : aE} {S : aS} {I : aI} {L : aL} {Rf : aR} {Kr : aK} (hst : l.stackTraces = false) {N : Nat} {xs : Nat → Int32} {x w : Int32}  (hR : Rel N xs S I L Rf) (hk : ∀ (c : Int32) (S' : aS) (I' : aI) (L' : aL) (R' : aR), rlM N xs S' I' → (∀ Kr2 : aK, (∀ (b : Int64) (I2 : aI) (L2 : aL), Rel N xs S' I2 L2 R' → I2 20 31 = c → (c = 0 → L2 10 0 = b) → Kr2 (some (.long b)) S' I2 L2 R') → aMet l E yX4_window cX4_window 3 (some .long) rmX4_window [.ref 20, .int x, .int w] S' I' L' R' Kr2 aNoX) → Kr (some (.int c)) S' I' L' R') : aMetW l E yL_window cL_window 5 (some .int) [(0, 9, 12, 25), (0, 9, 16, 13)] rmL_window [.ref 3, .int x, .int w, .ref 10] S I L Rf Kr := by
  have hR0 := hR
  obtain ⟨n, nc, sh, g1, g2, g3, g4, g5, g6, g7, g8, g9⟩ := hR0
  have hn : n ≤ 6 := g1.2.1
  have hnc : nc ≤ 40 := g1.2.2.1
  have hm : rlM N xs S I := ⟨g3, g2.1 0 _ rfl⟩
  have F : ∀ z : Int32, Rel N xs S (au2 I 20 31 z) L Rf ∧ au2 I 20 31 z 20 31 = z := fun z => hR.fl (eqX.refl I) (eqX.refl L) (eM.rf _) (eL.rf L)
  refine s_L_window hst (g1.1.1 0 _ rfl) g3.2.2 (fun Kr' Kx' hA hB1 hB2 => ?_)
  obtain ⟨m1, m2, m3, m4, m5, m6⟩ := mid (J := I) (fun _ _ _ _ => rfl) g1 g4 g7 g8
  refine s_X3_window hst g1 (rel_hsi g7) (fun z => hB1 _ _ _ _ (hk 1 _ _ _ _ hm (fun Kr2 h2 => s_X4_window hst g2 m1 hn m3 m4 (fun _ => h2 0 _ _ (F 1).1 (F 1).2 (fun z => absurd z (by decide))) (fun a _ => absurd a z) (fun k t hk9 ht9 ex ew I2 L2 c1 d1 => absurd (in1 hk9 ex) z)))) (fun a z => hB2 _ _ _ _ (hk 2 _ _ _ _ hm (fun Kr2 h2 => s_X4_window hst g2 m1 hn m3 m4 (fun y9 => absurd a y9) (fun _ _ => h2 0 _ _ (F 2).1 (F 2).2 (fun z => absurd z (by decide))) (fun k t hk9 ht9 ex ew I2 L2 c1 d1 => absurd (in1 ht9 ew) z)))) (fun k t hk9 ht9 ex ew I' L' e1 f1 => ?_)
  have em : ∀ a b, 20 ≤ a → a ≤ 50 → I' a b = I a b := fun a b z1 z2 => e1 a b (by omega) (by omega) (by omega)
  obtain ⟨m1, m2, m3, m4, m5, m6⟩ := mid em g1 g4 g7 g8
  have hm1 : rlM N xs S I' := hm.x (fun b => e1 1 b (by decide) (by decide) (by decide))
  refine hA _ _ _ _ _ g3.2.2 (hk 0 _ _ _ _ hm1 (fun Kr2 h2 => s_X4_window hst g2 m1 hn m3 m4 (fun z => absurd (in1 hk9 ex) z) (fun _ z => absurd (in1 ht9 ew) z) (fun k2 t2 hk2 ht2 ex2 ew2 I2 L2 c1 d1 => ?_)))
  obtain rfl : k2 = k := nI_same (by omega) (by omega) ex2 ex
  obtain rfl : t2 = t := nI_same (by omega) (by omega) ew2 ew
  exact fin_l hR h2 e1 f1 c1 d1 (rfl)
set_option maxHeartbeats 4000000 in
set_option maxRecDepth 100000 in
theorem st_isPeak {l : Launch} {E : aE} {S : aS} {I : aI} {L : aL} {Rf : aR} {Kr : aK} (hst : l.stackTraces = false) {N : Nat} {xs : Nat → Int32} {x y w : Int32}  (hR : Rel N xs S I L Rf) (hk : ∀ (c : Int32) (S' : aS) (I' : aI) (L' : aL) (R' : aR), rlM N xs S' I' → (∀ Kr2 : aK, (∀ (b : Int32) (I2 : aI) (L2 : aL), Rel N xs S' I2 L2 R' → I2 20 31 = c → (c = 0 → L2 10 0 = (if b = 0 then 0 else 1)) → Kr2 (some (.int b)) S' I2 L2 R') → aMet l E yX4_isPeak cX4_isPeak 4 (some .boolean) rmX4_isPeak [.ref 20, .int x, .int y, .int w] S' I' L' R' Kr2 aNoX) → Kr (some (.int c)) S' I' L' R') : aMetW l E yL_isPeak cL_isPeak 6 (some .int) [(0, 19, 22, 25)] rmL_isPeak [.ref 3, .int x, .int y, .int w, .ref 10] S I L Rf Kr := by
  have hR0 := hR
  obtain ⟨n, nc, sh, g1, g2, g3, g4, g5, g6, g7, g8, g9⟩ := hR0
  have hn : n ≤ 6 := g1.2.1
  have hnc : nc ≤ 40 := g1.2.2.1
  have hm : rlM N xs S I := ⟨g3, g2.1 0 _ rfl⟩
  have F : ∀ z : Int32, Rel N xs S (au2 I 20 31 z) L Rf ∧ au2 I 20 31 z 20 31 = z := fun z => hR.fl (eqX.refl I) (eqX.refl L) (eM.rf _) (eL.rf L)
  refine s_L_isPeak hst (g1.1.1 0 _ rfl) g3.2.2 (fun Kr' Kx' hA hB1 => ?_)
  obtain ⟨m1, m2, m3, m4, m5, m6⟩ := mid (J := I) (fun _ _ _ _ => rfl) g1 g4 g7 g8
  refine s_X3_isPeak hst g1 (rel_hsi g7) (rel_hoo g7) (fun z => hB1 _ _ _ _ (hk 1 _ _ _ _ hm (fun Kr2 h2 => s_X4_isPeak hst g2 m1 hn m3 m4 (fun _ => h2 0 _ _ (F 1).1 (F 1).2 (fun z => absurd z (by decide))) (fun k j hk9 hj9 ex ey _ I2 L2 c1 d1 => absurd ⟨in1 hk9 ex, in1 hj9 ey⟩ z) (fun k j hk9 hj9 ex ey _ I2 L2 c1 d1 => absurd ⟨in1 hk9 ex, in1 hj9 ey⟩ z)))) (fun k j hk9 hj9 ex ey r hr I' L' e1 f1 => ?_)
  have em : ∀ a b, 20 ≤ a → a ≤ 50 → I' a b = I a b := fun a b z1 z2 => e1 a b (by omega) (by omega) (by omega)
  obtain ⟨m1, m2, m3, m4, m5, m6⟩ := mid em g1 g4 g7 g8
  have hm1 : rlM N xs S I' := hm.x (fun b => e1 1 b (by decide) (by decide) (by decide))
  rcases hr with ⟨rfl, r1, r2⟩ | ⟨rfl, r2⟩
  · refine hA _ _ _ _ _ g3.2.2 (hk 0 _ _ _ _ hm1 (fun Kr2 h2 => s_X4_isPeak hst g2 m1 hn m3 m4 (fun z => absurd ⟨in1 hk9 ex, in1 hj9 ey⟩ z) (fun k2 j2 hk2 hj2 ex2 ey2 p9 I2 L2 c1 d1 => ?_) (fun k2 j2 hk2 hj2 ex2 ey2 p9 I2 L2 c1 d1 => ?_)))
    · exact fin_z hR h2 e1 f1 c1 d1 (rfl)
    · obtain rfl : k2 = k := nI_same (by omega) (by omega) ex2 ex
      obtain rfl : j2 = j := nI_same (by omega) (by omega) ey2 ey
      rw [m6] at p9
      exact absurd ⟨r1, r2⟩ p9
  · refine hA _ _ _ _ _ g3.2.2 (hk 0 _ _ _ _ hm1 (fun Kr2 h2 => s_X4_isPeak hst g2 m1 hn m3 m4 (fun z => absurd ⟨in1 hk9 ex, in1 hj9 ey⟩ z) (fun k2 j2 hk2 hj2 ex2 ey2 p9 I2 L2 c1 d1 => ?_) (fun k2 j2 hk2 hj2 ex2 ey2 p9 I2 L2 c1 d1 => ?_)))
    · obtain rfl : k2 = k := nI_same (by omega) (by omega) ex2 ex
      obtain rfl : j2 = j := nI_same (by omega) (by omega) ey2 ey
      rw [m6] at p9
      exact absurd p9 r2
    · exact fin_z hR h2 e1 f1 c1 d1 (rfl)
set_option maxHeartbeats 4000000 in
set_option maxRecDepth 100000 in
theorem st_isSeenThrough {l : Launch} {E : aE} {S : aS} {I : aI} {L : aL} {Rf : aR} {Kr : aK} (hst : l.stackTraces = false) {N : Nat} {xs : Nat → Int32} {x y w v : Int32}  (hR : Rel N xs S I L Rf) (hk : ∀ (c : Int32) (S' : aS) (I' : aI) (L' : aL) (R' : aR), rlM N xs S' I' → (∀ Kr2 : aK, (∀ (b : Int32) (I2 : aI) (L2 : aL), Rel N xs S' I2 L2 R' → I2 20 31 = c → (c = 0 → L2 10 0 = (if b = 0 then 0 else 1)) → Kr2 (some (.int b)) S' I2 L2 R') → aMet l E yX4_isSeenThrough cX4_isSeenThrough 7 (some .boolean) rmX4_isSeenThrough [.ref 20, .int x, .int y, .int w, .int v] S' I' L' R' Kr2 aNoX) → Kr (some (.int c)) S' I' L' R') : aMetW l E yL_isSeenThrough cL_isSeenThrough 7 (some .int) [(0, 21, 24, 25), (0, 21, 28, 13)] rmL_isSeenThrough [.ref 3, .int x, .int y, .int w, .int v, .ref 10] S I L Rf Kr := by
  have hR0 := hR
  obtain ⟨n, nc, sh, g1, g2, g3, g4, g5, g6, g7, g8, g9⟩ := hR0
  have hn : n ≤ 6 := g1.2.1
  have hnc : nc ≤ 40 := g1.2.2.1
  have hm : rlM N xs S I := ⟨g3, g2.1 0 _ rfl⟩
  have F : ∀ z : Int32, Rel N xs S (au2 I 20 31 z) L Rf ∧ au2 I 20 31 z 20 31 = z := fun z => hR.fl (eqX.refl I) (eqX.refl L) (eM.rf _) (eL.rf L)
  refine s_L_isSeenThrough hst (g1.1.1 0 _ rfl) g3.2.2 (fun Kr' Kx' hA hB1 hB2 => ?_)
  obtain ⟨m1, m2, m3, m4, m5, m6⟩ := mid (J := I) (fun _ _ _ _ => rfl) g1 g4 g7 g8
  refine s_X3_isSeenThrough hst g1 (rel_hsi g7) (rel_hoo g7) (fun z => hB1 _ _ _ _ (hk 1 _ _ _ _ hm (fun Kr2 h2 => s_X4_isSeenThrough hst g2 m1 hn m3 m4 (fun _ => h2 0 _ _ (F 1).1 (F 1).2 (fun z => absurd z (by decide))) (fun a _ => absurd a z) (fun k j t u hk9 hj9 ht9 hu9 ex ey ew ev hne _ I2 L2 c1 d1 => absurd ⟨in1 hk9 ex, in1 hj9 ey⟩ z) (fun k j t u hk9 hj9 ht9 hu9 ex ey ew ev hne _ I2 L2 c1 d1 => absurd ⟨in1 hk9 ex, in1 hj9 ey⟩ z)))) (fun a z => hB2 _ _ _ _ (hk 2 _ _ _ _ hm (fun Kr2 h2 => s_X4_isSeenThrough hst g2 m1 hn m3 m4 (fun y9 => absurd a y9) (fun _ _ => h2 0 _ _ (F 2).1 (F 2).2 (fun z => absurd z (by decide))) (fun k j t u hk9 hj9 ht9 hu9 ex ey ew ev hne _ I2 L2 c1 d1 => absurd ⟨in1 ht9 ew, in1 hu9 ev, fun q => hne (nI_inj (by omega) (by omega) (ew.symm.trans (q.trans ev)))⟩ z) (fun k j t u hk9 hj9 ht9 hu9 ex ey ew ev hne _ I2 L2 c1 d1 => absurd ⟨in1 ht9 ew, in1 hu9 ev, fun q => hne (nI_inj (by omega) (by omega) (ew.symm.trans (q.trans ev)))⟩ z)))) (fun k j t u hk9 hj9 ht9 hu9 ex ey ew ev hne r hr I' L' e1 f1 => ?_)
  have em : ∀ a b, 20 ≤ a → a ≤ 50 → I' a b = I a b := fun a b z1 z2 => e1 a b (by omega) (by omega) (by omega)
  obtain ⟨m1, m2, m3, m4, m5, m6⟩ := mid em g1 g4 g7 g8
  have hm1 : rlM N xs S I' := hm.x (fun b => e1 1 b (by decide) (by decide) (by decide))
  rcases hr with ⟨rfl, r2⟩ | ⟨rfl, r2⟩
  · refine hA _ _ _ _ _ g3.2.2 (hk 0 _ _ _ _ hm1 (fun Kr2 h2 => s_X4_isSeenThrough hst g2 m1 hn m3 m4 (fun z => absurd ⟨in1 hk9 ex, in1 hj9 ey⟩ z) (fun _ z => absurd ⟨in1 ht9 ew, in1 hu9 ev, fun q => hne (nI_inj (by omega) (by omega) (ew.symm.trans (q.trans ev)))⟩ z) (fun k2 j2 t2 u2 hk2 hj2 ht2 hu2 ex2 ey2 ew2 ev2 hne2 p9 I2 L2 c1 d1 => ?_) (fun k2 j2 t2 u2 hk2 hj2 ht2 hu2 ex2 ey2 ew2 ev2 hne2 p9 I2 L2 c1 d1 => ?_)))
    · exact fin_z hR h2 e1 f1 c1 d1 (rfl)
    · obtain rfl : k2 = k := nI_same (by omega) (by omega) ex2 ex
      obtain rfl : j2 = j := nI_same (by omega) (by omega) ey2 ey
      obtain rfl : t2 = t := nI_same (by omega) (by omega) ew2 ew
      obtain rfl : u2 = u := nI_same (by omega) (by omega) ev2 ev
      exact absurd r2 p9
  · refine hA _ _ _ _ _ g3.2.2 (hk 0 _ _ _ _ hm1 (fun Kr2 h2 => s_X4_isSeenThrough hst g2 m1 hn m3 m4 (fun z => absurd ⟨in1 hk9 ex, in1 hj9 ey⟩ z) (fun _ z => absurd ⟨in1 ht9 ew, in1 hu9 ev, fun q => hne (nI_inj (by omega) (by omega) (ew.symm.trans (q.trans ev)))⟩ z) (fun k2 j2 t2 u2 hk2 hj2 ht2 hu2 ex2 ey2 ew2 ev2 hne2 p9 I2 L2 c1 d1 => ?_) (fun k2 j2 t2 u2 hk2 hj2 ht2 hu2 ex2 ey2 ew2 ev2 hne2 p9 I2 L2 c1 d1 => ?_)))
    · obtain rfl : k2 = k := nI_same (by omega) (by omega) ex2 ex
      obtain rfl : j2 = j := nI_same (by omega) (by omega) ey2 ey
      obtain rfl : t2 = t := nI_same (by omega) (by omega) ew2 ew
      obtain rfl : u2 = u := nI_same (by omega) (by omega) ev2 ev
      exact absurd p9 r2
    · exact fin_z hR h2 e1 f1 c1 d1 (rfl)
set_option maxHeartbeats 4000000 in
set_option maxRecDepth 100000 in
theorem st_isSound {l : Launch} {E : aE} {S : aS} {I : aI} {L : aL} {Rf : aR} {Kr : aK} (hst : l.stackTraces = false) {N : Nat} {xs : Nat → Int32} {x : Int32}  (hR : Rel N xs S I L Rf) (hk : ∀ (c : Int32) (S' : aS) (I' : aI) (L' : aL) (R' : aR), rlM N xs S' I' → (∀ Kr2 : aK, (∀ (b : Int32) (I2 : aI) (L2 : aL), Rel N xs S' I2 L2 R' → I2 20 31 = c → (c = 0 → L2 10 0 = (if b = 0 then 0 else 1)) → Kr2 (some (.int b)) S' I2 L2 R') → aMet l E yX4_isSound cX4_isSound 2 (some .boolean) rmX4_isSound [.ref 20, .int x] S' I' L' R' Kr2 aNoX) → Kr (some (.int c)) S' I' L' R') : aMetW l E yL_isSound cL_isSound 4 (some .int) [(0, 16, 19, 25)] rmL_isSound [.ref 3, .int x, .ref 10] S I L Rf Kr := by
  have hR0 := hR
  obtain ⟨n, nc, sh, g1, g2, g3, g4, g5, g6, g7, g8, g9⟩ := hR0
  have hn : n ≤ 6 := g1.2.1
  have hnc : nc ≤ 40 := g1.2.2.1
  have hm : rlM N xs S I := ⟨g3, g2.1 0 _ rfl⟩
  have F : ∀ z : Int32, Rel N xs S (au2 I 20 31 z) L Rf ∧ au2 I 20 31 z 20 31 = z := fun z => hR.fl (eqX.refl I) (eqX.refl L) (eM.rf _) (eL.rf L)
  refine s_L_isSound hst (g1.1.1 0 _ rfl) g3.2.2 (fun Kr' Kx' hA hB1 => ?_)
  obtain ⟨m1, m2, m3, m4, m5, m6⟩ := mid (J := I) (fun _ _ _ _ => rfl) g1 g4 g7 g8
  refine s_X3_isSound hst g1 (rel_hsi g7) (rel_hoo g7) (rel_hcf hn g8) (fun z => hB1 _ _ _ _ (hk 1 _ _ _ _ hm (fun Kr2 h2 => s_X4_isSound hst g2 m2 m3 m4 hn hnc m5 (fun _ => h2 0 _ _ (F 1).1 (F 1).2 (fun z => absurd z (by decide))) (fun i hi9 ex I2 L2 c1 d1 => absurd (in1 hi9 ex) z)))) (fun i hi9 ex I' L' e1 f1 => ?_)
  have em : ∀ a b, 20 ≤ a → a ≤ 50 → I' a b = I a b := fun a b z1 z2 => e1 a b (by omega) (by omega) (by omega)
  obtain ⟨m1, m2, m3, m4, m5, m6⟩ := mid em g1 g4 g7 g8
  have hm1 : rlM N xs S I' := hm.x (fun b => e1 1 b (by decide) (by decide) (by decide))
  refine hA _ _ _ _ _ g3.2.2 (hk 0 _ _ _ _ hm1 (fun Kr2 h2 => s_X4_isSound hst g2 m2 m3 m4 hn hnc m5 (fun z => absurd (in1 hi9 ex) z) (fun i2 hi2 ex2 I2 L2 c1 d1 => ?_)))
  obtain rfl : i2 = i := nI_same (by omega) (by omega) ex2 ex
  exact fin_z hR h2 e1 f1 c1 d1 ((zI_c (rel_hl hn g7 g8 hi2 (fun a b z1 z2 z3 => em a b (by omega) (by omega)) (fun b => (au2_n (by omega)).trans (f1 47 b (by decide) (by decide) (by decide)))).symm))
set_option maxHeartbeats 4000000 in
set_option maxRecDepth 100000 in
theorem st_ofClaim {l : Launch} {E : aE} {S : aS} {I : aI} {L : aL} {Rf : aR} {Kr : aK} (hst : l.stackTraces = false) {N : Nat} {xs : Nat → Int32} {x y : Int32}  (hR : Rel N xs S I L Rf) (hk : ∀ (c : Int32) (S' : aS) (I' : aI) (L' : aL) (R' : aR), rlM N xs S' I' → (∀ Kr2 : aK, (∀ (b : Int32) (I2 : aI) (L2 : aL), Rel N xs S' I2 L2 R' → I2 20 31 = c → (c = 0 → L2 10 0 = b.toInt64) → Kr2 (some (.int b)) S' I2 L2 R') → aMet l E yX4_ofClaim cX4_ofClaim 3 (some .int) rmX4_ofClaim [.ref 20, .int x, .int y] S' I' L' R' Kr2 aNoX) → Kr (some (.int c)) S' I' L' R') : aMetW l E yL_ofClaim cL_ofClaim 5 (some .int) [(0, 10, 13, 25), (0, 10, 17, 13)] rmL_ofClaim [.ref 3, .int x, .int y, .ref 10] S I L Rf Kr := by
  have hR0 := hR
  obtain ⟨n, nc, sh, g1, g2, g3, g4, g5, g6, g7, g8, g9⟩ := hR0
  have hn : n ≤ 6 := g1.2.1
  have hnc : nc ≤ 40 := g1.2.2.1
  have hm : rlM N xs S I := ⟨g3, g2.1 0 _ rfl⟩
  have F : ∀ z : Int32, Rel N xs S (au2 I 20 31 z) L Rf ∧ au2 I 20 31 z 20 31 = z := fun z => hR.fl (eqX.refl I) (eqX.refl L) (eM.rf _) (eL.rf L)
  refine s_L_ofClaim hst (g1.1.1 0 _ rfl) g3.2.2 (fun Kr' Kx' hA hB1 hB2 => ?_)
  refine s_X3_ofClaim hst g1 (fun z => hB1 _ _ _ _ (hk 1 _ _ _ _ hm (fun Kr2 h2 => s_X4_ofClaim hst g2 g4.2.1 hnc (fun _ => h2 0 _ _ (F 1).1 (F 1).2 (fun z => absurd z (by decide))) (fun a _ => absurd a z) (fun i hi9 ex _ => absurd (in1 hi9 ex) z) (fun i hi9 ex _ => absurd (in1 hi9 ex) z) (fun i hi9 ex _ => absurd (in1 hi9 ex) z) (fun i hi9 ex _ => absurd (in1 hi9 ex) z) (fun i hi9 ex _ => absurd (in1 hi9 ex) z) (fun i hi9 ex _ _ => absurd (in1 hi9 ex) z) (fun i hi9 ex _ _ => absurd (in1 hi9 ex) z)))) (fun a z => hB2 _ _ _ _ (hk 2 _ _ _ _ hm (fun Kr2 h2 => s_X4_ofClaim hst g2 g4.2.1 hnc (fun y9 => absurd a y9) (fun _ _ => h2 0 _ _ (F 2).1 (F 2).2 (fun z => absurd z (by decide))) (fun i hi9 ex ey => absurd (in1 (k := 0) (by decide) ey) z) (fun i hi9 ex ey => absurd (in1 (k := 1) (by decide) ey) z) (fun i hi9 ex ey => absurd (in1 (k := 2) (by decide) ey) z) (fun i hi9 ex ey => absurd (in1 (k := 3) (by decide) ey) z) (fun i hi9 ex ey => absurd (in1 (k := 5) (by decide) ey) z) (fun i hi9 ex ey _ => absurd (in1 (k := 4) (by decide) ey) z) (fun i hi9 ex ey _ => absurd (in1 (k := 4) (by decide) ey) z)))) (fun i hi9 ex ey => ?_) (fun i hi9 ex ey => ?_) (fun i hi9 ex ey => ?_) (fun i hi9 ex ey => ?_) (fun i hi9 ex ey => ?_) (fun i hi9 ex ey r hr => ?_)
  · refine hA _ _ _ _ _ g3.2.2 (hk 0 _ _ _ _ hm (fun Kr2 h2 => s_X4_ofClaim hst g2 g4.2.1 hnc (fun z => absurd (in1 hi9 ex) z) (fun _ z => absurd (in1 (k := 0) (by decide) ey) z) (fun i2 hi2 ex2 ey2 => ?_) (fun i2 hi2 ex2 ey2 => absurd (ey.symm.trans ey2) (by decide)) (fun i2 hi2 ex2 ey2 => absurd (ey.symm.trans ey2) (by decide)) (fun i2 hi2 ex2 ey2 => absurd (ey.symm.trans ey2) (by decide)) (fun i2 hi2 ex2 ey2 => absurd (ey.symm.trans ey2) (by decide)) (fun i2 hi2 ex2 ey2 _ => absurd (ey.symm.trans ey2) (by decide)) (fun i2 hi2 ex2 ey2 _ => absurd (ey.symm.trans ey2) (by decide))))
    obtain rfl : i2 = i := nI_same (by omega) (by omega) ex2 ex
    obtain ⟨s, ln, d, h1, h2c, h3, h4, h5, h6, h7, h8, h9, h10⟩ := g8 i2 hi2
    exact fin_i hR h2 (eqX.refl I) (eqX.refl L) (eM.rf _) (eL.rf _) ((h4.symm))
  · refine hA _ _ _ _ _ g3.2.2 (hk 0 _ _ _ _ hm (fun Kr2 h2 => s_X4_ofClaim hst g2 g4.2.1 hnc (fun z => absurd (in1 hi9 ex) z) (fun _ z => absurd (in1 (k := 1) (by decide) ey) z) (fun i2 hi2 ex2 ey2 => absurd (ey.symm.trans ey2) (by decide)) (fun i2 hi2 ex2 ey2 => ?_) (fun i2 hi2 ex2 ey2 => absurd (ey.symm.trans ey2) (by decide)) (fun i2 hi2 ex2 ey2 => absurd (ey.symm.trans ey2) (by decide)) (fun i2 hi2 ex2 ey2 => absurd (ey.symm.trans ey2) (by decide)) (fun i2 hi2 ex2 ey2 _ => absurd (ey.symm.trans ey2) (by decide)) (fun i2 hi2 ex2 ey2 _ => absurd (ey.symm.trans ey2) (by decide))))
    obtain rfl : i2 = i := nI_same (by omega) (by omega) ex2 ex
    obtain ⟨s, ln, d, h1, h2c, h3, h4, h5, h6, h7, h8, h9, h10⟩ := g8 i2 hi2
    exact fin_i hR h2 (eqX.refl I) (eqX.refl L) (eM.rf _) (eL.rf _) ((h2c.1.trans h2c.2.1.symm))
  · refine hA _ _ _ _ _ g3.2.2 (hk 0 _ _ _ _ hm (fun Kr2 h2 => s_X4_ofClaim hst g2 g4.2.1 hnc (fun z => absurd (in1 hi9 ex) z) (fun _ z => absurd (in1 (k := 2) (by decide) ey) z) (fun i2 hi2 ex2 ey2 => absurd (ey.symm.trans ey2) (by decide)) (fun i2 hi2 ex2 ey2 => absurd (ey.symm.trans ey2) (by decide)) (fun i2 hi2 ex2 ey2 => ?_) (fun i2 hi2 ex2 ey2 => absurd (ey.symm.trans ey2) (by decide)) (fun i2 hi2 ex2 ey2 => absurd (ey.symm.trans ey2) (by decide)) (fun i2 hi2 ex2 ey2 _ => absurd (ey.symm.trans ey2) (by decide)) (fun i2 hi2 ex2 ey2 _ => absurd (ey.symm.trans ey2) (by decide))))
    obtain rfl : i2 = i := nI_same (by omega) (by omega) ex2 ex
    obtain ⟨s, ln, d, h1, h2c, h3, h4, h5, h6, h7, h8, h9, h10⟩ := g8 i2 hi2
    exact fin_i hR h2 (eqX.refl I) (eqX.refl L) (eM.rf _) (eL.rf _) ((h2c.2.2.1.trans h2c.2.2.2.1.symm))
  · refine hA _ _ _ _ _ g3.2.2 (hk 0 _ _ _ _ hm (fun Kr2 h2 => s_X4_ofClaim hst g2 g4.2.1 hnc (fun z => absurd (in1 hi9 ex) z) (fun _ z => absurd (in1 (k := 3) (by decide) ey) z) (fun i2 hi2 ex2 ey2 => absurd (ey.symm.trans ey2) (by decide)) (fun i2 hi2 ex2 ey2 => absurd (ey.symm.trans ey2) (by decide)) (fun i2 hi2 ex2 ey2 => absurd (ey.symm.trans ey2) (by decide)) (fun i2 hi2 ex2 ey2 => ?_) (fun i2 hi2 ex2 ey2 => absurd (ey.symm.trans ey2) (by decide)) (fun i2 hi2 ex2 ey2 _ => absurd (ey.symm.trans ey2) (by decide)) (fun i2 hi2 ex2 ey2 _ => absurd (ey.symm.trans ey2) (by decide))))
    obtain rfl : i2 = i := nI_same (by omega) (by omega) ex2 ex
    obtain ⟨s, ln, d, h1, h2c, h3, h4, h5, h6, h7, h8, h9, h10⟩ := g8 i2 hi2
    exact fin_i hR h2 (eqX.refl I) (eqX.refl L) (eM.rf _) (eL.rf _) ((h6.symm))
  · refine hA _ _ _ _ _ g3.2.2 (hk 0 _ _ _ _ hm (fun Kr2 h2 => s_X4_ofClaim hst g2 g4.2.1 hnc (fun z => absurd (in1 hi9 ex) z) (fun _ z => absurd (in1 (k := 5) (by decide) ey) z) (fun i2 hi2 ex2 ey2 => absurd (ey.symm.trans ey2) (by decide)) (fun i2 hi2 ex2 ey2 => absurd (ey.symm.trans ey2) (by decide)) (fun i2 hi2 ex2 ey2 => absurd (ey.symm.trans ey2) (by decide)) (fun i2 hi2 ex2 ey2 => absurd (ey.symm.trans ey2) (by decide)) (fun i2 hi2 ex2 ey2 => ?_) (fun i2 hi2 ex2 ey2 _ => absurd (ey.symm.trans ey2) (by decide)) (fun i2 hi2 ex2 ey2 _ => absurd (ey.symm.trans ey2) (by decide))))
    obtain rfl : i2 = i := nI_same (by omega) (by omega) ex2 ex
    obtain ⟨s, ln, d, h1, h2c, h3, h4, h5, h6, h7, h8, h9, h10⟩ := g8 i2 hi2
    exact fin_i hR h2 (eqX.refl I) (eqX.refl L) (eM.rf _) (eL.rf _) (((bc_ct hnc (Nat.lt_trans h8 (Nat.pow_lt_pow_right (by decide) hi2))).trans (by rw [au2_n (by omega), h7])))
  · refine hA _ _ _ _ _ g3.2.2 (hk 0 _ _ _ _ hm (fun Kr2 h2 => s_X4_ofClaim hst g2 g4.2.1 hnc (fun z => absurd (in1 hi9 ex) z) (fun _ z => absurd (in1 (k := 4) (by decide) ey) z) (fun i2 hi2 ex2 ey2 => absurd (ey.symm.trans ey2) (by decide)) (fun i2 hi2 ex2 ey2 => absurd (ey.symm.trans ey2) (by decide)) (fun i2 hi2 ex2 ey2 => absurd (ey.symm.trans ey2) (by decide)) (fun i2 hi2 ex2 ey2 => absurd (ey.symm.trans ey2) (by decide)) (fun i2 hi2 ex2 ey2 => absurd (ey.symm.trans ey2) (by decide)) (fun i2 hi2 ex2 ey2 q9 => ?_) (fun i2 hi2 ex2 ey2 q9 => ?_)))
    · obtain rfl : i2 = i := nI_same (by omega) (by omega) ex2 ex
      obtain ⟨s, ln, d, h1, h2c, h3, h4, h5, h6, h7, h8, h9, h10⟩ := g8 i2 hi2
      rcases hr with ⟨rfl, r2⟩ | ⟨rfl, r2⟩
      · exact fin_i hR h2 (eqX.refl I) (eqX.refl L) (eM.rf _) (eL.rf _) (rfl)
      · exact absurd (h9.symm.trans q9) r2
    · obtain rfl : i2 = i := nI_same (by omega) (by omega) ex2 ex
      obtain ⟨s, ln, d, h1, h2c, h3, h4, h5, h6, h7, h8, h9, h10⟩ := g8 i2 hi2
      rcases hr with ⟨rfl, r2⟩ | ⟨rfl, r2⟩
      · exact absurd (h9.trans r2) q9
      · exact fin_i hR h2 (eqX.refl I) (eqX.refl L) (eM.rf _) (eL.rf _) (rfl)
