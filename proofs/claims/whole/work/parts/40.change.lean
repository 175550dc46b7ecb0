/-! calls that change: both sides -/
set_option maxHeartbeats 4000000 in
set_option maxRecDepth 100000 in
theorem st_shell {l : Launch} {E : aE} {S : aS} {I : aI} {L : aL} {Rf : aR} {Kr : aK} (hst : l.stackTraces = false) {N : Nat} {xs : Nat → Int32} {x y w : Int32}  (hR : Rel N xs S I L Rf) (hk : ∀ (c : Int32) (S' : aS) (I' : aI) (L' : aL) (R' : aR), rlM N xs S' I' → (∀ Kr2 : aK, (∀ (b : Int32) (I2 : aI) (L2 : aL), Rel N xs S' I2 L2 R' → I2 20 31 = c → (c = 0 → L2 10 0 = b.toInt64) → Kr2 (some (.int b)) S' I2 L2 R') → aMet l E yX4_shell cX4_shell 5 (some .int) rmX4_shell [.ref 20, .int x, .int y, .int w] S' I' L' R' Kr2 aNoX) → Kr (some (.int c)) S' I' L' R') : aMetW l E yL_shell cL_shell 6 (some .int) [(0, 12, 15, 13), (0, 12, 19, 15)] rmL_shell [.ref 3, .int x, .int y, .int w, .ref 10] S I L Rf Kr := by
  have hR0 := hR
  obtain ⟨n, nc, sh, g1, g2, g3, g4, g5, g6, g7, g8, g9⟩ := hR0
  have hn : n ≤ 6 := g1.2.1
  have hnc : nc ≤ 40 := g1.2.2.1
  have hm : rlM N xs S I := ⟨g3, g2.1 0 _ rfl⟩
  have F : ∀ z : Int32, Rel N xs S (au2 I 20 31 z) L Rf ∧ au2 I 20 31 z 20 31 = z := fun z => hR.fl (eqX.refl I) (eqX.refl L) (eM.rf _) (eL.rf L)
  refine s_L_shell hst (g1.1.1 0 _ rfl) g3.2.2 (fun Kr' Kx' hA hB1 hB2 => ?_)
  refine s_X3_shell hst g1 g5.2.1 g5.1 (fun z => hB1 _ _ _ _ (hk 1 _ _ _ _ hm (fun Kr2 h2 => s_X4_shell hst g2 g5.2.2.1 g5.1 (fun _ => h2 0 _ _ (F 1).1 (F 1).2 (fun z => absurd z (by decide))) (fun a _ => absurd a z) (fun a _ => absurd a z)))) (fun a q => hB2 _ _ _ _ (hk 2 _ _ _ _ hm (fun Kr2 h2 => s_X4_shell hst g2 g5.2.2.1 g5.1 (fun z => absurd a z) (fun _ _ => h2 0 _ _ (F 2).1 (F 2).2 (fun z => absurd z (by decide))) (fun _ z => absurd q (by omega))))) (fun x1 y1 z1 b1 b2 b3 b4 b5 ex ey ew hs => hA _ _ _ _ _ g3.2.2 (hk 0 _ _ _ _ (hm.x (fun b => by rw [au2_n (by omega), au2_n (by omega), au2_n (by omega), au2_n (by omega)])) (fun Kr2 h2 => s_X4_shell hst g2 (sh := sh) (by rw [au2_n (by omega), au2_n (by omega), au2_n (by omega), au2_n (by omega)]; exact g5.2.2.1) g5.1 (fun z => absurd ⟨⟨x1, b1, b2, ex⟩, ⟨y1, b3, b4, ey⟩, ⟨z1, Nat.zero_le _, b5, ew⟩⟩ z) (fun _ q => absurd q (by omega)) (fun _ _ => ?_))))
  exact h2 _ _ _ (re_shell (a := x1) (b := y1) (c := z1) g1 g2 g3 g4 g5 g6 g7 g8 g9 (fun a b z => by rw [au2_n (by omega), au2_n (by omega), au2_n (by omega), au2_n (by omega), au2_n (by omega), au2_n (by omega), au2_n (by omega), au2_n (by omega), au2_n (by omega)]) (fun p q _ _ _ h4 _ => au2_n (by omega)) hs ⟨b1, b2, b3, b4, b5⟩ (by rw [au2_n (by omega), au2_n (by omega), au2_n (by omega), au2_n (by omega), au2_n (by omega), au2_s]) (au2_s _ _ _ _) ⟨(by rw [au2_n (by omega), au2_n (by omega), au2_n (by omega), au2_n (by omega), au2_n (by omega), au2_n (by omega), au2_n (by omega), au2_n (by omega), au2_s]), (by rw [au2_n (by omega), au2_n (by omega), au2_n (by omega), au2_n (by omega), au2_n (by omega), au2_n (by omega), au2_n (by omega), au2_s]), (by rw [au2_n (by omega), au2_n (by omega), au2_n (by omega), au2_n (by omega), au2_n (by omega), au2_n (by omega), au2_s])⟩ ⟨(by rw [au2_n (by omega), au2_n (by omega), au2_n (by omega), au2_s]; exact ex), (by rw [au2_n (by omega), au2_n (by omega), au2_s]; exact ey), (by rw [au2_n (by omega), au2_s]; exact ew)⟩) (by rw [au2_n (by omega), au2_n (by omega), au2_n (by omega), au2_n (by omega), au2_s]) (fun _ => au2_s _ _ _ _)
theorem star_cl {I : aI} {n sh : Nat} (h : rlB I n sh) : (∀ i, i < sh → ¬ I (200 + 8 * n + 2) i ≤ 0) ∧ (0 < sh → ¬ crS (fun i => I (200 + 8 * n + 1) i) (fun i => I (200 + 8 * n + 2) i) sh ≤ 0) ∧ (0 < sh → ¬ wtS (fun i => I (200 + 8 * n + 1) i) sh ≤ 0) := by
  obtain ⟨h1, h2, h3, h4⟩ := h
  refine ⟨fun i hi => ?_, fun h0 => ?_, fun h0 => ?_⟩
  · obtain ⟨x, y, z, w, w2, -⟩ := h4 i hi
    rw [w.2.1]; exact nI_nle (by omega) (by omega)
  · obtain ⟨C, c1, c2, c3⟩ := crS_N (f := fun i => I (200 + 8 * n + 1) i) (g := fun i => I (200 + 8 * n + 2) i) sh h1 (fun i hi => by
      obtain ⟨x, y, z, w, w2, -⟩ := h4 i hi
      exact ⟨x, y, w.1, w.2.1, w2.1, w2.2.1, w2.2.2.1, w2.2.2.2.1⟩)
    rw [c1]; exact nI_nle (by omega) (by omega)
  · obtain ⟨C, c1, c2, c3⟩ := wtS_N (f := fun i => I (200 + 8 * n + 1) i) sh h1 (fun i hi => by
      obtain ⟨x, y, z, w, w2, -⟩ := h4 i hi
      exact ⟨x, w.1, w2.1, w2.2.1⟩)
    rw [c1]; exact nI_nle (by omega) (by omega)
theorem star_ref {I J : aI} {n sh : Nat} (h : rlB I n sh) (e : ∀ a b, 20 ≤ a → a ≤ 50 → J a b = I a b) : J 20 0 = nI sh ∧ (∀ i, i < sh → J 21 i = nI ((J 21 i).toNatClampNeg) ∧ J 22 i = nI ((J 22 i).toNatClampNeg) ∧ 1 ≤ (J 22 i).toNatClampNeg ∧ (J 22 i).toNatClampNeg ≤ 99 ∧ J 23 i = nI ((J 23 i).toNatClampNeg)) ∧ crS (fun i => J 21 i) (fun i => J 22 i) sh = crS (fun i => I (200 + 8 * n + 1) i) (fun i => I (200 + 8 * n + 2) i) sh ∧ wtS (fun i => J 21 i) sh = wtS (fun i => I (200 + 8 * n + 1) i) sh ∧ spS (fun i => J 21 i) (fun i => J 23 i) sh = spS (fun i => I (200 + 8 * n + 1) i) (fun i => I (200 + 8 * n + 3) i) sh ∧ slS (fun i => J 22 i) sh = slS (fun i => I (200 + 8 * n + 2) i) sh ∧ (0 < sh → J 22 0 = I (200 + 8 * n + 2) 0) := by
  obtain ⟨h1, h2, h3, h4⟩ := h
  have k : ∀ i, i < sh → J 21 i = I (200 + 8 * n + 1) i ∧ J 22 i = I (200 + 8 * n + 2) i ∧ J 23 i = I (200 + 8 * n + 3) i := fun i hi => by
    obtain ⟨x, y, z, w, w2, u1, u2, u3⟩ := h4 i hi
    exact ⟨(e _ _ (by decide) (by decide)).trans (u1.trans w.1.symm), (e _ _ (by decide) (by decide)).trans (u2.trans w.2.1.symm), (e _ _ (by decide) (by decide)).trans (u3.trans w.2.2.symm)⟩
  refine ⟨(e _ _ (by decide) (by decide)).trans h3, fun i hi => ?_, crS_c sh (fun i hi => ⟨(k i hi).1, (k i hi).2.1⟩), wtS_c sh (fun i hi => (k i hi).1), spS_c sh (fun i hi => ⟨(k i hi).1, (k i hi).2.2⟩), slS_c sh (fun i hi => (k i hi).2.1), fun h0 => (k 0 h0).2.1⟩
  obtain ⟨x, y, z, w, w2, u1, u2, u3⟩ := h4 i hi
  have a1 := cl_of ((e 21 i (by decide) (by decide)).trans u1) (by omega)
  have a2 := cl_of ((e 22 i (by decide) (by decide)).trans u2) (by omega)
  have a3 := cl_of ((e 23 i (by decide) (by decide)).trans u3) (by omega)
  exact ⟨a1.1, a2.1, by omega, by omega, a3.1⟩
set_option maxHeartbeats 4000000 in
set_option maxRecDepth 100000 in
theorem st_star {l : Launch} {E : aE} {S : aS} {I : aI} {L : aL} {Rf : aR} {Kr : aK} (hst : l.stackTraces = false) {N : Nat} {xs : Nat → Int32} {x : Int32}  (hR : Rel N xs S I L Rf) (hk : ∀ (c : Int32) (S' : aS) (I' : aI) (L' : aL) (R' : aR), rlM N xs S' I' → (∀ Kr2 : aK, (∀ (b : Int32) (I2 : aI) (L2 : aL), Rel N xs S' I2 L2 R' → I2 20 31 = c → (c = 0 → L2 10 0 = b.toInt64) → Kr2 (some (.int b)) S' I2 L2 R') → aMet l E yX4_star cX4_star 7 (some .int) rmX4_star [.ref 20, .int x] S' I' L' R' Kr2 aNoX) → Kr (some (.int c)) S' I' L' R') : aMetW l E yL_star cL_star 4 (some .int) [(0, 9, 12, 13), (0, 9, 15, 15)] rmL_star [.ref 3, .int x, .ref 10] S I L Rf Kr := by
  have hR0 := hR
  obtain ⟨n, nc, sh, g1, g2, g3, g4, g5, g6, g7, g8, g9⟩ := hR0
  have hn : n ≤ 6 := g1.2.1
  have hnc : nc ≤ 40 := g1.2.2.1
  have hm : rlM N xs S I := ⟨g3, g2.1 0 _ rfl⟩
  have F : ∀ z : Int32, Rel N xs S (au2 I 20 31 z) L Rf ∧ au2 I 20 31 z 20 31 = z := fun z => hR.fl (eqX.refl I) (eqX.refl L) (eM.rf _) (eL.rf L)
  refine s_L_star hst (g1.1.1 0 _ rfl) g3.2.2 (fun Kr' Kx' hA hB1 hB2 => ?_)
  obtain ⟨s1, s2, s3⟩ := star_cl g5
  obtain ⟨q0, qs, qcr, qwt, qsp, qsl, qz⟩ := star_ref (J := I) g5 (fun _ _ _ _ => rfl)
  have qc : 0 < sh → ¬ crS (fun i => I 21 i) (fun i => I 22 i) sh ≤ 0 := fun z => by rw [qcr]; exact s2 z
  have qw : 0 < sh → ¬ wtS (fun i => I 21 i) sh ≤ 0 := fun z => by rw [qwt]; exact s3 z
  refine s_X3_star hst g1 g5.2.1 g5.1 s1 s2 s3 (fun z => hB1 _ _ _ _ (hk 1 _ _ _ _ hm (fun Kr2 h2 => s_X4_star hst g2 g4.1 hn q0 g5.1 qs qc qw (fun _ => h2 0 _ _ (F 1).1 (F 1).2 (fun z => absurd z (by decide))) (fun a _ => absurd a z) (fun a _ _ => absurd a z)))) (fun a z => hB2 _ _ _ _ (hk 2 _ _ _ _ hm (fun Kr2 h2 => s_X4_star hst g2 g4.1 hn q0 g5.1 qs qc qw (fun y9 => absurd a y9) (fun _ _ => h2 0 _ _ (F 2).1 (F 2).2 (fun z => absurd z (by decide))) (fun _ y1 y2 => absurd z (by omega))))) (fun x1 hx1 ex hn6 hs0 S' I' L' R' g1' vs eI eL w3 w13 wc wsi eS eR => ?_)
  have em : ∀ a b, 20 ≤ a → a ≤ 50 → I' a b = I a b := fun a b z1 z2 => eI a b (by omega) (by omega) (by omega)
  have hs10 : S' 10 = S 10 := eS 10 (by omega)
  have hs1 : S' 1 = S 1 := eS 1 (by omega)
  have hs20 : S' 20 = S 20 := eS 20 (by omega)
  obtain ⟨p0, ps, pcr, pwt, psp, psl, pz⟩ := star_ref (J := I') g5 em
  have pc : 0 < sh → ¬ crS (fun i => I' 21 i) (fun i => I' 22 i) sh ≤ 0 := fun z => by rw [pcr]; exact s2 z
  have pw : 0 < sh → ¬ wtS (fun i => I' 21 i) sh ≤ 0 := fun z => by rw [pwt]; exact s3 z
  have g2' : lyM S' R' := g2.c (fun a z1 z2 => eS a (by omega)) (fun k => eR 20 k (by omega) (by omega) (by omega) trivial)
  have hrg : rgN x 0 99 := ⟨x1, Nat.zero_le _, by omega, ex⟩
  refine hA _ _ _ _ _ (hs10.trans g3.2.2) (hk 0 _ _ _ _ ⟨g3.c hs1 hs10 (fun b => eI 1 b (by omega) (by omega) (by omega)), hs20.trans hm.2⟩ (fun Kr2 h2 => s_X4_star hst g2' ((em _ _ (by decide) (by decide)).trans g4.1) hn p0 g5.1 ps pc pw (fun z => absurd hrg z) (fun _ z => absurd z (by omega)) (fun _ _ _ I2 d1 d0 d4 d31 d25 d26 d27 d28 d29 d30 => ?_)))
  obtain ⟨v4, v5, v6, v7, v8, v9⟩ := vs
  rw [pcr] at d26 d27 d30
  rw [psl] at d28
  rw [psp, pwt] at d29
  rw [pz hs0] at d30
  have k2 : ∀ b, I2 (200 + 8 * n) b = I' (200 + 8 * n) b := fun b => d1 _ _ (by omega) (by omega)
  refine h2 _ _ _ (re_star g1 g2 g3 g4 g5 g6 g7 g8 g9 (fun a b z => (d1 a b (by omega) (by omega)).trans (eI a b (by omega) (by omega) (by omega))) (fun p q _ _ _ h4 h5 => (au2_n (by omega)).trans (eL _ _ (by omega))) hn6 hs0 (g1'.y (d1 _ _ (by omega) (by omega)) (d1 _ _ (by omega) (by omega))) g2' hs1 hs10 d0 d4 ((d1 _ _ (by omega) (by omega)).trans w3) ((d1 _ _ (by omega) (by omega)).trans w13) (fun t ht => ⟨(d1 _ _ (by omega) (by omega)).trans (wc t ht), (d1 _ _ (by omega) (by omega)).trans (wsi t)⟩) (fun j hj => ?_) ((k2 5).trans v5) ((k2 6).trans v6) ((k2 7).trans v7) ((k2 9).trans v9)) d31 (fun _ => au2_s _ _ _ _)
  match j, hj with
  | 0, _ => exact d25.trans (ex.trans ((k2 4).trans v4).symm)
  | 1, _ => exact d26.trans ((k2 5).trans v5).symm
  | 2, _ => exact d27.trans ((k2 6).trans v6).symm
  | 3, _ => exact d28.trans ((k2 7).trans v7).symm
  | 4, _ => exact d29.trans ((k2 8).trans v8).symm
  | 5, _ => exact d30.trans ((k2 9).trans v9).symm
  | j + 6, h => exact absurd h (by omega)
set_option maxHeartbeats 4000000 in
set_option maxRecDepth 100000 in
theorem st_frame {l : Launch} {E : aE} {S : aS} {I : aI} {L : aL} {Rf : aR} {Kr : aK} (hst : l.stackTraces = false) {N : Nat} {xs : Nat → Int32} {x y w v : Int32}  (hR : Rel N xs S I L Rf) (hk : ∀ (c : Int32) (S' : aS) (I' : aI) (L' : aL) (R' : aR), rlM N xs S' I' → (∀ Kr2 : aK, (∀ (b : Int32) (I2 : aI) (L2 : aL), Rel N xs S' I2 L2 R' → I2 20 31 = c → (c = 0 → L2 10 0 = b.toInt64) → Kr2 (some (.int b)) S' I2 L2 R') → aMet l E yX4_frame cX4_frame 8 (some .int) rmX4_frame [.ref 20, .int x, .int y, .int w, .int v] S' I' L' R' Kr2 aNoX) → Kr (some (.int c)) S' I' L' R') : aMetW l E yL_frame cL_frame 7 (some .int) [(0, 14, 17, 25), (0, 14, 21, 13)] rmL_frame [.ref 3, .int x, .int y, .int w, .int v, .ref 10] S I L Rf Kr := by
  have hR0 := hR
  obtain ⟨n, nc, sh, g1, g2, g3, g4, g5, g6, g7, g8, g9⟩ := hR0
  have hn : n ≤ 6 := g1.2.1
  have hnc : nc ≤ 40 := g1.2.2.1
  have hm : rlM N xs S I := ⟨g3, g2.1 0 _ rfl⟩
  have F : ∀ z : Int32, Rel N xs S (au2 I 20 31 z) L Rf ∧ au2 I 20 31 z 20 31 = z := fun z => hR.fl (eqX.refl I) (eqX.refl L) (eM.rf _) (eL.rf L)
  refine s_L_frame hst (g1.1.1 0 _ rfl) g3.2.2 (fun Kr' Kx' hA hB1 hB2 => ?_)
  refine s_X3_frame hst g1 (fun z => hB1 _ _ _ _ (hk 1 _ _ _ _ hm (fun Kr2 h2 => s_X4_frame hst g2 g4.1 hn (fun _ => h2 0 _ _ (F 1).1 (F 1).2 (fun z => absurd z (by decide))) (fun a _ => absurd a z) (fun k j t u hk9 hj9 ht9 hu9 ex ey ew ev => absurd ⟨in1 hk9 ex, in1 hj9 ey⟩ z)))) (fun a z => hB2 _ _ _ _ (hk 2 _ _ _ _ hm (fun Kr2 h2 => s_X4_frame hst g2 g4.1 hn (fun y9 => absurd a y9) (fun _ _ => h2 0 _ _ (F 2).1 (F 2).2 (fun z => absurd z (by decide))) (fun k j t u hk9 hj9 ht9 hu9 ex ey ew ev => absurd ⟨in1 ht9 ew, in1 hu9 ev⟩ z)))) (fun k j t u hk9 hj9 ht9 hu9 ex ey ew ev => hA _ _ _ _ _ g3.2.2 (hk 0 _ _ _ _ (hm.x (fun b => by rw [au2_n (by omega), au2_n (by omega)])) (fun Kr2 h2 => s_X4_frame hst g2 (n := n) (by rw [au2_n (by omega), au2_n (by omega)]; exact g4.1) hn (fun z => absurd ⟨in1 hk9 ex, in1 hj9 ey⟩ z) (fun _ z => absurd ⟨in1 ht9 ew, in1 hu9 ev⟩ z) (fun k2 j2 t2 u2 hk2 hj2 ht2 hu2 ex2 ey2 ew2 ev2 => ?_))))
  obtain rfl : k2 = k := nI_same (by omega) (by omega) ex2 ex
  obtain rfl : j2 = j := nI_same (by omega) (by omega) ey2 ey
  obtain rfl : t2 = t := nI_same (by omega) (by omega) ew2 ew
  obtain rfl : u2 = u := nI_same (by omega) (by omega) ev2 ev
  obtain ⟨-, -, -, -, -, h5⟩ := (g7 k2 hk2).2
  exact h2 _ _ _ (re_frame g1 g2 g3 g4 g5 g6 g7 g8 g9 (fun a b z => by rw [au2_n (by omega), au2_n (by omega), au2_n (by omega), au2_n (by omega), au2_n (by omega)]) (fun p q _ _ _ h4 _ => au2_n (by omega)) hk2 ht2 hj2 (show u2 ≤ 9999 by omega) (by rw [au2_n (by omega), au2_n (by omega), au2_n (by omega), au2_n (by omega), au2_s]) (by rw [au2_n (by omega), au2_n (by omega), au2_n (by omega), au2_s]) (by rw [au2_n (by omega), au2_s]) (au2_s _ _ _ _)) (by rw [au2_n (by omega), au2_n (by omega), au2_s]) (fun _ => (au2_s _ _ _ _).trans (congrArg Int32.toInt64 (by rw [au2_n (by omega), au2_n (by omega)]; exact (h5 t2 ht2).2.1.symm)))
set_option maxHeartbeats 4000000 in
set_option maxRecDepth 100000 in
theorem st_drop {l : Launch} {E : aE} {S : aS} {I : aI} {L : aL} {Rf : aR} {Kr : aK} (hst : l.stackTraces = false) {N : Nat} {xs : Nat → Int32} {x y : Int32}  (hR : Rel N xs S I L Rf) (hk : ∀ (c : Int32) (S' : aS) (I' : aI) (L' : aL) (R' : aR), rlM N xs S' I' → (∀ Kr2 : aK, (∀ (b : Int32) (I2 : aI) (L2 : aL), Rel N xs S' I2 L2 R' → I2 20 31 = c → (c = 0 → L2 10 0 = b.toInt64) → Kr2 (some (.int b)) S' I2 L2 R') → aMet l E yX4_drop cX4_drop 5 (some .int) rmX4_drop [.ref 20, .int x, .int y] S' I' L' R' Kr2 aNoX) → Kr (some (.int c)) S' I' L' R') : aMetW l E yL_drop cL_drop 5 (some .int) [(0, 10, 13, 25), (0, 10, 17, 13), (0, 10, 21, 15)] rmL_drop [.ref 3, .int x, .int y, .ref 10] S I L Rf Kr := by
  have hR0 := hR
  obtain ⟨n, nc, sh, g1, g2, g3, g4, g5, g6, g7, g8, g9⟩ := hR0
  have hn : n ≤ 6 := g1.2.1
  have hnc : nc ≤ 40 := g1.2.2.1
  have hm : rlM N xs S I := ⟨g3, g2.1 0 _ rfl⟩
  have F : ∀ z : Int32, Rel N xs S (au2 I 20 31 z) L Rf ∧ au2 I 20 31 z 20 31 = z := fun z => hR.fl (eqX.refl I) (eqX.refl L) (eM.rf _) (eL.rf L)
  refine s_L_drop hst (g1.1.1 0 _ rfl) g3.2.2 (fun Kr' Kx' hA hB1 hB2 hB3 => ?_)
  have hq : ∀ k t, k < n → t < 256 → I 31 (256 * k + t) = I (200 + 8 * k + 4) t := fun k t hk ht => by
    obtain ⟨-, -, -, -, -, h5⟩ := (g7 k hk).2
    exact (h5 t ht).2.1
  refine s_X3_drop hst g1 (fun z => hB1 _ _ _ _ (hk 1 _ _ _ _ hm (fun Kr2 h2 => s_X4_drop hst g2 g4.1 hn (fun _ => h2 0 _ _ (F 1).1 (F 1).2 (fun z => absurd z (by decide))) (fun a _ => absurd a z) (fun k t hk9 ht9 ex ey _ => absurd (in1 hk9 ex) z) (fun k t hk9 ht9 ex ey _ => absurd (in1 hk9 ex) z)))) (fun a z => hB2 _ _ _ _ (hk 2 _ _ _ _ hm (fun Kr2 h2 => s_X4_drop hst g2 g4.1 hn (fun y9 => absurd a y9) (fun _ _ => h2 0 _ _ (F 2).1 (F 2).2 (fun z => absurd z (by decide))) (fun k t hk9 ht9 ex ey _ => absurd (in1 ht9 ey) z) (fun k t hk9 ht9 ex ey _ => absurd (in1 ht9 ey) z)))) (fun k t hk9 ht9 ex ey r9 => hB3 _ _ _ _ (hk 3 _ _ _ _ hm (fun Kr2 h2 => s_X4_drop hst g2 g4.1 hn (fun z => absurd (in1 hk9 ex) z) (fun _ z => absurd (in1 ht9 ey) z) (fun k2 t2 hk2 ht2 ex2 ey2 p9 => h2 0 _ _ (F 3).1 (F 3).2 (fun z => absurd z (by decide))) (fun k2 t2 hk2 ht2 ex2 ey2 p9 => ?_)))) (fun k t hk9 ht9 ex ey r9 => hA _ _ _ _ _ g3.2.2 (hk 0 _ _ _ _ (hm.x (fun b => by rw [au2_n (by omega)])) (fun Kr2 h2 => s_X4_drop hst g2 (n := n) (by rw [au2_n (by omega)]; exact g4.1) hn (fun z => absurd (in1 hk9 ex) z) (fun _ z => absurd (in1 ht9 ey) z) (fun k2 t2 hk2 ht2 ex2 ey2 p9 => ?_) (fun k2 t2 hk2 ht2 ex2 ey2 p9 => ?_))))
  · obtain rfl : k2 = k := nI_same (by omega) (by omega) ex2 ex
    obtain rfl : t2 = t := nI_same (by omega) (by omega) ey2 ey
    exact absurd ((hq _ _ hk2 ht2).trans r9) p9
  · obtain rfl : k2 = k := nI_same (by omega) (by omega) ex2 ex
    obtain rfl : t2 = t := nI_same (by omega) (by omega) ey2 ey
    rw [au2_n (by omega), hq _ _ hk2 ht2] at p9
    exact absurd p9 r9
  · obtain rfl : k2 = k := nI_same (by omega) (by omega) ex2 ex
    obtain rfl : t2 = t := nI_same (by omega) (by omega) ey2 ey
    exact h2 _ _ _ (re_drop g1 g2 g3 g4 g5 g6 g7 g8 g9 (fun a b z => by rw [au2_n (by omega), au2_n (by omega), au2_n (by omega)]) (fun p q _ _ _ h4 _ => au2_n (by omega)) hk2 ht2 (by rw [au2_n (by omega), au2_n (by omega), au2_s]) (au2_s _ _ _ _)) (by rw [au2_n (by omega), au2_s]) (fun _ => (au2_s _ _ _ _).trans (congrArg Int32.toInt64 (by rw [au2_n (by omega)]; exact (hq _ _ hk2 ht2).symm)))
set_option maxHeartbeats 4000000 in
set_option maxRecDepth 100000 in
theorem st_mask {l : Launch} {E : aE} {S : aS} {I : aI} {L : aL} {Rf : aR} {Kr : aK} (hst : l.stackTraces = false) {N : Nat} {xs : Nat → Int32} {x y : Int32} (hy : y = 0 ∨ y = 1) (hR : Rel N xs S I L Rf) (hk : ∀ (c : Int32) (S' : aS) (I' : aI) (L' : aL) (R' : aR), rlM N xs S' I' → (∀ Kr2 : aK, (∀ (b : Int32) (I2 : aI) (L2 : aL), Rel N xs S' I2 L2 R' → I2 20 31 = c → (c = 0 → L2 10 0 = (if b = 0 then 0 else 1)) → Kr2 (some (.int b)) S' I2 L2 R') → aMet l E yX4_mask cX4_mask 4 (some .boolean) rmX4_mask [.ref 20, .int x, .int y] S' I' L' R' Kr2 aNoX) → Kr (some (.int c)) S' I' L' R') : aMetW l E yL_mask cL_mask 5 (some .int) [(0, 17, 20, 25)] rmL_mask [.ref 3, .int x, .int y, .ref 10] S I L Rf Kr := by
  have hR0 := hR
  obtain ⟨n, nc, sh, g1, g2, g3, g4, g5, g6, g7, g8, g9⟩ := hR0
  have hn : n ≤ 6 := g1.2.1
  have hnc : nc ≤ 40 := g1.2.2.1
  have hm : rlM N xs S I := ⟨g3, g2.1 0 _ rfl⟩
  have F : ∀ z : Int32, Rel N xs S (au2 I 20 31 z) L Rf ∧ au2 I 20 31 z 20 31 = z := fun z => hR.fl (eqX.refl I) (eqX.refl L) (eM.rf _) (eL.rf L)
  refine s_L_mask hst (g1.1.1 0 _ rfl) g3.2.2 (fun Kr' Kx' hA hB1 => ?_)
  have hb : ∀ j, j < 4 → narrow .boolean (.int (I 5 j)) = .int (I 5 j) := fun j hj => nar01 (g4.2.2.2.2 j hj).2
  have hb2 : ∀ j, j < 4 → narrow .boolean (.int (I 33 j)) = .int (I 33 j) := fun j hj => by rw [(g4.2.2.2.2 j hj).1]; exact hb j hj
  refine s_X3_mask hst g1 (nar01 hy) hb (fun z => hB1 _ _ _ _ (hk 1 _ _ _ _ hm (fun Kr2 h2 => s_X4_mask hst g2 (nar01 hy) hb2 (fun _ => h2 0 _ _ (F 1).1 (F 1).2 (fun z => absurd z (by decide))) (fun j hj9 ex => absurd (in1 hj9 ex) z)))) (fun j hj9 ex => hA _ _ _ _ _ g3.2.2 (hk 0 _ _ _ _ (hm.x (fun b => by rw [au2_n (by omega)])) (fun Kr2 h2 => s_X4_mask hst g2 (nar01 hy) (fun j hj => by rw [au2_n (by omega)]; exact hb2 j hj) (fun z => absurd (in1 hj9 ex) z) (fun j2 hj2 ex2 => ?_))))
  obtain rfl : j2 = j := nI_same (by omega) (by omega) ex2 ex
  exact h2 _ _ _ (re_mask g1 g2 g3 g4 g5 g6 g7 g8 g9 (fun a b z => by rw [au2_n (by omega), au2_n (by omega), au2_n (by omega)]) (fun p q _ _ _ h4 _ => au2_n (by omega)) hy (by rw [au2_n (by omega), au2_n (by omega), au2_s]) (au2_s _ _ _ _)) (by rw [au2_n (by omega), au2_s]) (fun _ => (au2_s _ _ _ _).trans (congrArg (fun q : Int32 => if q = 0 then (0 : Int64) else 1) (by rw [au2_n (by omega)]; exact (g4.2.2.2.2 j2 hj2).1.symm)))
set_option maxHeartbeats 4000000 in
set_option maxRecDepth 100000 in
theorem st_threshold {l : Launch} {E : aE} {S : aS} {I : aI} {L : aL} {Rf : aR} {Kr : aK} (hst : l.stackTraces = false) {N : Nat} {xs : Nat → Int32} {x : Int32}  (hR : Rel N xs S I L Rf) (hk : ∀ (c : Int32) (S' : aS) (I' : aI) (L' : aL) (R' : aR), rlM N xs S' I' → (∀ Kr2 : aK, (∀ (b : Int32) (I2 : aI) (L2 : aL), Rel N xs S' I2 L2 R' → I2 20 31 = c → (c = 0 → L2 10 0 = b.toInt64) → Kr2 (some (.int b)) S' I2 L2 R') → aMet l E yX4_threshold cX4_threshold 3 (some .int) rmX4_threshold [.ref 20, .int x] S' I' L' R' Kr2 aNoX) → Kr (some (.int c)) S' I' L' R') : aMetW l E yL_threshold cL_threshold 4 (some .int) [(0, 9, 12, 13)] rmL_threshold [.ref 3, .int x, .ref 10] S I L Rf Kr := by
  have hR0 := hR
  obtain ⟨n, nc, sh, g1, g2, g3, g4, g5, g6, g7, g8, g9⟩ := hR0
  have hn : n ≤ 6 := g1.2.1
  have hnc : nc ≤ 40 := g1.2.2.1
  have hm : rlM N xs S I := ⟨g3, g2.1 0 _ rfl⟩
  have F : ∀ z : Int32, Rel N xs S (au2 I 20 31 z) L Rf ∧ au2 I 20 31 z 20 31 = z := fun z => hR.fl (eqX.refl I) (eqX.refl L) (eM.rf _) (eL.rf L)
  refine s_L_threshold hst (g1.1.1 0 _ rfl) g3.2.2 (fun Kr' Kx' hA hB1 => ?_)
  refine s_X3_threshold hst g1 (fun z => hB1 _ _ _ _ (hk 1 _ _ _ _ hm (fun Kr2 h2 => s_X4_threshold hst g2 (fun _ => h2 0 _ _ (F 1).1 (F 1).2 (fun z => absurd z (by decide))) (fun a => absurd a z)))) (fun a => hA _ _ _ _ _ g3.2.2 (hk 0 _ _ _ _ (hm.x (fun b => by rw [au2_n (by omega)])) (fun Kr2 h2 => s_X4_threshold hst g2 (fun z => absurd a z) (fun _ => ?_))))
  exact h2 _ _ _ (re_threshold g1 g2 g3 g4 g5 g6 g7 g8 g9 (fun a b z => by rw [au2_n (by omega), au2_n (by omega), au2_n (by omega)]) (fun p q _ _ _ h4 _ => au2_n (by omega)) (by rw [au2_n (by omega), au2_n (by omega), au2_s]) (au2_s _ _ _ _)) (by rw [au2_n (by omega), au2_s]) (fun _ => (au2_s _ _ _ _).trans (congrArg Int32.toInt64 (by rw [au2_n (by omega)]; exact g4.2.2.2.1.symm)))
set_option maxHeartbeats 4000000 in
set_option maxRecDepth 100000 in
theorem st_takeOut {l : Launch} {E : aE} {S : aS} {I : aI} {L : aL} {Rf : aR} {Kr : aK} (hst : l.stackTraces = false) {N : Nat} {xs : Nat → Int32} {x y : Int32}  (hR : Rel N xs S I L Rf) (hk : ∀ (c : Int32) (S' : aS) (I' : aI) (L' : aL) (R' : aR), rlM N xs S' I' → (∀ Kr2 : aK, (∀ (b : Int32) (I2 : aI) (L2 : aL), Rel N xs S' I2 L2 R' → I2 20 31 = c → (c = 0 → L2 10 0 = b.toInt64) → Kr2 (some (.int b)) S' I2 L2 R') → aMet l E yX4_takeOut cX4_takeOut 4 (some .int) rmX4_takeOut [.ref 20, .int x, .int y] S' I' L' R' Kr2 aNoX) → Kr (some (.int c)) S' I' L' R') : aMetW l E yL_takeOut cL_takeOut 5 (some .int) [(0, 10, 13, 25), (0, 10, 17, 13), (0, 10, 21, 15)] rmL_takeOut [.ref 3, .int x, .int y, .ref 10] S I L Rf Kr := by
  have hR0 := hR
  obtain ⟨n, nc, sh, g1, g2, g3, g4, g5, g6, g7, g8, g9⟩ := hR0
  have hn : n ≤ 6 := g1.2.1
  have hnc : nc ≤ 40 := g1.2.2.1
  have hm : rlM N xs S I := ⟨g3, g2.1 0 _ rfl⟩
  have F : ∀ z : Int32, Rel N xs S (au2 I 20 31 z) L Rf ∧ au2 I 20 31 z 20 31 = z := fun z => hR.fl (eqX.refl I) (eqX.refl L) (eM.rf _) (eL.rf L)
  refine s_L_takeOut hst (g1.1.1 0 _ rfl) g3.2.2 (fun Kr' Kx' hA hB1 hB2 hB3 => ?_)
  refine s_X3_takeOut hst g1 (rel_hoo g7) (fun z => hB1 _ _ _ _ (hk 1 _ _ _ _ hm (fun Kr2 h2 => s_X4_takeOut hst g2 g4.1 hn (fun _ => h2 0 _ _ (F 1).1 (F 1).2 (fun z => absurd z (by decide))) (fun k hk => ⟨(g7 k hk).2.oo.2.2, (g7 k hk).2.oo.2.1⟩) (fun a _ => absurd a z) (fun k hk9 ex _ _ => absurd (in1 hk9 ex) z) (fun k hk9 ex _ _ => absurd (in1 hk9 ex) z)))) (fun a z => hB2 _ _ _ _ (hk 2 _ _ _ _ hm (fun Kr2 h2 => s_X4_takeOut hst g2 g4.1 hn (fun y9 => absurd a y9) (fun k hk => ⟨(g7 k hk).2.oo.2.2, (g7 k hk).2.oo.2.1⟩) (fun _ _ => h2 0 _ _ (F 2).1 (F 2).2 (fun z => absurd z (by decide))) (fun k hk9 ex p9 _ => absurd p9 z) (fun k hk9 ex p9 _ => absurd p9 z)))) (fun k hk9 ex p9 r9 => hB3 _ _ _ _ (hk 3 _ _ _ _ hm (fun Kr2 h2 => s_X4_takeOut hst g2 g4.1 hn (fun z => absurd (in1 hk9 ex) z) (fun k hk => ⟨(g7 k hk).2.oo.2.2, (g7 k hk).2.oo.2.1⟩) (fun _ z => absurd p9 z) (fun k2 hk2 ex2 _ _ => h2 0 _ _ (F 3).1 (F 3).2 (fun z => absurd z (by decide))) (fun k2 hk2 ex2 _ q9 => ?_)))) (fun k hk9 ex p9 r9 => hA _ _ _ _ _ g3.2.2 (hk 0 _ _ _ _ (hm.x (fun b => by rw [au2_n (by omega), au2_n (by omega)])) (fun Kr2 h2 => s_X4_takeOut hst g2 (n := n) (oo := ooC I) (by rw [au2_n (by omega), au2_n (by omega)]; exact g4.1) hn (fun z => absurd (in1 hk9 ex) z) (fun k hk => ⟨by rw [au2_n (by omega), au2_n (by omega)]; exact (g7 k hk).2.oo.2.2, (g7 k hk).2.oo.2.1⟩) (fun _ z => absurd p9 z) (fun k2 hk2 ex2 _ q9 => ?_) (fun k2 hk2 ex2 _ q9 => ?_))))
  · obtain rfl : k2 = k := nI_same (by omega) (by omega) ex2 ex
    exact absurd r9 (by omega)
  · obtain rfl : k2 = k := nI_same (by omega) (by omega) ex2 ex
    exact absurd q9 (by omega)
  · obtain rfl : k2 = k := nI_same (by omega) (by omega) ex2 ex
    obtain ⟨j0, -, j1, ej⟩ := p9
    exact h2 _ _ _ (re_takeOut (o0 := ooC I k2) (j0 := j0) g1 g2 g3 g4 g5 g6 g7 g8 g9 (fun a b z => by rw [au2_n (by omega), au2_n (by omega), au2_n (by omega), au2_n (by omega), au2_n (by omega)]) (fun p q _ _ _ h4 _ => au2_n (by omega)) hk2 q9 (g7 k2 hk2).2.oo.2.2 (by omega) (by rw [au2_n (by omega), au2_n (by omega), au2_n (by omega), au2_n (by omega), au2_s]; exact ej) (by rw [au2_n (by omega), au2_n (by omega), au2_n (by omega), au2_s]) (by rw [au2_n (by omega), au2_s]; exact ej) (au2_s _ _ _ _)) (by rw [au2_n (by omega), au2_n (by omega), au2_s]) (fun _ => au2_s _ _ _ _)
set_option maxHeartbeats 4000000 in
set_option maxRecDepth 100000 in
theorem st_putBack {l : Launch} {E : aE} {S : aS} {I : aI} {L : aL} {Rf : aR} {Kr : aK} (hst : l.stackTraces = false) {N : Nat} {xs : Nat → Int32} {x : Int32}  (hR : Rel N xs S I L Rf) (hk : ∀ (c : Int32) (S' : aS) (I' : aI) (L' : aL) (R' : aR), rlM N xs S' I' → (∀ Kr2 : aK, (∀ (b : Int32) (I2 : aI) (L2 : aL), Rel N xs S' I2 L2 R' → I2 20 31 = c → (c = 0 → L2 10 0 = b.toInt64) → Kr2 (some (.int b)) S' I2 L2 R') → aMet l E yX4_putBack cX4_putBack 3 (some .int) rmX4_putBack [.ref 20, .int x] S' I' L' R' Kr2 aNoX) → Kr (some (.int c)) S' I' L' R') : aMetW l E yL_putBack cL_putBack 4 (some .int) [(0, 9, 12, 25)] rmL_putBack [.ref 3, .int x, .ref 10] S I L Rf Kr := by
  have hR0 := hR
  obtain ⟨n, nc, sh, g1, g2, g3, g4, g5, g6, g7, g8, g9⟩ := hR0
  have hn : n ≤ 6 := g1.2.1
  have hnc : nc ≤ 40 := g1.2.2.1
  have hm : rlM N xs S I := ⟨g3, g2.1 0 _ rfl⟩
  have F : ∀ z : Int32, Rel N xs S (au2 I 20 31 z) L Rf ∧ au2 I 20 31 z 20 31 = z := fun z => hR.fl (eqX.refl I) (eqX.refl L) (eM.rf _) (eL.rf L)
  refine s_L_putBack hst (g1.1.1 0 _ rfl) g3.2.2 (fun Kr' Kx' hA hB1 => ?_)
  refine s_X3_putBack hst g1 (fun z => hB1 _ _ _ _ (hk 1 _ _ _ _ hm (fun Kr2 h2 => s_X4_putBack hst g2 g4.1 hn (fun _ => h2 0 _ _ (F 1).1 (F 1).2 (fun z => absurd z (by decide))) (fun k hk9 ex => absurd (in1 hk9 ex) z)))) (fun k hk9 ex => hA _ _ _ _ _ g3.2.2 (hk 0 _ _ _ _ (hm.x (fun b => by rw [au2_n (by omega)])) (fun Kr2 h2 => s_X4_putBack hst g2 (n := n) (by rw [au2_n (by omega)]; exact g4.1) hn (fun z => absurd (in1 hk9 ex) z) (fun k2 hk2 ex2 => ?_))))
  obtain rfl : k2 = k := nI_same (by omega) (by omega) ex2 ex
  exact h2 _ _ _ (re_putBack g1 g2 g3 g4 g5 g6 g7 g8 g9 (fun a b z => by rw [au2_n (by omega), au2_n (by omega), au2_n (by omega)]) (fun p q _ _ _ h4 _ => au2_n (by omega)) hk2 (by rw [au2_n (by omega), au2_n (by omega), au2_s]) (au2_s _ _ _ _)) (by rw [au2_n (by omega), au2_s]) (fun _ => (au2_s _ _ _ _).trans (congrArg Int32.toInt64 (by rw [au2_n (by omega)]; exact (g7 k2 hk2).2.oo.1.trans (g7 k2 hk2).2.oo.2.2.symm)))
