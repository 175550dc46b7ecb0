/-! the law: what is asked, with numbers -/
/-- how many lines are taken out -/
def oI (I : aI) (k : Nat) : Nat := (I (200 + 8 * k) 13).toNatClampNeg
def gOO (I : aI) (n : Nat) : Prop := ∀ k, k < n → I (200 + 8 * k) 13 = nI (oI I k) ∧ oI I k ≤ 6
def gSI (I : aI) (n : Nat) : Prop := ∀ k, k < n → ∀ t, t < 256 → vp_in (I (200 + 8 * k + 5) t) 4
set_option maxHeartbeats 4000000 in
set_option maxRecDepth 100000 in
theorem s_asks_drop {l : Launch} {E : aE} {S : aS} {I : aI} {L : aL} {Rf : aR} {Kr : aK} (hst : l.stackTraces = false) {n nc k t : Nat} {z : Int32} (hC : lyC S Rf I n nc) (hk9 : k < n) (ht : t < 256) (hx : I (200 + 8 * k + 4) t = -1 → Kr (some (.long (-70008))) S I L Rf) (hk : I (200 + 8 * k + 4) t ≠ -1 → Kr (some (.long (I (200 + 8 * k + 4) t).toInt64)) S (au2 I (200 + 8 * k + 4) t (-1)) L Rf) : aMetW l E yL_asks cL_asks 6 (some .long) [(0, 128, 129, 42), (0, 128, 135, 46), (0, 128, 141, 50)] rmL_asks [.ref 3, .int (nI 0), .int (nI k), .int (nI t), .int z] S I L Rf Kr := by
  refine s_L_asks0 hst (hC.1.1 0 _ rfl) (fun Kr9 Kx9 a1 a2 a3 a4 => ?_)
  refine s_X3_drop hst hC (fun q => absurd ⟨k, hk9, rfl⟩ q) (fun _ q => absurd ⟨t, ht, rfl⟩ q) (fun k9 t9 h1 h2 e1 e2 e3 => ?_) (fun k9 t9 h1 h2 e1 e2 e3 => ?_)
  · have hn6 := hC.2.1
    have f1 : k = k9 := nI_inj (by omega) (by omega) e1
    have f2 : t = t9 := nI_inj (by omega) (by omega) e2
    subst f1; subst f2
    exact a4 _ _ _ _ (hx e3)
  · have hn6 := hC.2.1
    have f1 : k = k9 := nI_inj (by omega) (by omega) e1
    have f2 : t = t9 := nI_inj (by omega) (by omega) e2
    subst f1; subst f2
    exact a1 _ _ _ _ _ (hk e3)
set_option maxHeartbeats 4000000 in
set_option maxRecDepth 100000 in
theorem s_asks_takeOut {l : Launch} {E : aE} {S : aS} {I : aI} {L : aL} {Rf : aR} {Kr : aK} (hst : l.stackTraces = false) {n nc k : Nat} {a : Nat} {z : Int32} (hC : lyC S Rf I n nc) (hoo : gOO I n) (hk9 : k < n) (ha1 : 1 ≤ a) (ha2 : a ≤ 31) (hx : oI I k = 6 → Kr (some (.long (-70008))) S I L Rf) (hk : oI I k < 6 → Kr (some (.long (lN (oI I k + 1)))) S (au2 (au2 I (200 + 8 * k + 6) (oI I k) (nI a)) (200 + 8 * k) 13 (nI (oI I k + 1))) L Rf) : aMetW l E yL_asks cL_asks 6 (some .long) [(0, 128, 129, 42), (0, 128, 135, 46), (0, 128, 141, 50)] rmL_asks [.ref 3, .int (nI 1), .int (nI k), .int (nI a), .int z] S I L Rf Kr := by
  refine s_L_asks1 hst (hC.1.1 0 _ rfl) (fun Kr9 Kx9 a1 a2 a3 a4 => ?_)
  refine s_X3_takeOut (oo := oI I) hst hC hoo (fun q => absurd ⟨k, hk9, rfl⟩ q) (fun _ q => absurd ⟨a, ha1, ha2, rfl⟩ q) (fun k9 h1 e1 _ e3 => ?_) (fun k9 h1 e1 _ e3 => ?_)
  · have hn6 := hC.2.1
    have f1 : k = k9 := nI_inj (by omega) (by omega) e1
    subst f1
    exact a4 _ _ _ _ (hx e3)
  · have hn6 := hC.2.1
    have f1 : k = k9 := nI_inj (by omega) (by omega) e1
    subst f1
    refine a1 _ _ _ _ _ ?_
    rw [nI_l (by omega)]
    exact hk e3
set_option maxHeartbeats 4000000 in
set_option maxRecDepth 100000 in
theorem s_asks_claimTone {l : Launch} {E : aE} {S : aS} {I : aI} {L : aL} {Rf : aR} {Kr : aK} (hst : l.stackTraces = false) {n nc k j a : Nat} (hC : lyC S Rf I n nc) (hsi : gSI I n) (hoo : gOO I n) (hk9 : k < n) (hj9 : j < 3) (ha : a < 2 ^ 31) (hx : ¬ (nc < 40 ∧ rgN (nI a) 1 30 ∧ pkP I (200 + 8 * k) (nI j) (oI I k) (nI a)) → ∀ I' L', eqX I' I → eqX L' L → Kr (some (.long (-70008))) S I' L' Rf) (hk : nc < 40 → rgN (nI a) 1 30 → pkP I (200 + 8 * k) (nI j) (oI I k) (nI a) → ∀ S' I' L' R', newC n nc S I L Rf S' I' L' R' 0 (nI k) (nI a) (nI j) (nI (oI I k)) (pw (prs I (200 + 8 * k)) (laid I (200 + 8 * k) (nI j) (oI I k)) (nI a)) (-1) 0 → Kr (some (.long (lN nc))) S' I' L' R') : aMetW l E yL_asks cL_asks 6 (some .long) [(0, 128, 129, 42), (0, 128, 135, 46), (0, 128, 141, 50)] rmL_asks [.ref 3, .int (nI 2), .int (nI k), .int (nI j), .int (nI a)] S I L Rf Kr := by
  refine s_L_asks2 hst (hC.1.1 0 _ rfl) (fun Kr9 Kx9 a1 a2 a3 a4 => ?_)
  have hn6 := hC.2.1
  have hc40 := hC.2.2.1
  refine s_X3_claimTone (oo := oI I) hst hC hsi hoo (fun q => absurd ⟨⟨k, hk9, rfl⟩, ⟨j, hj9, rfl⟩⟩ q) (fun k9 j9 h1 h2 e1 e2 e3 I' L' e4 e5 => ?_) (fun k9 j9 h1 h2 e1 e2 e3 e4 e5 S' I' L' R' e6 => ?_)
  · have f1 : k = k9 := nI_inj (by omega) (by omega) e1
    have f2 : j = j9 := nI_inj (by omega) (by omega) e2
    subst f1; subst f2
    exact a4 _ _ _ _ (hx e3 I' L' e4 e5)
  · have f1 : k = k9 := nI_inj (by omega) (by omega) e1
    have f2 : j = j9 := nI_inj (by omega) (by omega) e2
    subst f1; subst f2
    refine a1 _ _ _ _ _ ?_
    rw [nI_l (by omega)]
    exact hk e3 e4 e5 S' I' L' R' e6
set_option maxHeartbeats 4000000 in
set_option maxRecDepth 100000 in
theorem s_asks_claimAge {l : Launch} {E : aE} {S : aS} {I : aI} {L : aL} {Rf : aR} {Kr : aK} (hst : l.stackTraces = false) {n nc i j : Nat} {z : Int32} (hC : lyC S Rf I n nc) (hi : i < nc) (hj : j < nc) (hx2 : ¬ (I (100 + i) 0 = 0 ∧ I (100 + j) 0 = 0 ∧ I (100 + i) 1 = I (100 + j) 1 ∧ I (100 + i) 2 ≠ I (100 + j) 2) → Kr (some (.long (-70009))) S I L Rf) (hx3 : (I (100 + i) 0 = 0 ∧ I (100 + j) 0 = 0 ∧ I (100 + i) 1 = I (100 + j) 1 ∧ I (100 + i) 2 ≠ I (100 + j) 2) → ¬ (nc < 40 ∧ I (100 + i) 8 ≠ 0 ∧ I (100 + j) 8 ≠ 0) → Kr (some (.long (-70008))) S I L Rf) (hk : (I (100 + i) 0 = 0 ∧ I (100 + j) 0 = 0 ∧ I (100 + i) 1 = I (100 + j) 1 ∧ I (100 + i) 2 ≠ I (100 + j) 2) → nc < 40 → I (100 + i) 8 ≠ 0 → I (100 + j) 8 ≠ 0 → ∀ S' I' L' R', newC n nc S I L Rf S' I' L' R' 1 (I (100 + i) 1) (I (100 + i) 2) 0 0 0 (agN (fun k => I (200 + 8 * k) 6) (fun k => I (200 + 8 * k) 4) (40000 * iabs (I (100 + i) 2 - I (100 + j) 2)) n) (bitL (nI i) ||| bitL (nI j)) → Kr (some (.long (lN nc))) S' I' L' R') : aMetW l E yL_asks cL_asks 6 (some .long) [(0, 128, 129, 42), (0, 128, 135, 46), (0, 128, 141, 50)] rmL_asks [.ref 3, .int (nI 3), .int (nI i), .int (nI j), .int z] S I L Rf Kr := by
  refine s_L_asks3 hst (hC.1.1 0 _ rfl) (fun Kr9 Kx9 a1 a2 a3 a4 => ?_)
  have hc40 := hC.2.2.1
  refine s_X3_claimAge hst hC (fun q => absurd ⟨⟨i, hi, rfl⟩, ⟨j, hj, rfl⟩⟩ q) (fun i9 j9 h1 h2 e1 e2 e3 => ?_) (fun i9 j9 h1 h2 e1 e2 e3 e4 => ?_) (fun i9 j9 h1 h2 e1 e2 e3 e4 e5 e6 S' I' L' R' e7 => ?_)
  · skip
    have f1 : i = i9 := nI_inj (by omega) (by omega) e1
    have f2 : j = j9 := nI_inj (by omega) (by omega) e2
    subst f1; subst f2
    exact a3 _ _ _ _ (hx2 e3)
  · skip
    have f1 : i = i9 := nI_inj (by omega) (by omega) e1
    have f2 : j = j9 := nI_inj (by omega) (by omega) e2
    subst f1; subst f2
    exact a4 _ _ _ _ (hx3 e3 e4)
  · skip
    have f1 : i = i9 := nI_inj (by omega) (by omega) e1
    have f2 : j = j9 := nI_inj (by omega) (by omega) e2
    subst f1; subst f2
    refine a1 _ _ _ _ _ ?_
    rw [nI_l (by omega)]
    exact hk e3 e4 e5 e6 S' I' L' R' e7
set_option maxHeartbeats 4000000 in
set_option maxRecDepth 100000 in
theorem s_asks_claimPlanet {l : Launch} {E : aE} {S : aS} {I : aI} {L : aL} {Rf : aR} {Kr : aK} (hst : l.stackTraces = false) {n nc i : Nat} {y z : Int32} (hC : lyC S Rf I n nc) (hi : i < nc) (hx2 : I (100 + i) 0 ≠ 0 → Kr (some (.long (-70009))) S I L Rf) (hx3 : I (100 + i) 0 = 0 → ¬ (nc < 40 ∧ I (100 + i) 8 ≠ 0) → Kr (some (.long (-70008))) S I L Rf) (hk : I (100 + i) 0 = 0 → nc < 40 → I (100 + i) 8 ≠ 0 → ∀ S' I' L' R', newC n nc S I L Rf S' I' L' R' 2 (I (100 + i) 1) (I (100 + i) 2) 0 0 0 (-1) (bitL (nI i)) → Kr (some (.long (lN nc))) S' I' L' R') : aMetW l E yL_asks cL_asks 6 (some .long) [(0, 128, 129, 42), (0, 128, 135, 46), (0, 128, 141, 50)] rmL_asks [.ref 3, .int (nI 4), .int (nI i), .int y, .int z] S I L Rf Kr := by
  refine s_L_asks4 hst (hC.1.1 0 _ rfl) (fun Kr9 Kx9 a1 a2 a3 a4 => ?_)
  have hc40 := hC.2.2.1
  refine s_X3_claimPlanet hst hC (fun q => absurd ⟨i, hi, rfl⟩ q) (fun i9 h1 e1 e3 => ?_) (fun i9 h1 e1 e3 e4 => ?_) (fun i9 h1 e1 e3 e4 e5 S' I' L' R' e7 => ?_)
  · skip
    have f1 : i = i9 := nI_inj (by omega) (by omega) e1
    subst f1
    exact a3 _ _ _ _ (hx2 e3)
  · skip
    have f1 : i = i9 := nI_inj (by omega) (by omega) e1
    subst f1
    exact a4 _ _ _ _ (hx3 e3 e4)
  · skip
    have f1 : i = i9 := nI_inj (by omega) (by omega) e1
    subst f1
    refine a1 _ _ _ _ _ ?_
    rw [nI_l (by omega)]
    exact hk e3 e4 e5 S' I' L' R' e7
set_option maxHeartbeats 4000000 in
set_option maxRecDepth 100000 in
theorem s_asks_cite {l : Launch} {E : aE} {S : aS} {I : aI} {L : aL} {Rf : aR} {Kr : aK} (hst : l.stackTraces = false) {n nc i j : Nat} {z : Int32} (hC : lyC S Rf I n nc) (hi : i < nc) (hj : j < nc) (hx2 : ¬ j < i → Kr (some (.long (-70009))) S I L Rf) (hx3 : j < i → ¬ (I (100 + i) 8 ≠ 0 ∧ I (100 + j) 8 ≠ 0 ∧ L (100 + i) 7 &&& bitL (nI j) = 0) → Kr (some (.long (-70008))) S I L Rf) (hk : j < i → I (100 + i) 8 ≠ 0 → I (100 + j) 8 ≠ 0 → L (100 + i) 7 &&& bitL (nI j) = 0 → Kr (some (.long (bcnt (L (100 + i) 7 ||| bitL (nI j))).toInt64)) S I (au2 L (100 + i) 7 (L (100 + i) 7 ||| bitL (nI j))) Rf) : aMetW l E yL_asks cL_asks 6 (some .long) [(0, 128, 129, 42), (0, 128, 135, 46), (0, 128, 141, 50)] rmL_asks [.ref 3, .int (nI 5), .int (nI i), .int (nI j), .int z] S I L Rf Kr := by
  refine s_L_asks5 hst (hC.1.1 0 _ rfl) (fun Kr9 Kx9 a1 a2 a3 a4 => ?_)
  have hc40 := hC.2.2.1
  refine s_X3_cite hst hC (fun q => absurd ⟨⟨i, hi, rfl⟩, ⟨j, hj, rfl⟩⟩ q) (fun i9 j9 h1 h2 e1 e2 e3 => ?_) (fun i9 j9 h1 h2 e1 e2 e3 e4 => ?_) (fun i9 j9 h1 h2 e1 e2 e3 e4 e5 e6 => ?_)
  · skip
    have f1 : i = i9 := nI_inj (by omega) (by omega) e1
    have f2 : j = j9 := nI_inj (by omega) (by omega) e2
    subst f1; subst f2
    exact a3 _ _ _ _ (hx2 e3)
  · skip
    have f1 : i = i9 := nI_inj (by omega) (by omega) e1
    have f2 : j = j9 := nI_inj (by omega) (by omega) e2
    subst f1; subst f2
    exact a4 _ _ _ _ (hx3 e3 e4)
  · skip
    have f1 : i = i9 := nI_inj (by omega) (by omega) e1
    have f2 : j = j9 := nI_inj (by omega) (by omega) e2
    subst f1; subst f2
    exact a1 _ _ _ _ _ (hk e3 e4 e5 e6)
set_option maxHeartbeats 4000000 in
set_option maxRecDepth 100000 in
theorem s_asks_withdraw {l : Launch} {E : aE} {S : aS} {I : aI} {L : aL} {Rf : aR} {Kr : aK} (hst : l.stackTraces = false) {n nc i : Nat} {y z : Int32} (hC : lyC S Rf I n nc) (hi : i < nc) (hx2 : I (100 + i) 8 = 0 → Kr (some (.long (-70008))) S I L Rf) (hk : I (100 + i) 8 ≠ 0 → ∀ I', (∀ a k, (k ≠ 8 ∨ a < 100 ∨ 100 + nc ≤ a) → I' a k = I a k) → (∀ j, j < nc → I' (100 + j) 8 = if I (100 + j) 8 ≠ 0 ∧ goP (bitL (nI i)) (fun k => L (100 + k) 7) (gnS (bitL (nI i)) (fun k => L (100 + k) 7) (fun k => I (100 + k) 8) j) j then 0 else I (100 + j) 8) → Kr (some (.long (bcnt (gnS (bitL (nI i)) (fun k => L (100 + k) 7) (fun k => I (100 + k) 8) nc)).toInt64)) S I' L Rf) : aMetW l E yL_asks cL_asks 6 (some .long) [(0, 128, 129, 42), (0, 128, 135, 46), (0, 128, 141, 50)] rmL_asks [.ref 3, .int (nI 6), .int (nI i), .int y, .int z] S I L Rf Kr := by
  refine s_L_asks6 hst (hC.1.1 0 _ rfl) (fun Kr9 Kx9 a1 a2 a3 a4 => ?_)
  have hc40 := hC.2.2.1
  refine s_X3_withdraw hst hC (fun q => absurd ⟨i, hi, rfl⟩ q) (fun i9 h1 e1 e3 => ?_) (fun i9 h1 e1 e3 I' e4 e5 => ?_)
  · skip
    have f1 : i = i9 := nI_inj (by omega) (by omega) e1
    subst f1
    exact a4 _ _ _ _ (hx2 e3)
  · skip
    have f1 : i = i9 := nI_inj (by omega) (by omega) e1
    subst f1
    exact a1 _ _ _ _ _ (hk e3 I' e4 e5)
set_option maxHeartbeats 4000000 in
set_option maxRecDepth 100000 in
theorem s_asks_none {l : Launch} {E : aE} {S : aS} {I : aI} {L : aL} {Rf : aR} {Kr : aK} (hst : l.stackTraces = false) {n nc : Nat} {y z : Int32} (hC : lyC S Rf I n nc) (hx : Kr (some (.long (-70007))) S I L Rf) : aMetW l E yL_asks cL_asks 6 (some .long) [(0, 128, 129, 42), (0, 128, 135, 46), (0, 128, 141, 50)] rmL_asks [.ref 3, .int (nI 7), .int (nI nc), .int y, .int z] S I L Rf Kr := by
  refine s_L_asks7 hst (hC.1.1 0 _ rfl) (fun Kr9 Kx9 a1 a2 a3 a4 => ?_)
  have hc40 := hC.2.2.1
  have hz : ∀ i, i < nc → ¬ nI nc = nI i := fun i hi e => by have := nI_inj (by omega) (by omega) e; omega
  exact s_X3_ofClaim hst hC (fun _ => a2 _ _ _ _ hx) (fun ⟨i, hi, e⟩ _ => absurd e (hz i hi)) (fun i hi e _ => absurd e (hz i hi)) (fun i hi e _ => absurd e (hz i hi)) (fun i hi e _ => absurd e (hz i hi)) (fun i hi e _ => absurd e (hz i hi)) (fun i hi e _ => absurd e (hz i hi)) (fun i hi e _ _ _ => absurd e (hz i hi))
