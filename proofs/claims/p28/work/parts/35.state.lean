/-! the law: the state of a sky -/
def lyA (S : aS) : Prop := S 11 = some (.inl (.int, 6)) ∧ S 12 = some (.inl (.int, 64)) ∧ S 13 = some (.inl (.int, 40)) ∧ S 14 = some (.inl (.long, 40))
def cN6 (I : aI) (n nc th mk c4 c5 : Nat) : Prop := I 11 0 = nI n ∧ I 11 1 = nI nc ∧ I 11 2 = nI th ∧ I 11 3 = nI mk ∧ I 11 4 = nI c4 ∧ I 11 5 = nI c5
/-- the star that is built -/
def bK (I : aI) (n : Nat) : Prop := I (200 + 8 * n) 3 = nI 0 ∧ I (200 + 8 * n) 13 = 0 ∧ (∀ t, t < 256 → I (200 + 8 * n + 4) t = -1) ∧ ∀ t, t < 256 → I (200 + 8 * n + 5) t = 0
def sK (S : aS) (I : aI) (L : aL) (R : aR) (n nc mk th c4 c5 : Nat) : Prop :=
  lyC S R I n nc ∧ n ≤ 4 ∧ lyA S ∧ cN6 I n nc th mk c4 c5 ∧ (I 3 4 = nI th ∧ 1 ≤ th ∧ th ≤ 2000000) ∧ mK I mk ∧ lF I ∧ (∀ k, k < n → zS I k) ∧ gSI I n ∧ gOO I n ∧ gC I L n nc ∧ gH I nc (sv I) ∧ bK I n
theorem zS_e {I J : aI} {k : Nat} (h : zS I k) (e0 : ∀ j, j ≠ 13 → J (200 + 8 * k) j = I (200 + 8 * k) j) (e1 : ∀ j, J (200 + 8 * k + 1) j = I (200 + 8 * k + 1) j) (e2 : ∀ j, J (200 + 8 * k + 2) j = I (200 + 8 * k + 2) j) : zS J k := by
  obtain ⟨ss, cr, la, sm, tu, g0, ag, ff, gg, ⟨hs8, h3, hsh⟩, ⟨hcr, hcr2⟩, h4, hag, h5, h6, h7, hsm, h8, htu, h9, hg⟩ := h
  have f1 : (fun i => J (200 + 8 * k + 1) i) = fun i => I (200 + 8 * k + 1) i := funext e1
  have f2 : (fun i => J (200 + 8 * k + 2) i) = fun i => I (200 + 8 * k + 2) i := funext e2
  refine ⟨ss, cr, la, sm, tu, g0, ag, ff, gg, ⟨hs8, (e0 _ (by decide)).trans h3, fun i hi => ?_⟩, ⟨?_, hcr2⟩, (e0 _ (by decide)).trans h4, hag, (e0 _ (by decide)).trans h5, (e0 _ (by decide)).trans h6, (e0 _ (by decide)).trans h7, hsm, (e0 _ (by decide)).trans h8, htu, (e0 _ (by decide)).trans h9, hg⟩
  · rw [e1, e2]; exact hsh i hi
  · rw [f1, f2]; exact hcr
/-- what a call leaves of the stars -/
def eqS (J I : aI) : Prop := ∀ a k, 200 ≤ a → a ≠ 204 → a ≠ 205 → a ≠ 206 → ¬ (a = 200 ∧ k = 13) → J a k = I a k
theorem gSI_s {I J : aI} {n : Nat} (h : gSI I n) (e : eqS J I) (hF : lF J) : gSI J n := fun k hk t ht => by
  by_cases z : k = 0
  · subst z
    obtain ⟨s, hs, w⟩ := hF.2.2.2 t ht
    show vp_in (J 205 t) 4
    rw [w]; exact vp_in_nI hs (by decide)
  · rw [e _ _ (by omega) (by omega) (by omega) (by omega) (by omega)]; exact h k hk t ht
theorem gOO_s {I J : aI} {n : Nat} (h : gOO I n) (e : eqS J I) {o : Nat} (ho : J 200 13 = nI o) (ho6 : o ≤ 6) : gOO J n := fun k hk => by
  by_cases z : k = 0
  · subst z
    have w : oI J 0 = o := by
      show (J 200 13).toNatClampNeg = o
      rw [ho]; exact nI_clamp (by omega)
    rw [w]; exact ⟨ho, ho6⟩
  · have h9 := h k hk
    unfold oI at h9 ⊢
    rw [e _ _ (by omega) (by omega) (by omega) (by omega) (by omega)]; exact h9
theorem sK_g {S S' : aS} {I I' : aI} {L L' : aL} {R R' : aR} {n nc nc' mk mk' th th' c4 c4' c5 c5' o : Nat} (h : sK S I L R n nc mk th c4 c5) (hn0 : 0 < n) (hC : lyC S' R' I' n nc') (hA : lyA S') (e : eqS I' I) (h6 : cN6 I' n nc' th' mk' c4' c5') (ht : I' 3 4 = nI th' ∧ 1 ≤ th' ∧ th' ≤ 2000000) (hM : mK I' mk') (hF : lF I') (ho : I' 200 13 = nI o) (ho6 : o ≤ 6) (hG : gC I' L' n nc') (hH : gH I' nc' (sv I')) : sK S' I' L' R' n nc' mk' th' c4' c5' := by
  obtain ⟨-, a2, -, -, -, -, -, a8, a9, a10, -, -, b1, b2, b3, b4⟩ := h
  refine ⟨hC, a2, hA, h6, ht, hM, hF, fun k hk => ?_, gSI_s a9 e hF, gOO_s a10 e ho ho6, hG, hH, ?_, ?_, fun t ht => ?_, fun t ht => ?_⟩
  · exact zS_e (a8 k hk) (fun j hj => e _ _ (by omega) (by omega) (by omega) (by omega) (by omega)) (fun j => e _ _ (by omega) (by omega) (by omega) (by omega) (by omega)) (fun j => e _ _ (by omega) (by omega) (by omega) (by omega) (by omega))
  · rw [e _ _ (by omega) (by omega) (by omega) (by omega) (by omega)]; exact b1
  · rw [e _ _ (by omega) (by omega) (by omega) (by omega) (by omega)]; exact b2
  · rw [e _ _ (by omega) (by omega) (by omega) (by omega) (by omega)]; exact b3 t ht
  · rw [e _ _ (by omega) (by omega) (by omega) (by omega) (by omega)]; exact b4 t ht
/-- the claims' cells alone -/
theorem gC_e {I J : aI} {L M : aL} {n nc : Nat} (hnc : nc ≤ 40) (h : gC I L n nc) (e : ∀ a k, 100 ≤ a → a < 140 → J a k = I a k) (e2 : ∀ a k, a = 14 ∨ (100 ≤ a ∧ a < 140) → M a k = L a k) : gC J M n nc := fun i hi => by
  obtain ⟨h1, h2, h3⟩ := h i hi
  refine ⟨h1.x (fun k => e _ _ (by omega) (by omega)), ?_, fun z j hj hb => ?_⟩
  · unfold clQ at h2 ⊢
    rw [e2 _ _ (by omega), e2 14 _ (by omega)]; exact h2
  · rw [e _ _ (by omega) (by omega)] at z ⊢
    rw [e2 _ _ (by omega)] at hb
    exact h3 z j hj hb
theorem gH_e {I J : aI} {nc : Nat} (hnc : nc ≤ 40) (h : gH I nc (sv I)) (e : ∀ a k, 100 ≤ a → a < 140 → J a k = I a k) (e2 : ∀ k, J 13 k = I 13 k) : gH J nc (sv J) := fun i hi => by
  have w : sv J i = sv I i := by unfold sv; rw [e _ _ (by omega) (by omega)]
  rw [w]; exact (h i hi).x (fun k => e _ _ (by omega) (by omega)) (e2 i)
theorem mK_e {I J : aI} {mk : Nat} (h : mK I mk) (e : ∀ k, J 5 k = I 5 k) : mK J mk := ⟨h.1, fun s hs => (e s).trans (h.2 s hs)⟩
theorem cN6_e {I J : aI} {n nc th mk c4 c5 : Nat} (h : cN6 I n nc th mk c4 c5) (e : ∀ k, J 11 k = I 11 k) : cN6 J n nc th mk c4 c5 := ⟨(e 0).trans h.1, (e 1).trans h.2.1, (e 2).trans h.2.2.1, (e 3).trans h.2.2.2.1, (e 4).trans h.2.2.2.2.1, (e 5).trans h.2.2.2.2.2⟩
section SKP
variable {S : aS} {I : aI} {L : aL} {R : aR} {n nc mk th c4 c5 : Nat}
theorem sK.C (h : sK S I L R n nc mk th c4 c5) : lyC S R I n nc := h.1
theorem sK.n4 (h : sK S I L R n nc mk th c4 c5) : n ≤ 4 := h.2.1
theorem sK.A (h : sK S I L R n nc mk th c4 c5) : lyA S := h.2.2.1
theorem sK.c (h : sK S I L R n nc mk th c4 c5) : cN6 I n nc th mk c4 c5 := h.2.2.2.1
theorem sK.t (h : sK S I L R n nc mk th c4 c5) : I 3 4 = nI th ∧ 1 ≤ th ∧ th ≤ 2000000 := h.2.2.2.2.1
theorem sK.m (h : sK S I L R n nc mk th c4 c5) : mK I mk := h.2.2.2.2.2.1
theorem sK.f (h : sK S I L R n nc mk th c4 c5) : lF I := h.2.2.2.2.2.2.1
theorem sK.z (h : sK S I L R n nc mk th c4 c5) : ∀ k, k < n → zS I k := h.2.2.2.2.2.2.2.1
theorem sK.si (h : sK S I L R n nc mk th c4 c5) : gSI I n := h.2.2.2.2.2.2.2.2.1
theorem sK.oo (h : sK S I L R n nc mk th c4 c5) : gOO I n := h.2.2.2.2.2.2.2.2.2.1
theorem sK.g (h : sK S I L R n nc mk th c4 c5) : gC I L n nc := h.2.2.2.2.2.2.2.2.2.2.1
theorem sK.h (h : sK S I L R n nc mk th c4 c5) : gH I nc (sv I) := h.2.2.2.2.2.2.2.2.2.2.2.1
theorem sK.b (h : sK S I L R n nc mk th c4 c5) : bK I n := h.2.2.2.2.2.2.2.2.2.2.2.2
theorem sK.n40 (h : sK S I L R n nc mk th c4 c5) : nc ≤ 40 := h.1.2.2.1
/-- looks alone -/
theorem sK_x {I' : aI} {L' : aL} (h : sK S I L R n nc mk th c4 c5) (hn0 : 0 < n) (e : eqX I' I) (hG : gC I' L' n nc) : sK S I' L' R n nc mk th c4 c5 :=
  sK_g (o := oI I 0) h hn0 (h.C.I (e _ _ (by decide) (by decide) (by decide)) (e _ _ (by decide) (by decide) (by decide))) h.A (fun a k a1 _ _ _ _ => e _ _ (by omega) (by omega) (by omega)) (cN6_e h.c (fun k => e _ _ (by decide) (by decide) (by decide))) ⟨(e _ _ (by decide) (by decide) (by decide)).trans h.t.1, h.t.2⟩ (mK_e h.m (fun k => e _ _ (by decide) (by decide) (by decide))) (lF_c h.f (fun a k ha => e _ _ (by omega) (by omega) (by omega))) ((e _ _ (by decide) (by decide) (by decide)).trans (h.oo 0 hn0).1) (h.oo 0 hn0).2 hG (h.h.xs e)
theorem sK_x2 {I' : aI} {L' : aL} (h : sK S I L R n nc mk th c4 c5) (hn0 : 0 < n) (e : eqX I' I) (e2 : eqX L' L) : sK S I' L' R n nc mk th c4 c5 := sK_x h hn0 e (h.g.x e e2)
/-- a claim more -/
theorem sK_grew {S' : aS} {I' : aI} {L' : aL} {R' : aR} (h : sK S I L R n nc mk th c4 c5) (hn0 : 0 < n) (hW : grew n nc S I S' I' L' R') : sK S' I' L' R' n (nc + 1) mk th c4 c5 := by
  obtain ⟨w1, w2, w3, w4, w5, w6, w7⟩ := hW
  have e : ∀ a k, (a = 5 ∨ a = 12 ∨ 200 ≤ a ∨ (a = 3 ∧ k = 4) ∨ (a = 11 ∧ k ≠ 1)) → I' a k = I a k := fun a k z => w3 a k (by omega) (by omega) (by omega) (by omega) (by omega) (by omega) (by omega)
  have hc := h.c
  obtain ⟨s1, s2, s3, s4⟩ := h.A
  refine sK_g (o := oI I 0) h hn0 w1 ⟨by rw [w2 _ (by omega)]; exact s1, by rw [w2 _ (by omega)]; exact s2, by rw [w2 _ (by omega)]; exact s3, by rw [w2 _ (by omega)]; exact s4⟩ (fun a k a1 _ _ _ _ => e a k (by omega)) ⟨?_, w6, ?_, ?_, ?_, ?_⟩ ⟨(e _ _ (by omega)).trans h.t.1, h.t.2⟩ (mK_e h.m (fun k => e _ _ (by omega))) (lF_c h.f (fun a k ha => e _ _ (by omega))) ((e _ _ (by omega)).trans (h.oo 0 hn0).1) (h.oo 0 hn0).2 w4 w5
  · exact (e _ _ (by omega)).trans hc.1
  · exact (e _ _ (by omega)).trans hc.2.2.1
  · exact (e _ _ (by omega)).trans hc.2.2.2.1
  · exact (e _ _ (by omega)).trans hc.2.2.2.2.1
  · exact (e _ _ (by omega)).trans hc.2.2.2.2.2
/-- claims that fell -/
theorem sK_fell {I' : aI} {L' : aL} (h : sK S I L R n nc mk th c4 c5) (hn0 : 0 < n) (e : eqF nc I' I) (hG : gC I' L' n nc) (hH : gH I' nc (sv I')) : sK S I' L' R n nc mk th c4 c5 := by
  have h40 := h.n40
  have e9 : ∀ a k, a ≠ 7 → a ≠ 8 → a ≠ 9 → a ≠ 13 → (a < 100 ∨ 140 ≤ a) → I' a k = I a k := fun a k a1 a2 a3 a4 a5 => e a k a1 a2 a3 a4 (by omega)
  exact sK_g (o := oI I 0) h hn0 (h.C.I (e9 _ _ (by decide) (by decide) (by decide) (by decide) (by decide)) (e9 _ _ (by decide) (by decide) (by decide) (by decide) (by decide))) h.A (fun a k a1 _ _ _ _ => e9 _ _ (by omega) (by omega) (by omega) (by omega) (by omega)) (cN6_e h.c (fun k => e9 _ _ (by decide) (by decide) (by decide) (by decide) (by decide))) ⟨(e9 _ _ (by decide) (by decide) (by decide) (by decide) (by decide)).trans h.t.1, h.t.2⟩ (mK_e h.m (fun k => e9 _ _ (by decide) (by decide) (by decide) (by decide) (by decide))) (lF_c h.f (fun a k ha => e9 _ _ (by omega) (by omega) (by omega) (by omega) (by omega))) ((e9 _ _ (by decide) (by decide) (by decide) (by decide) (by decide)).trans (h.oo 0 hn0).1) (h.oo 0 hn0).2 hG hH
/-- small changes: nothing of the claims -/
theorem sK_s {S' : aS} {I' : aI} {L' : aL} {R' : aR} {mk' th' c4' c5' o : Nat} (h : sK S I L R n nc mk th c4 c5) (hn0 : 0 < n) (hC : lyC S' R' I' n nc) (hA : lyA S') (e : ∀ a k, 10 < a → a ≠ 11 → a ≠ 12 → ¬ (14 < a ∧ a < 100) → a ≠ 204 → a ≠ 205 → a ≠ 206 → ¬ (a = 200 ∧ k = 13) → I' a k = I a k) (e2 : ∀ a k, a = 14 ∨ (100 ≤ a ∧ a < 140) → L' a k = L a k) (h6 : cN6 I' n nc th' mk' c4' c5') (ht : I' 3 4 = nI th' ∧ 1 ≤ th' ∧ th' ≤ 2000000) (hM : mK I' mk') (hF : lF I') (ho : I' 200 13 = nI o) (ho6 : o ≤ 6) : sK S' I' L' R' n nc mk' th' c4' c5' :=
  sK_g h hn0 hC hA (fun a k a1 a2 a3 a4 a5 => e a k (by omega) (by omega) (by omega) (by omega) a2 a3 a4 a5) h6 ht hM hF ho ho6 (gC_e h.n40 h.g (fun a k a1 a2 => e a k (by omega) (by omega) (by omega) (by omega) (by omega) (by omega) (by omega) (by omega)) e2) (gH_e h.n40 h.h (fun a k a1 a2 => e a k (by omega) (by omega) (by omega) (by omega) (by omega) (by omega) (by omega) (by omega)) (fun k => e _ _ (by decide) (by decide) (by decide) (by omega) (by decide) (by decide) (by decide) (by omega)))
end SKP
/-- a thing more, for the law alone -/
theorem lyC_S {S S' : aS} {R R' : aR} {I I' : aI} {n nc : Nat} (h : lyC S R I n nc) (e : ∀ a, ¬ (10 < a ∧ a < 100) → S' a = S a) (e2 : ∀ a k, ¬ (10 < a ∧ a < 100) → R' a k = R a k) (i1 : I' 3 1 = I 3 1) (i6 : I' 3 6 = I 3 6) : lyC S' R' I' n nc := by
  obtain ⟨⟨x0, x1, x2, x3, x4, x5, x6, x7⟩, a2, a3, a4, a5, a6, a7, a8, a9, a10, a11⟩ := h
  refine ⟨⟨fun j x hj => ?_, ?_, ?_, ?_, ?_, ?_, ?_, ?_⟩, a2, a3, i1.trans a4, i6.trans a5, ?_, fun k hk => ⟨fun j x hj => ?_, fun q j hj => ?_, (a7 k hk).2.2⟩, fun k hk => ?_, fun k hk => ?_, fun a ha => ?_, fun k h1 h2 => ?_⟩
  · have hj7 : j ≤ 6 := Nat.not_lt.mp fun z => by
      match j, z, hj with
      | j + 7, _, hj => cases hj
    rw [e _ (by omega)]; exact x0 j x hj
  · rw [e2 _ _ (by omega)]; exact x1
  · rw [e2 _ _ (by omega)]; exact x2
  · rw [e2 _ _ (by omega)]; exact x3
  · rw [e2 _ _ (by omega)]; exact x4
  · rw [e2 _ _ (by omega)]; exact x5
  · rw [e2 _ _ (by omega)]; exact x6
  · rw [e _ (by omega)]; exact x7
  · rw [e2 _ _ (by omega)]; exact a6
  · rw [e _ (by omega)]; exact (a7 k hk).1 j x hj
  · rw [e2 _ _ (by omega)]; exact (a7 k hk).2.1 q j hj
  · rw [e2 _ _ (by omega)]; exact a8 k hk
  · rw [e _ (by omega), e2 _ _ (by omega)]; exact a9 k hk
  · rw [e _ (by omega)]; exact a10 a ha
  · rw [e _ (by omega)]; exact a11 k h1 h2
/-- the law's number of masked sites -/
def clr (mk s : Nat) : Nat := if mk / 2 ^ s % 2 = 1 then mk - 2 ^ s else mk
def set1 (mk s : Nat) : Nat := if mk / 2 ^ s % 2 = 1 then mk else mk + 2 ^ s
theorem clr_e {mk s : Nat} (hm : mk < 16) (hs : s < 4) : nI mk &&& (nI 1 <<< (nI s &&& 31) ^^^ (-1)) = nI (clr mk s) ∧ clr mk s < 16 ∧ clr mk s / 2 ^ s % 2 = 0 ∧ ∀ t, t < 4 → t ≠ s → clr mk s / 2 ^ t % 2 = mk / 2 ^ t % 2 := by
  have h : ∀ m : Fin 16, ∀ s : Fin 4, nI m.val &&& (nI 1 <<< (nI s.val &&& 31) ^^^ (-1)) = nI (clr m.val s.val) ∧ clr m.val s.val < 16 ∧ clr m.val s.val / 2 ^ s.val % 2 = 0 ∧ ∀ t : Fin 4, t.val ≠ s.val → clr m.val s.val / 2 ^ t.val % 2 = m.val / 2 ^ t.val % 2 := by decide +kernel
  obtain ⟨h1, h2, h3, h4⟩ := h ⟨mk, hm⟩ ⟨s, hs⟩
  exact ⟨h1, h2, h3, fun t ht => h4 ⟨t, ht⟩⟩
theorem set_e {mk s : Nat} (hm : mk < 16) (hs : s < 4) : nI mk ||| nI 1 <<< (nI s &&& 31) = nI (set1 mk s) ∧ set1 mk s < 16 ∧ set1 mk s / 2 ^ s % 2 = 1 ∧ ∀ t, t < 4 → t ≠ s → set1 mk s / 2 ^ t % 2 = mk / 2 ^ t % 2 := by
  have h : ∀ m : Fin 16, ∀ s : Fin 4, nI m.val ||| nI 1 <<< (nI s.val &&& 31) = nI (set1 m.val s.val) ∧ set1 m.val s.val < 16 ∧ set1 m.val s.val / 2 ^ s.val % 2 = 1 ∧ ∀ t : Fin 4, t.val ≠ s.val → set1 m.val s.val / 2 ^ t.val % 2 = m.val / 2 ^ t.val % 2 := by decide +kernel
  obtain ⟨h1, h2, h3, h4⟩ := h ⟨mk, hm⟩ ⟨s, hs⟩
  exact ⟨h1, h2, h3, fun t ht => h4 ⟨t, ht⟩⟩
theorem mK_u {I J : aI} {mk m2 s b : Nat} (h : mK I mk) (hs : s < 4) (hm : m2 < 16) (hb : m2 / 2 ^ s % 2 = b) (ho : ∀ t, t < 4 → t ≠ s → m2 / 2 ^ t % 2 = mk / 2 ^ t % 2) (e : J 5 s = nI b) (e2 : ∀ k, k ≠ s → J 5 k = I 5 k) : mK J m2 := ⟨hm, fun t ht => by
  by_cases z : t = s
  · subst z; rw [e, hb]
  · rw [e2 t z, h.2 t ht, ho t ht z]⟩
/-- a star more -/
theorem sK_builds {S S' : aS} {I I' : aI} {L L' : aL} {R R' : aR} {n nc mk th c4 c5 : Nat} (h : sK S I L R n nc mk th c4 c5) (hn : n < 4) (g1 : lyC S' R' I' (n + 1) nc) (g2 : zS I' n) (g3 : ∀ a k, a < 200 + 8 * (n + 1) → a ≠ 7 → a ≠ 8 → a ≠ 9 → ¬ (200 + 8 * n ≤ a ∧ a ≤ 200 + 8 * n + 3) → ¬ (a = 3 ∧ k = 1) → ¬ (a = 11 ∧ k = 0) → I' a k = I a k) (g4 : I' 11 0 = nI (n + 1)) (g5 : I' (200 + 8 * n) 13 = 0) (g6 : I' (200 + 8 * (n + 1)) 3 = 0) (g7 : I' (200 + 8 * (n + 1)) 13 = 0) (g8 : ∀ t, t < 256 → I' (200 + 8 * (n + 1) + 4) t = -1) (g9 : ∀ t, t < 256 → I' (200 + 8 * (n + 1) + 5) t = 0) (g10 : ∀ a k, a < 200 + 8 * (n + 1) → a ≠ 7 → a ≠ 8 → a ≠ 9 → L' a k = L a k) (g11 : ∀ a, a < 200 + 8 * (n + 1) → S' a = S a) : sK S' I' L' R' (n + 1) nc mk th c4 c5 := by
  obtain ⟨s1, s2, s3, s4⟩ := h.A
  have h40 := h.n40
  have hc := h.c
  have e : ∀ a k, (a = 5 ∨ a = 12 ∨ a = 13 ∨ (100 ≤ a ∧ a < 140) ∨ (a = 3 ∧ k = 4) ∨ (a = 11 ∧ k ≠ 0) ∨ (200 ≤ a ∧ a < 200 + 8 * (n + 1) ∧ ¬ (200 + 8 * n ≤ a ∧ a ≤ 200 + 8 * n + 3))) → I' a k = I a k := fun a k z => g3 a k (by omega) (by omega) (by omega) (by omega) (by omega) (by omega) (by omega)
  have eC : ∀ a k, 100 ≤ a → a < 140 → I' a k = I a k := fun a k a1 a2 => e a k (by omega)
  refine ⟨g1, by omega, ⟨by rw [g11 _ (by omega)]; exact s1, by rw [g11 _ (by omega)]; exact s2, by rw [g11 _ (by omega)]; exact s3, by rw [g11 _ (by omega)]; exact s4⟩, ⟨g4, (e _ _ (by omega)).trans hc.2.1, (e _ _ (by omega)).trans hc.2.2.1, (e _ _ (by omega)).trans hc.2.2.2.1, (e _ _ (by omega)).trans hc.2.2.2.2.1, (e _ _ (by omega)).trans hc.2.2.2.2.2⟩, ⟨(e _ _ (by omega)).trans h.t.1, h.t.2⟩, mK_e h.m (fun k => e _ _ (by omega)), lF_c h.f (fun a k ha => e _ _ (by omega)), fun k hk => ?_, fun k hk t ht => ?_, fun k hk => ?_, fun i hi => ?_, gH_e h40 h.h eC (fun k => e _ _ (by omega)), g6, g7, g8, g9⟩
  · by_cases z : k = n
    · subst z; exact g2
    · exact zS_e (h.z k (by omega)) (fun j hj => e _ _ (by omega)) (fun j => e _ _ (by omega)) (fun j => e _ _ (by omega))
  · rw [e _ _ (by omega)]
    by_cases z : k = n
    · subst z; rw [h.b.2.2.2 t ht]; exact vp_in_nI (n := 0) (by decide) (by decide)
    · exact h.si k (by omega) t ht
  · by_cases z : k = n
    · subst z
      unfold oI
      rw [g5]
      exact ⟨rfl, Nat.zero_le _⟩
    · have h9 := h.oo k (by omega)
      unfold oI at h9 ⊢
      rw [e _ _ (by omega)]; exact h9
  · have h9 := gC_e h40 h.g eC (M := L') (fun a k a1 => g10 a k (by omega) (by omega) (by omega) (by omega)) i hi
    exact ⟨h9.1.mono (by omega), h9.2⟩
theorem nar01 {x : Int32} {b : Nat} (h : x = nI b) (hb : b ≤ 1) : narrow .boolean (.int x) = .int x := by
  have e : b = 0 ∨ b = 1 := by omega
  rcases e with e | e
  · subst e; rw [h]; rfl
  · subst e; rw [h]; rfl
