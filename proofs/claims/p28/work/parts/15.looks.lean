/-! the class: what it looks at first -/
abbrev eIO : String := "java/lang/IndexOutOfBoundsException"
abbrev eIA : String := "java/lang/IllegalArgumentException"
abbrev eIS : String := "java/lang/IllegalStateException"
def rgN (x : Int32) (lo hi : Nat) : Prop := ∃ k : Nat, lo ≤ k ∧ k ≤ hi ∧ x = nI k
def inN (x : Int32) (n : Nat) : Prop := ∃ k : Nat, k < n ∧ x = nI k
theorem iout_z {x : Int32} {lo hi : Nat} (h : hi < 2 ^ 31) (h2 : lo < 2 ^ 31) : iout x (nI lo) (nI hi) = 0 ↔ rgN x lo hi := by
  constructor
  · intro h9
    unfold iout at h9
    split at h9
    · cases h9
    · rename_i h8
      have a1 : ¬ x < nI lo := fun z => h8 (Or.inl z)
      have a2 : ¬ nI hi < x := fun z => h8 (Or.inr z)
      have a3 : nI lo ≤ x := Int32.not_lt.mp a1
      have a4 : x ≤ nI hi := Int32.not_lt.mp a2
      have a0 : ¬ x < 0 := fun z => by
        have := Int32.le_iff_toInt_le.mp a3
        have := Int32.lt_iff_toInt_lt.mp z
        rw [nI_toInt h2] at *
        rw [Int32.toInt_zero] at *
        omega
      obtain ⟨j, hj, rfl⟩ := nI_of a0
      rw [nI_leI h2 hj] at a3
      rw [nI_leI hj h] at a4
      exact ⟨j, a3, a4, rfl⟩
  · rintro ⟨k, h8, h9, rfl⟩
    unfold iout
    rw [if_neg]
    rintro (z | z)
    · rw [nI_ltI (by omega) h2] at z; omega
    · rw [nI_ltI h (by omega)] at z; omega
theorem iout_01 (x y z : Int32) : iout x y z = 0 ∨ iout x y z = 1 := by
  unfold iout; split
  · exact Or.inr rfl
  · exact Or.inl rfl
theorem rgN_in {x : Int32} {n : Nat} : rgN x 0 n ↔ inN x (n + 1) := ⟨fun ⟨k, _, h, e⟩ => ⟨k, by omega, e⟩, fun ⟨k, h, e⟩ => ⟨k, Nat.zero_le _, by omega, e⟩⟩
/-- the class's things: n stars, nc claims -/
def lyC (S : aS) (R : aR) (I : aI) (n nc : Nat) : Prop := lyX S R ∧ n ≤ 6 ∧ nc ≤ 40 ∧ I 3 1 = nI n ∧ I 3 6 = nI nc ∧ R 3 2 = some (200 + 8 * n) ∧ (∀ k, k ≤ n → lyS S R (200 + 8 * k)) ∧ (∀ k, k < n → R 4 k = some (200 + 8 * k)) ∧ (∀ k, k < nc → S (100 + k) = some (.inr 0) ∧ R 6 k = some (100 + k)) ∧ (∀ a, 200 + 8 * (n + 1) ≤ a → S a = none) ∧ ∀ k, nc ≤ k → k < 100 → S (100 + k) = none
theorem lyC.I {S : aS} {R : aR} {I J : aI} {n nc : Nat} (h : lyC S R I n nc) (h1 : J 3 1 = I 3 1) (h6 : J 3 6 = I 3 6) : lyC S R J n nc :=
  ⟨h.1, h.2.1, h.2.2.1, h1.trans h.2.2.2.1, h6.trans h.2.2.2.2.1, h.2.2.2.2.2⟩
theorem lyC.n6 {S : aS} {R : aR} {I : aI} {n nc : Nat} (h : lyC S R I n nc) : n ≤ 6 := h.2.1
theorem lyC.i1 {S : aS} {R : aR} {I : aI} {n nc : Nat} (h : lyC S R I n nc) : I 3 1 = nI n := h.2.2.2.1
theorem lyC.i6 {S : aS} {R : aR} {I : aI} {n nc : Nat} (h : lyC S R I n nc) : I 3 6 = nI nc := h.2.2.2.2.1
theorem lyC.star {S : aS} {R : aR} {I : aI} {n nc : Nat} (h : lyC S R I n nc) {k : Nat} (hk : k ≤ n) : lyS S R (200 + 8 * k) := h.2.2.2.2.2.2.1 k hk
theorem lyC.r4 {S : aS} {R : aR} {I : aI} {n nc : Nat} (h : lyC S R I n nc) {k : Nat} (hk : k < n) : R 4 k = some (200 + 8 * k) := h.2.2.2.2.2.2.2.1 k hk
theorem lyC.cl {S : aS} {R : aR} {I : aI} {n nc : Nat} (h : lyC S R I n nc) {k : Nat} (hk : k < nc) : S (100 + k) = some (.inr 0) ∧ R 6 k = some (100 + k) := h.2.2.2.2.2.2.2.2.1 k hk
theorem not_inN_lt {x : Int32} {n : Nat} (h : x < 0) (hn : n < 2 ^ 31) : ¬ inN x n := fun ⟨k, hk, e⟩ => by
  rw [e] at h; exact nI_pos (by omega) h
theorem not_inN_ge {x : Int32} {n : Nat} (h : nI n ≤ x) (hn : n < 2 ^ 31) : ¬ inN x n := fun ⟨k, hk, e⟩ => by
  rw [e] at h; exact nI_ge hk hn h
theorem inN_of {x : Int32} {n : Nat} (h1 : ¬ x < 0) (h2 : ¬ nI n ≤ x) (hn : n < 2 ^ 31) : inN x n := by
  obtain ⟨j, hj, rfl⟩ := nI_of h1
  refine ⟨j, ?_, rfl⟩
  rw [nI_leI hn hj] at h2
  omega
abbrev rmX3_starAt : Room := { frames := 6, cells := 1, slots := 6, locals := 90 }
set_option maxHeartbeats 4000000 in
set_option maxRecDepth 100000 in
theorem s_X3_starAt {l : Launch} {E : aE} {S : aS} {I : aI} {L : aL} {Rf : aR} {Kr : aK} {Kx : aX} (hst : l.stackTraces = false) {n nc : Nat} {x : Int32} (hC : lyC S Rf I n nc) (h1 : ∀ k, k < n → x = nI k → Kr (some (.ref (200 + 8 * k))) S I L Rf) (h2 : ¬ inN x n → Kx eIO S I L Rf) : aMet l E yX3_starAt cX3_starAt 2 (some (.object "AsteroTone$Star")) rmX3_starAt [.ref 3, .int x] (S) (I) (L) (Rf) Kr Kx := by
  refine aMet.of (lv0 := [.ref 3, .int x]) (z := 0) (by decide +kernel) hst rfl (Nat.le_of_ble_eq_true rfl) ?_
  intro p e s m args below meth c io0 hx hin hno
  have hx : aCx p l s m args meth c RX3 cX3_starAt 2 (some (.object "AsteroTone$Star")) E := hx
  have hX := hC.1
  have hn6 := hC.2.1
  have hc40 := hC.2.2.1
  refine g_iloadG_n hx dX3_starAt_0 rfl (nx := 1) rfl rfl ?_
  refine g_if_lt hx dX3_starAt_1 (tg := 21) (by decide) (nx := 4) rfl (fun c1 => ?_) (fun c1 => ?_)
  · refine g_throwW hx th_X3_257_259_261 dX3_starAt_21 dX3_starAt_24 dX3_starAt_25 dX3_starAt_28 dX3_starAt_31 hno (Nat.le_of_ble_eq_true rfl) (Nat.le_of_ble_eq_true rfl) (Nat.le_of_ble_eq_true rfl) (Nat.le_of_ble_eq_true rfl) (Nat.le_of_ble_eq_true rfl) (Nat.le_of_ble_eq_true rfl) ?_
    first | exact h2 (not_inN_lt c1 (by omega)) | exact h2 (not_inN_ge (by rw [← hC.i1]; exact c9) (by omega))
  · refine g_iloadG_n hx dX3_starAt_4 rfl (nx := 5) rfl rfl ?_
    refine g_aloadG_n hx dX3_starAt_5 rfl (nx := 6) rfl rfl ?_
    refine g_getfo_i hx dX3_starAt_6 (nx := 9) rfl fa_X3_66 rfl (hX.1 0 _ rfl) (by decide) ?_
    refine g_icmp_ge hx dX3_starAt_9 (tg := 21) (by decide) (nx := 12) rfl (fun c9 => ?_) (fun c9 => ?_)
    · refine g_throwW hx th_X3_257_259_261 dX3_starAt_21 dX3_starAt_24 dX3_starAt_25 dX3_starAt_28 dX3_starAt_31 hno (Nat.le_of_ble_eq_true rfl) (Nat.le_of_ble_eq_true rfl) (Nat.le_of_ble_eq_true rfl) (Nat.le_of_ble_eq_true rfl) (Nat.le_of_ble_eq_true rfl) (Nat.le_of_ble_eq_true rfl) ?_
      first | exact h2 (not_inN_lt c1 (by omega)) | exact h2 (not_inN_ge (by rw [← hC.i1]; exact c9) (by omega))
    · obtain ⟨k, hk9, ek⟩ := inN_of c1 (by rw [← hC.i1]; exact c9) (by omega)
      have hkc : (nI k).toNatClampNeg = k := nI_clamp (by omega)
      have hin9 : vp_in x 6 := by rw [ek]; exact vp_in_nI (by omega) (by decide)
      refine g_aloadG_n hx dX3_starAt_12 rfl (nx := 13) rfl rfl ?_
      refine g_getfo_R hx dX3_starAt_13 (nx := 16) rfl fa_X3_11 rfl (r9 := 4) hX.2.1 (hX.1 0 _ rfl) (by decide) ?_
      refine g_iloadG_n hx dX3_starAt_16 rfl (nx := 17) rfl rfl ?_
      refine g_aaloadStar_R hx dX3_starAt_17 (nx := 18) rfl (hX.1 1 _ rfl) (by decide) hin9 (r9 := 200 + 8 * k) (by rw [ek, hkc]; exact hC.r4 hk9) ?_
      refine g_ifnonnull_R hx dX3_starAt_18 (tg := 32) (by decide) (nx := 21) rfl ?_
      refine g_aloadG_n hx dX3_starAt_32 rfl (nx := 33) rfl rfl ?_
      refine g_getfo_R hx dX3_starAt_33 (nx := 36) rfl fa_X3_11 rfl (r9 := 4) hX.2.1 (hX.1 0 _ rfl) (by decide) ?_
      refine g_iloadG_n hx dX3_starAt_36 rfl (nx := 37) rfl rfl ?_
      refine g_aaloadStar_R hx dX3_starAt_37 (nx := 38) rfl (hX.1 1 _ rfl) (by decide) hin9 (r9 := 200 + 8 * k) (by rw [ek, hkc]; exact hC.r4 hk9) ?_
      refine g_aret hx dX3_starAt_38 rfl (Nat.le_of_ble_eq_true rfl) (Nat.le_of_ble_eq_true rfl) ?_
      exact h1 k hk9 ek

abbrev rmX3_claimAt : Room := { frames := 6, cells := 1, slots := 6, locals := 90 }
set_option maxHeartbeats 4000000 in
set_option maxRecDepth 100000 in
theorem s_X3_claimAt {l : Launch} {E : aE} {S : aS} {I : aI} {L : aL} {Rf : aR} {Kr : aK} {Kx : aX} (hst : l.stackTraces = false) {n nc : Nat} {x : Int32} (hC : lyC S Rf I n nc) (h1 : ∀ k, k < nc → x = nI k → Kr (some (.ref (100 + k))) S I L Rf) (h2 : ¬ inN x nc → Kx eIO S I L Rf) : aMet l E yX3_claimAt cX3_claimAt 2 (some (.object "AsteroTone$Claim")) rmX3_claimAt [.ref 3, .int x] (S) (I) (L) (Rf) Kr Kx := by
  refine aMet.of (lv0 := [.ref 3, .int x]) (z := 0) (by decide +kernel) hst rfl (Nat.le_of_ble_eq_true rfl) ?_
  intro p e s m args below meth c io0 hx hin hno
  have hx : aCx p l s m args meth c RX3 cX3_claimAt 2 (some (.object "AsteroTone$Claim")) E := hx
  have hX := hC.1
  have hn6 := hC.2.1
  have hc40 := hC.2.2.1
  refine g_iloadG_n hx dX3_claimAt_0 rfl (nx := 1) rfl rfl ?_
  refine g_if_lt hx dX3_claimAt_1 (tg := 21) (by decide) (nx := 4) rfl (fun c1 => ?_) (fun c1 => ?_)
  · refine g_throwW hx th_X3_257_262_261 dX3_claimAt_21 dX3_claimAt_24 dX3_claimAt_25 dX3_claimAt_28 dX3_claimAt_31 hno (Nat.le_of_ble_eq_true rfl) (Nat.le_of_ble_eq_true rfl) (Nat.le_of_ble_eq_true rfl) (Nat.le_of_ble_eq_true rfl) (Nat.le_of_ble_eq_true rfl) (Nat.le_of_ble_eq_true rfl) ?_
    first | exact h2 (not_inN_lt c1 (by omega)) | exact h2 (not_inN_ge (by rw [← hC.i6]; exact c9) (by omega))
  · refine g_iloadG_n hx dX3_claimAt_4 rfl (nx := 5) rfl rfl ?_
    refine g_aloadG_n hx dX3_claimAt_5 rfl (nx := 6) rfl rfl ?_
    refine g_getfo_i hx dX3_claimAt_6 (nx := 9) rfl fa_X3_198 rfl (hX.1 0 _ rfl) (by decide) ?_
    refine g_icmp_ge hx dX3_claimAt_9 (tg := 21) (by decide) (nx := 12) rfl (fun c9 => ?_) (fun c9 => ?_)
    · refine g_throwW hx th_X3_257_262_261 dX3_claimAt_21 dX3_claimAt_24 dX3_claimAt_25 dX3_claimAt_28 dX3_claimAt_31 hno (Nat.le_of_ble_eq_true rfl) (Nat.le_of_ble_eq_true rfl) (Nat.le_of_ble_eq_true rfl) (Nat.le_of_ble_eq_true rfl) (Nat.le_of_ble_eq_true rfl) (Nat.le_of_ble_eq_true rfl) ?_
      first | exact h2 (not_inN_lt c1 (by omega)) | exact h2 (not_inN_ge (by rw [← hC.i6]; exact c9) (by omega))
    · obtain ⟨k, hk9, ek⟩ := inN_of c1 (by rw [← hC.i6]; exact c9) (by omega)
      have hkc : (nI k).toNatClampNeg = k := nI_clamp (by omega)
      have hin9 : vp_in x 40 := by rw [ek]; exact vp_in_nI (by omega) (by decide)
      refine g_aloadG_n hx dX3_claimAt_12 rfl (nx := 13) rfl rfl ?_
      refine g_getfo_R hx dX3_claimAt_13 (nx := 16) rfl fa_X3_30 rfl (r9 := 6) hX.2.2.2.1 (hX.1 0 _ rfl) (by decide) ?_
      refine g_iloadG_n hx dX3_claimAt_16 rfl (nx := 17) rfl rfl ?_
      refine g_aaloadClaim_R hx dX3_claimAt_17 (nx := 18) rfl (hX.1 3 _ rfl) (by decide) hin9 (r9 := 100 + k) (by rw [ek, hkc]; exact (hC.cl hk9).2) ?_
      refine g_ifnonnull_R hx dX3_claimAt_18 (tg := 32) (by decide) (nx := 21) rfl ?_
      refine g_aloadG_n hx dX3_claimAt_32 rfl (nx := 33) rfl rfl ?_
      refine g_getfo_R hx dX3_claimAt_33 (nx := 36) rfl fa_X3_30 rfl (r9 := 6) hX.2.2.2.1 (hX.1 0 _ rfl) (by decide) ?_
      refine g_iloadG_n hx dX3_claimAt_36 rfl (nx := 37) rfl rfl ?_
      refine g_aaloadClaim_R hx dX3_claimAt_37 (nx := 38) rfl (hX.1 3 _ rfl) (by decide) hin9 (r9 := 100 + k) (by rw [ek, hkc]; exact (hC.cl hk9).2) ?_
      refine g_aret hx dX3_claimAt_38 rfl (Nat.le_of_ble_eq_true rfl) (Nat.le_of_ble_eq_true rfl) ?_
      exact h1 k hk9 ek

abbrev rmX3_lookForSite : Room := { frames := 6, cells := 1, slots := 6, locals := 90 }
set_option maxHeartbeats 4000000 in
set_option maxRecDepth 100000 in
theorem s_X3_lookForSite {l : Launch} {E : aE} {S : aS} {I : aI} {L : aL} {Rf : aR} {Kr : aK} {Kx : aX} (hst : l.stackTraces = false) {x : Int32} (h1 : ∀ k, k < 4 → x = nI k → Kr none S I L Rf) (h2 : ¬ inN x 4 → Kx eIO S I L Rf) : aMet l E yX3_lookForSite cX3_lookForSite 1 none rmX3_lookForSite [.int x] (S) (I) (L) (Rf) Kr Kx := by
  refine aMet.of (lv0 := [.int x]) (z := 0) (by decide +kernel) hst rfl (Nat.le_of_ble_eq_true rfl) ?_
  intro p e s m args below meth c io0 hx hin hno
  have hx : aCx p l s m args meth c RX3 cX3_lookForSite 1 none E := hx
  refine g_iloadG_n hx dX3_lookForSite_0 rfl (nx := 1) rfl rfl ?_
  refine g_iconst hx dX3_lookForSite_1 (nx := 2) rfl (v := 0) (by decide) ?_
  refine g_iconst hx dX3_lookForSite_2 (nx := 3) rfl (v := 3) (by decide) ?_
  refine g_callS_M hx [_, _, _] (k' := 0) (n' := 0) dX3_lookForSite_3 (nx := 6) rfl lk_X3_41 rfl (Nat.le_of_ble_eq_true rfl) (Nat.le_of_ble_eq_true rfl) (Nat.le_of_ble_eq_true rfl) (Nat.le_of_ble_eq_true rfl) (Nat.le_of_ble_eq_true rfl) (Nat.le_of_ble_eq_true rfl) (Nat.le_of_ble_eq_true rfl) (s_X3_isOutside hst ?_)
  refine g_if_eq hx dX3_lookForSite_6 (tg := 20) (by decide) (nx := 9) rfl (fun c6 => ?_) (fun c6 => ?_)
  · refine g_vret hx dX3_lookForSite_20 rfl (Nat.le_of_ble_eq_true rfl) (Nat.le_of_ble_eq_true rfl) ?_
    obtain ⟨k, hk9, ek⟩ := rgN_in.mp ((iout_z (x := x) (lo := 0) (hi := 3) (by decide) (by decide)).mp c6)
    exact h1 k hk9 ek
  · refine g_throwW hx th_X3_257_264_261 dX3_lookForSite_9 dX3_lookForSite_12 dX3_lookForSite_13 dX3_lookForSite_16 dX3_lookForSite_19 hno (Nat.le_of_ble_eq_true rfl) (Nat.le_of_ble_eq_true rfl) (Nat.le_of_ble_eq_true rfl) (Nat.le_of_ble_eq_true rfl) (Nat.le_of_ble_eq_true rfl) (Nat.le_of_ble_eq_true rfl) ?_
    exact h2 (fun q => c6 ((iout_z (x := x) (lo := 0) (hi := 3) (by decide) (by decide)).mpr (rgN_in.mpr q)))

abbrev rmX3_lookForFilter : Room := { frames := 6, cells := 1, slots := 6, locals := 90 }
set_option maxHeartbeats 4000000 in
set_option maxRecDepth 100000 in
theorem s_X3_lookForFilter {l : Launch} {E : aE} {S : aS} {I : aI} {L : aL} {Rf : aR} {Kr : aK} {Kx : aX} (hst : l.stackTraces = false) {x : Int32} (h1 : ∀ k, k < 3 → x = nI k → Kr none S I L Rf) (h2 : ¬ inN x 3 → Kx eIO S I L Rf) : aMet l E yX3_lookForFilter cX3_lookForFilter 1 none rmX3_lookForFilter [.int x] (S) (I) (L) (Rf) Kr Kx := by
  refine aMet.of (lv0 := [.int x]) (z := 0) (by decide +kernel) hst rfl (Nat.le_of_ble_eq_true rfl) ?_
  intro p e s m args below meth c io0 hx hin hno
  have hx : aCx p l s m args meth c RX3 cX3_lookForFilter 1 none E := hx
  refine g_iloadG_n hx dX3_lookForFilter_0 rfl (nx := 1) rfl rfl ?_
  refine g_iconst hx dX3_lookForFilter_1 (nx := 2) rfl (v := 0) (by decide) ?_
  refine g_iconst hx dX3_lookForFilter_2 (nx := 3) rfl (v := 2) (by decide) ?_
  refine g_callS_M hx [_, _, _] (k' := 0) (n' := 0) dX3_lookForFilter_3 (nx := 6) rfl lk_X3_41 rfl (Nat.le_of_ble_eq_true rfl) (Nat.le_of_ble_eq_true rfl) (Nat.le_of_ble_eq_true rfl) (Nat.le_of_ble_eq_true rfl) (Nat.le_of_ble_eq_true rfl) (Nat.le_of_ble_eq_true rfl) (Nat.le_of_ble_eq_true rfl) (s_X3_isOutside hst ?_)
  refine g_if_eq hx dX3_lookForFilter_6 (tg := 20) (by decide) (nx := 9) rfl (fun c6 => ?_) (fun c6 => ?_)
  · refine g_vret hx dX3_lookForFilter_20 rfl (Nat.le_of_ble_eq_true rfl) (Nat.le_of_ble_eq_true rfl) ?_
    obtain ⟨k, hk9, ek⟩ := rgN_in.mp ((iout_z (x := x) (lo := 0) (hi := 2) (by decide) (by decide)).mp c6)
    exact h1 k hk9 ek
  · refine g_throwW hx th_X3_257_266_261 dX3_lookForFilter_9 dX3_lookForFilter_12 dX3_lookForFilter_13 dX3_lookForFilter_16 dX3_lookForFilter_19 hno (Nat.le_of_ble_eq_true rfl) (Nat.le_of_ble_eq_true rfl) (Nat.le_of_ble_eq_true rfl) (Nat.le_of_ble_eq_true rfl) (Nat.le_of_ble_eq_true rfl) (Nat.le_of_ble_eq_true rfl) ?_
    exact h2 (fun q => c6 ((iout_z (x := x) (lo := 0) (hi := 2) (by decide) (by decide)).mpr (rgN_in.mpr q)))

abbrev rmX3_lookAtTime : Room := { frames := 6, cells := 1, slots := 6, locals := 90 }
set_option maxHeartbeats 4000000 in
set_option maxRecDepth 100000 in
theorem s_X3_lookAtTime {l : Launch} {E : aE} {S : aS} {I : aI} {L : aL} {Rf : aR} {Kr : aK} {Kx : aX} (hst : l.stackTraces = false) {x : Int32} (h1 : ∀ k, k < 256 → x = nI k → Kr none S I L Rf) (h2 : ¬ inN x 256 → Kx eIA S I L Rf) : aMet l E yX3_lookAtTime cX3_lookAtTime 1 none rmX3_lookAtTime [.int x] (S) (I) (L) (Rf) Kr Kx := by
  refine aMet.of (lv0 := [.int x]) (z := 0) (by decide +kernel) hst rfl (Nat.le_of_ble_eq_true rfl) ?_
  intro p e s m args below meth c io0 hx hin hno
  have hx : aCx p l s m args meth c RX3 cX3_lookAtTime 1 none E := hx
  refine g_iloadG_n hx dX3_lookAtTime_0 rfl (nx := 1) rfl rfl ?_
  refine g_iconst hx dX3_lookAtTime_1 (nx := 2) rfl (v := 0) (by decide) ?_
  refine g_sipush hx dX3_lookAtTime_2 (nx := 5) rfl (v := 255) (by decide) ?_
  refine g_callS_M hx [_, _, _] (k' := 0) (n' := 0) dX3_lookAtTime_5 (nx := 8) rfl lk_X3_41 rfl (Nat.le_of_ble_eq_true rfl) (Nat.le_of_ble_eq_true rfl) (Nat.le_of_ble_eq_true rfl) (Nat.le_of_ble_eq_true rfl) (Nat.le_of_ble_eq_true rfl) (Nat.le_of_ble_eq_true rfl) (Nat.le_of_ble_eq_true rfl) (s_X3_isOutside hst ?_)
  refine g_if_eq hx dX3_lookAtTime_8 (tg := 22) (by decide) (nx := 11) rfl (fun c8 => ?_) (fun c8 => ?_)
  · refine g_vret hx dX3_lookAtTime_22 rfl (Nat.le_of_ble_eq_true rfl) (Nat.le_of_ble_eq_true rfl) ?_
    obtain ⟨k, hk9, ek⟩ := rgN_in.mp ((iout_z (x := x) (lo := 0) (hi := 255) (by decide) (by decide)).mp c8)
    exact h1 k hk9 ek
  · refine g_throwW hx th_X3_45_268_49 dX3_lookAtTime_11 dX3_lookAtTime_14 dX3_lookAtTime_15 dX3_lookAtTime_18 dX3_lookAtTime_21 hno (Nat.le_of_ble_eq_true rfl) (Nat.le_of_ble_eq_true rfl) (Nat.le_of_ble_eq_true rfl) (Nat.le_of_ble_eq_true rfl) (Nat.le_of_ble_eq_true rfl) (Nat.le_of_ble_eq_true rfl) ?_
    exact h2 (fun q => c8 ((iout_z (x := x) (lo := 0) (hi := 255) (by decide) (by decide)).mpr (rgN_in.mpr q)))

abbrev rmX3_lookAtLine : Room := { frames := 6, cells := 1, slots := 6, locals := 90 }
set_option maxHeartbeats 4000000 in
set_option maxRecDepth 100000 in
theorem s_X3_lookAtLine {l : Launch} {E : aE} {S : aS} {I : aI} {L : aL} {Rf : aR} {Kr : aK} {Kx : aX} (hst : l.stackTraces = false) {x : Int32} (h1 : ∀ k, k < 32 → x = nI k → Kr none S I L Rf) (h2 : ¬ inN x 32 → Kx eIA S I L Rf) : aMet l E yX3_lookAtLine cX3_lookAtLine 1 none rmX3_lookAtLine [.int x] (S) (I) (L) (Rf) Kr Kx := by
  refine aMet.of (lv0 := [.int x]) (z := 0) (by decide +kernel) hst rfl (Nat.le_of_ble_eq_true rfl) ?_
  intro p e s m args below meth c io0 hx hin hno
  have hx : aCx p l s m args meth c RX3 cX3_lookAtLine 1 none E := hx
  refine g_iloadG_n hx dX3_lookAtLine_0 rfl (nx := 1) rfl rfl ?_
  refine g_iconst hx dX3_lookAtLine_1 (nx := 2) rfl (v := 0) (by decide) ?_
  refine g_bipush hx dX3_lookAtLine_2 (nx := 4) rfl (v := 31) (by decide) ?_
  refine g_callS_M hx [_, _, _] (k' := 0) (n' := 0) dX3_lookAtLine_4 (nx := 7) rfl lk_X3_41 rfl (Nat.le_of_ble_eq_true rfl) (Nat.le_of_ble_eq_true rfl) (Nat.le_of_ble_eq_true rfl) (Nat.le_of_ble_eq_true rfl) (Nat.le_of_ble_eq_true rfl) (Nat.le_of_ble_eq_true rfl) (Nat.le_of_ble_eq_true rfl) (s_X3_isOutside hst ?_)
  refine g_if_eq hx dX3_lookAtLine_7 (tg := 20) (by decide) (nx := 10) rfl (fun c7 => ?_) (fun c7 => ?_)
  · refine g_vret hx dX3_lookAtLine_20 rfl (Nat.le_of_ble_eq_true rfl) (Nat.le_of_ble_eq_true rfl) ?_
    obtain ⟨k, hk9, ek⟩ := rgN_in.mp ((iout_z (x := x) (lo := 0) (hi := 31) (by decide) (by decide)).mp c7)
    exact h1 k hk9 ek
  · refine g_throw hx th_X3_45_99_49 dX3_lookAtLine_10 dX3_lookAtLine_13 dX3_lookAtLine_14 dX3_lookAtLine_16 dX3_lookAtLine_19 hno (Nat.le_of_ble_eq_true rfl) (Nat.le_of_ble_eq_true rfl) (Nat.le_of_ble_eq_true rfl) (Nat.le_of_ble_eq_true rfl) (Nat.le_of_ble_eq_true rfl) (Nat.le_of_ble_eq_true rfl) ?_
    exact h2 (fun q => c7 ((iout_z (x := x) (lo := 0) (hi := 31) (by decide) (by decide)).mpr (rgN_in.mpr q)))

abbrev rmX3_lookForRoom : Room := { frames := 6, cells := 1, slots := 6, locals := 90 }
set_option maxHeartbeats 4000000 in
set_option maxRecDepth 100000 in
theorem s_X3_lookForRoom {l : Launch} {E : aE} {S : aS} {I : aI} {L : aL} {Rf : aR} {Kr : aK} {Kx : aX} (hst : l.stackTraces = false) {n nc : Nat} (hC : lyC S Rf I n nc) (h1 : nc < 40 → Kr none S I L Rf) (h2 : nc = 40 → Kx eIS S I L Rf) : aMet l E yX3_lookForRoom cX3_lookForRoom 1 none rmX3_lookForRoom [.ref 3] (S) (I) (L) (Rf) Kr Kx := by
  refine aMet.of (lv0 := [.ref 3]) (z := 0) (by decide +kernel) hst rfl (Nat.le_of_ble_eq_true rfl) ?_
  intro p e s m args below meth c io0 hx hin hno
  have hx : aCx p l s m args meth c RX3 cX3_lookForRoom 1 none E := hx
  have hX := hC.1
  refine g_aloadG_n hx dX3_lookForRoom_0 rfl (nx := 1) rfl rfl ?_
  refine g_getfo_i hx dX3_lookForRoom_1 (nx := 4) rfl fa_X3_198 rfl (hX.1 0 _ rfl) (by decide) ?_
  refine g_bipush hx dX3_lookForRoom_4 (nx := 6) rfl (v := 40) (by decide) ?_
  refine g_icmp_lt hx dX3_lookForRoom_6 (tg := 20) (by decide) (nx := 9) rfl (fun c6 => ?_) (fun c6 => ?_)
  · refine g_vret hx dX3_lookForRoom_20 rfl (Nat.le_of_ble_eq_true rfl) (Nat.le_of_ble_eq_true rfl) ?_
    exact h1 (Nat.not_le.mp (fun q => absurd (by rw [hC.i6] at c6; exact c6) (nI_nlt (a := nc) (b := 40) q (by have := hC.2.2.1; omega))))
  · refine g_throwW hx th_X3_55_270_59 dX3_lookForRoom_9 dX3_lookForRoom_12 dX3_lookForRoom_13 dX3_lookForRoom_16 dX3_lookForRoom_19 hno (Nat.le_of_ble_eq_true rfl) (Nat.le_of_ble_eq_true rfl) (Nat.le_of_ble_eq_true rfl) (Nat.le_of_ble_eq_true rfl) (Nat.le_of_ble_eq_true rfl) (Nat.le_of_ble_eq_true rfl) ?_
    exact h2 (Nat.le_antisymm hC.2.2.1 (Nat.not_lt.mp (fun q => c6 (by rw [hC.i6]; exact nI_lt (b := 40) q (by decide)))))

def bitL (x : Int32) : Int64 := 1 <<< (x.toInt64 &&& 63)
abbrev rmX3_bit : Room := { frames := 0, cells := 0, slots := 0, locals := 0 }
set_option maxHeartbeats 4000000 in
set_option maxRecDepth 100000 in
theorem s_X3_bit {l : Launch} {E : aE} {S : aS} {I : aI} {L : aL} {Rf : aR} {Kr : aK} {Kx : aX} (hst : l.stackTraces = false) {x : Int32} (hk : Kr (some (.long (bitL x))) S I L Rf) : aMet l E yX3_bit cX3_bit 1 (some .long) rmX3_bit [.int x] (S) (I) (L) (Rf) Kr Kx := by
  refine aMet.of (lv0 := [.int x]) (z := 0) (by decide +kernel) hst rfl (Nat.le_of_ble_eq_true rfl) ?_
  intro p e s m args below meth c io0 hx hin hno
  have hx : aCx p l s m args meth c RX3 cX3_bit 1 (some .long) E := hx
  refine g_lconst hx dX3_bit_0 (nx := 1) rfl (v := 1) (by decide) ?_
  refine g_iloadG_n hx dX3_bit_1 rfl (nx := 2) rfl rfl ?_
  refine g_lshl hx dX3_bit_2 (nx := 3) rfl ?_
  refine g_lret hx dX3_bit_3 rfl (Nat.le_of_ble_eq_true rfl) (Nat.le_of_ble_eq_true rfl) ?_
  exact hk

