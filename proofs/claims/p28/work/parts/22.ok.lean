/-! the class, called as it may be: no room is needed -/
abbrev rmX3_starAtk : Room := { frames := 0, cells := 0, slots := 0, locals := 0 }
set_option maxHeartbeats 4000000 in
set_option maxRecDepth 100000 in
theorem s_X3_starAtk {l : Launch} {E : aE} {S : aS} {I : aI} {L : aL} {Rf : aR} {Kr : aK} {Kx : aX} (hst : l.stackTraces = false) {n nc k : Nat} (hC : lyC S Rf I n nc) (hk9 : k < n) (hk : Kr (some (.ref (200 + 8 * k))) S I L Rf) : aMet l E yX3_starAt cX3_starAt 2 (some (.object "AsteroTone$Star")) rmX3_starAtk [.ref 3, .int (nI k)] (S) (I) (L) (Rf) Kr Kx := by
  refine aMet.of (lv0 := [.ref 3, .int (nI k)]) (z := 0) (by decide +kernel) hst rfl (Nat.le_of_ble_eq_true rfl) ?_
  intro p e s m args below meth c io0 hx hin hno
  have hx : aCx p l s m args meth c RX3 cX3_starAt 2 (some (.object "AsteroTone$Star")) E := hx
  have hX := hC.1
  have hn6 := hC.2.1
  have hc40 := hC.2.2.1
  have hkc : (nI k).toNatClampNeg = k := nI_clamp (by omega)
  have hin9 : vp_in (nI k) 6 := vp_in_nI (by omega) (by decide)
  refine g_iloadG_n hx dX3_starAt_0 rfl (nx := 1) rfl rfl ?_
  refine g_if_lt hx dX3_starAt_1 (tg := 21) (by decide) (nx := 4) rfl (fun c1 => ?_) (fun c1 => ?_)
  · exact absurd c1 (nI_pos (by omega))
  · refine g_iloadG_n hx dX3_starAt_4 rfl (nx := 5) rfl rfl ?_
    refine g_aloadG_n hx dX3_starAt_5 rfl (nx := 6) rfl rfl ?_
    refine g_getfo_i hx dX3_starAt_6 (nx := 9) rfl fa_X3_66 rfl (hX.1 0 _ rfl) (by decide) ?_
    refine g_icmp_ge hx dX3_starAt_9 (tg := 21) (by decide) (nx := 12) rfl (fun c9 => ?_) (fun c9 => ?_)
    · exact absurd c9 (by rw [hC.i1]; exact nI_ge hk9 (by omega))
    · refine g_aloadG_n hx dX3_starAt_12 rfl (nx := 13) rfl rfl ?_
      refine g_getfo_R hx dX3_starAt_13 (nx := 16) rfl fa_X3_11 rfl (r9 := 4) hX.2.1 (hX.1 0 _ rfl) (by decide) ?_
      refine g_iloadG_n hx dX3_starAt_16 rfl (nx := 17) rfl rfl ?_
      refine g_aaloadStar_R hx dX3_starAt_17 (nx := 18) rfl (hX.1 1 _ rfl) (by decide) hin9 (r9 := 200 + 8 * k) (by rw [hkc]; exact hC.r4 hk9) ?_
      refine g_ifnonnull_R hx dX3_starAt_18 (tg := 32) (by decide) (nx := 21) rfl ?_
      refine g_aloadG_n hx dX3_starAt_32 rfl (nx := 33) rfl rfl ?_
      refine g_getfo_R hx dX3_starAt_33 (nx := 36) rfl fa_X3_11 rfl (r9 := 4) hX.2.1 (hX.1 0 _ rfl) (by decide) ?_
      refine g_iloadG_n hx dX3_starAt_36 rfl (nx := 37) rfl rfl ?_
      refine g_aaloadStar_R hx dX3_starAt_37 (nx := 38) rfl (hX.1 1 _ rfl) (by decide) hin9 (r9 := 200 + 8 * k) (by rw [hkc]; exact hC.r4 hk9) ?_
      refine g_aret hx dX3_starAt_38 rfl (Nat.le_of_ble_eq_true rfl) (Nat.le_of_ble_eq_true rfl) ?_
      exact hk

abbrev rmX3_claimAtk : Room := { frames := 0, cells := 0, slots := 0, locals := 0 }
set_option maxHeartbeats 4000000 in
set_option maxRecDepth 100000 in
theorem s_X3_claimAtk {l : Launch} {E : aE} {S : aS} {I : aI} {L : aL} {Rf : aR} {Kr : aK} {Kx : aX} (hst : l.stackTraces = false) {n nc k : Nat} (hC : lyC S Rf I n nc) (hk9 : k < nc) (hk : Kr (some (.ref (100 + k))) S I L Rf) : aMet l E yX3_claimAt cX3_claimAt 2 (some (.object "AsteroTone$Claim")) rmX3_claimAtk [.ref 3, .int (nI k)] (S) (I) (L) (Rf) Kr Kx := by
  refine aMet.of (lv0 := [.ref 3, .int (nI k)]) (z := 0) (by decide +kernel) hst rfl (Nat.le_of_ble_eq_true rfl) ?_
  intro p e s m args below meth c io0 hx hin hno
  have hx : aCx p l s m args meth c RX3 cX3_claimAt 2 (some (.object "AsteroTone$Claim")) E := hx
  have hX := hC.1
  have hn6 := hC.2.1
  have hc40 := hC.2.2.1
  have hkc : (nI k).toNatClampNeg = k := nI_clamp (by omega)
  have hin9 : vp_in (nI k) 40 := vp_in_nI (by omega) (by decide)
  refine g_iloadG_n hx dX3_claimAt_0 rfl (nx := 1) rfl rfl ?_
  refine g_if_lt hx dX3_claimAt_1 (tg := 21) (by decide) (nx := 4) rfl (fun c1 => ?_) (fun c1 => ?_)
  · exact absurd c1 (nI_pos (by omega))
  · refine g_iloadG_n hx dX3_claimAt_4 rfl (nx := 5) rfl rfl ?_
    refine g_aloadG_n hx dX3_claimAt_5 rfl (nx := 6) rfl rfl ?_
    refine g_getfo_i hx dX3_claimAt_6 (nx := 9) rfl fa_X3_198 rfl (hX.1 0 _ rfl) (by decide) ?_
    refine g_icmp_ge hx dX3_claimAt_9 (tg := 21) (by decide) (nx := 12) rfl (fun c9 => ?_) (fun c9 => ?_)
    · exact absurd c9 (by rw [hC.i6]; exact nI_ge hk9 (by omega))
    · refine g_aloadG_n hx dX3_claimAt_12 rfl (nx := 13) rfl rfl ?_
      refine g_getfo_R hx dX3_claimAt_13 (nx := 16) rfl fa_X3_30 rfl (r9 := 6) hX.2.2.2.1 (hX.1 0 _ rfl) (by decide) ?_
      refine g_iloadG_n hx dX3_claimAt_16 rfl (nx := 17) rfl rfl ?_
      refine g_aaloadClaim_R hx dX3_claimAt_17 (nx := 18) rfl (hX.1 3 _ rfl) (by decide) hin9 (r9 := 100 + k) (by rw [hkc]; exact (hC.cl hk9).2) ?_
      refine g_ifnonnull_R hx dX3_claimAt_18 (tg := 32) (by decide) (nx := 21) rfl ?_
      refine g_aloadG_n hx dX3_claimAt_32 rfl (nx := 33) rfl rfl ?_
      refine g_getfo_R hx dX3_claimAt_33 (nx := 36) rfl fa_X3_30 rfl (r9 := 6) hX.2.2.2.1 (hX.1 0 _ rfl) (by decide) ?_
      refine g_iloadG_n hx dX3_claimAt_36 rfl (nx := 37) rfl rfl ?_
      refine g_aaloadClaim_R hx dX3_claimAt_37 (nx := 38) rfl (hX.1 3 _ rfl) (by decide) hin9 (r9 := 100 + k) (by rw [hkc]; exact (hC.cl hk9).2) ?_
      refine g_aret hx dX3_claimAt_38 rfl (Nat.le_of_ble_eq_true rfl) (Nat.le_of_ble_eq_true rfl) ?_
      exact hk

abbrev rmX3_lookForFilterk : Room := { frames := 1, cells := 0, slots := 0, locals := 22 }
set_option maxHeartbeats 4000000 in
set_option maxRecDepth 100000 in
theorem s_X3_lookForFilterk {l : Launch} {E : aE} {S : aS} {I : aI} {L : aL} {Rf : aR} {Kr : aK} {Kx : aX} (hst : l.stackTraces = false) {j : Nat} (hj9 : j < 3) (hk : Kr none S I L Rf) : aMet l E yX3_lookForFilter cX3_lookForFilter 1 none rmX3_lookForFilterk [.int (nI j)] (S) (I) (L) (Rf) Kr Kx := by
  refine aMet.of (lv0 := [.int (nI j)]) (z := 0) (by decide +kernel) hst rfl (Nat.le_of_ble_eq_true rfl) ?_
  intro p e s m args below meth c io0 hx hin hno
  have hx : aCx p l s m args meth c RX3 cX3_lookForFilter 1 none E := hx
  refine g_iloadG_n hx dX3_lookForFilter_0 rfl (nx := 1) rfl rfl ?_
  refine g_iconst hx dX3_lookForFilter_1 (nx := 2) rfl (v := 0) (by decide) ?_
  refine g_iconst hx dX3_lookForFilter_2 (nx := 3) rfl (v := 2) (by decide) ?_
  refine g_callS_M hx [_, _, _] (k' := 0) (n' := 0) dX3_lookForFilter_3 (nx := 6) rfl lk_X3_41 rfl (Nat.le_of_ble_eq_true rfl) (Nat.le_of_ble_eq_true rfl) (Nat.le_of_ble_eq_true rfl) (Nat.le_of_ble_eq_true rfl) (Nat.le_of_ble_eq_true rfl) (Nat.le_of_ble_eq_true rfl) (Nat.le_of_ble_eq_true rfl) (s_X3_isOutside hst ?_)
  refine g_if_eq hx dX3_lookForFilter_6 (tg := 20) (by decide) (nx := 9) rfl (fun c6 => ?_) (fun c6 => ?_)
  · refine g_vret hx dX3_lookForFilter_20 rfl (Nat.le_of_ble_eq_true rfl) (Nat.le_of_ble_eq_true rfl) ?_
    exact hk
  · exact absurd ((iout_z (x := nI j) (lo := 0) (hi := 2) (by decide) (by decide)).mpr (rgN_in.mpr ⟨j, hj9, rfl⟩)) c6

abbrev rmX3_lookAtTimek : Room := { frames := 1, cells := 0, slots := 0, locals := 22 }
set_option maxHeartbeats 4000000 in
set_option maxRecDepth 100000 in
theorem s_X3_lookAtTimek {l : Launch} {E : aE} {S : aS} {I : aI} {L : aL} {Rf : aR} {Kr : aK} {Kx : aX} (hst : l.stackTraces = false) {j : Nat} (hj9 : j < 256) (hk : Kr none S I L Rf) : aMet l E yX3_lookAtTime cX3_lookAtTime 1 none rmX3_lookAtTimek [.int (nI j)] (S) (I) (L) (Rf) Kr Kx := by
  refine aMet.of (lv0 := [.int (nI j)]) (z := 0) (by decide +kernel) hst rfl (Nat.le_of_ble_eq_true rfl) ?_
  intro p e s m args below meth c io0 hx hin hno
  have hx : aCx p l s m args meth c RX3 cX3_lookAtTime 1 none E := hx
  refine g_iloadG_n hx dX3_lookAtTime_0 rfl (nx := 1) rfl rfl ?_
  refine g_iconst hx dX3_lookAtTime_1 (nx := 2) rfl (v := 0) (by decide) ?_
  refine g_sipush hx dX3_lookAtTime_2 (nx := 5) rfl (v := 255) (by decide) ?_
  refine g_callS_M hx [_, _, _] (k' := 0) (n' := 0) dX3_lookAtTime_5 (nx := 8) rfl lk_X3_41 rfl (Nat.le_of_ble_eq_true rfl) (Nat.le_of_ble_eq_true rfl) (Nat.le_of_ble_eq_true rfl) (Nat.le_of_ble_eq_true rfl) (Nat.le_of_ble_eq_true rfl) (Nat.le_of_ble_eq_true rfl) (Nat.le_of_ble_eq_true rfl) (s_X3_isOutside hst ?_)
  refine g_if_eq hx dX3_lookAtTime_8 (tg := 22) (by decide) (nx := 11) rfl (fun c8 => ?_) (fun c8 => ?_)
  · refine g_vret hx dX3_lookAtTime_22 rfl (Nat.le_of_ble_eq_true rfl) (Nat.le_of_ble_eq_true rfl) ?_
    exact hk
  · exact absurd ((iout_z (x := nI j) (lo := 0) (hi := 255) (by decide) (by decide)).mpr (rgN_in.mpr ⟨j, hj9, rfl⟩)) c8

abbrev rmX3_lookAtLinek : Room := { frames := 1, cells := 0, slots := 0, locals := 22 }
set_option maxHeartbeats 4000000 in
set_option maxRecDepth 100000 in
theorem s_X3_lookAtLinek {l : Launch} {E : aE} {S : aS} {I : aI} {L : aL} {Rf : aR} {Kr : aK} {Kx : aX} (hst : l.stackTraces = false) {j : Nat} (hj9 : j < 32) (hk : Kr none S I L Rf) : aMet l E yX3_lookAtLine cX3_lookAtLine 1 none rmX3_lookAtLinek [.int (nI j)] (S) (I) (L) (Rf) Kr Kx := by
  refine aMet.of (lv0 := [.int (nI j)]) (z := 0) (by decide +kernel) hst rfl (Nat.le_of_ble_eq_true rfl) ?_
  intro p e s m args below meth c io0 hx hin hno
  have hx : aCx p l s m args meth c RX3 cX3_lookAtLine 1 none E := hx
  refine g_iloadG_n hx dX3_lookAtLine_0 rfl (nx := 1) rfl rfl ?_
  refine g_iconst hx dX3_lookAtLine_1 (nx := 2) rfl (v := 0) (by decide) ?_
  refine g_bipush hx dX3_lookAtLine_2 (nx := 4) rfl (v := 31) (by decide) ?_
  refine g_callS_M hx [_, _, _] (k' := 0) (n' := 0) dX3_lookAtLine_4 (nx := 7) rfl lk_X3_41 rfl (Nat.le_of_ble_eq_true rfl) (Nat.le_of_ble_eq_true rfl) (Nat.le_of_ble_eq_true rfl) (Nat.le_of_ble_eq_true rfl) (Nat.le_of_ble_eq_true rfl) (Nat.le_of_ble_eq_true rfl) (Nat.le_of_ble_eq_true rfl) (s_X3_isOutside hst ?_)
  refine g_if_eq hx dX3_lookAtLine_7 (tg := 20) (by decide) (nx := 10) rfl (fun c7 => ?_) (fun c7 => ?_)
  · refine g_vret hx dX3_lookAtLine_20 rfl (Nat.le_of_ble_eq_true rfl) (Nat.le_of_ble_eq_true rfl) ?_
    exact hk
  · exact absurd ((iout_z (x := nI j) (lo := 0) (hi := 31) (by decide) (by decide)).mpr (rgN_in.mpr ⟨j, hj9, rfl⟩)) c7

abbrev rmX3_ofStark : Room := { frames := 1, cells := 0, slots := 0, locals := 21 }
set_option maxHeartbeats 4000000 in
set_option maxRecDepth 100000 in
theorem s_X3_ofStar0 {l : Launch} {E : aE} {S : aS} {I : aI} {L : aL} {Rf : aR} {Kr : aK} {Kx : aX} (hst : l.stackTraces = false) {n nc k : Nat} (hC : lyC S Rf I n nc) (hk9 : k < n) (hk : Kr (some (.int (I (200 + 8 * k) 4))) S I L Rf) : aMet l E yX3_ofStar cX3_ofStar 4 (some .int) rmX3_ofStark [.ref 3, .int (nI k), .int (nI 0)] (S) (I) (L) (Rf) Kr Kx := by
  refine aMet.of (lv0 := [.ref 3, .int (nI k), .int (nI 0), aU]) (z := 1) (by decide +kernel) hst rfl (Nat.le_of_ble_eq_true rfl) ?_
  intro p e s m args below meth c io0 hx hin hno
  have hx : aCx p l s m args meth c RX3 cX3_ofStar 4 (some .int) E := hx
  have hX := hC.1
  refine g_aloadG_n hx dX3_ofStar_0 rfl (nx := 1) rfl rfl ?_
  refine g_iloadG_n hx dX3_ofStar_1 rfl (nx := 2) rfl rfl ?_
  refine g_callV_M hx [_] (k' := 0) (n' := 0) dX3_ofStar_2 (nx := 5) rfl lk_X3_75 (hX.1 0 _ rfl) (by decide) rfl rfl (Nat.le_of_ble_eq_true rfl) (Nat.le_of_ble_eq_true rfl) (Nat.le_of_ble_eq_true rfl) (Nat.le_of_ble_eq_true rfl) (Nat.le_of_ble_eq_true rfl) (Nat.le_of_ble_eq_true rfl) (Nat.le_of_ble_eq_true rfl) (s_X3_starAtk hst hC hk9 ?_)
  obtain ⟨b, hbe⟩ : ∃ b, b = 200 + 8 * k := ⟨_, rfl⟩
  rw [← hbe]
  have hB : lyS S Rf b := by rw [hbe]; exact hC.star (Nat.le_of_lt hk9)
  have hb := hB.2.2
  refine g_astore_3 hx dX3_ofStar_5 (nx := 6) rfl (by decide) rfl ?_
  refine g_iloadG_n hx dX3_ofStar_6 rfl (nx := 7) rfl rfl ?_
  refine g_tabIn hx dX3_ofStar_7 (off := 37) (tg := 44) (by decide) (by decide) (by decide) (by decide) ?_
  refine g_aloadG_n hx dX3_ofStar_44 rfl (nx := 45) rfl rfl ?_
  refine g_getfn_i hx dX3_ofStar_45 (nx := 48) rfl fa_X3_205 rfl (lyS.ob hB) (by omega) ?_
  refine g_iret hx dX3_ofStar_48 rfl rfl (Nat.le_of_ble_eq_true rfl) (Nat.le_of_ble_eq_true rfl) ?_
  subst hbe
  exact hk

set_option maxHeartbeats 4000000 in
set_option maxRecDepth 100000 in
theorem s_X3_ofStar1 {l : Launch} {E : aE} {S : aS} {I : aI} {L : aL} {Rf : aR} {Kr : aK} {Kx : aX} (hst : l.stackTraces = false) {n nc k : Nat} (hC : lyC S Rf I n nc) (hk9 : k < n) (hk : Kr (some (.int (I (200 + 8 * k) 5))) S I L Rf) : aMet l E yX3_ofStar cX3_ofStar 4 (some .int) rmX3_ofStark [.ref 3, .int (nI k), .int (nI 1)] (S) (I) (L) (Rf) Kr Kx := by
  refine aMet.of (lv0 := [.ref 3, .int (nI k), .int (nI 1), aU]) (z := 1) (by decide +kernel) hst rfl (Nat.le_of_ble_eq_true rfl) ?_
  intro p e s m args below meth c io0 hx hin hno
  have hx : aCx p l s m args meth c RX3 cX3_ofStar 4 (some .int) E := hx
  have hX := hC.1
  refine g_aloadG_n hx dX3_ofStar_0 rfl (nx := 1) rfl rfl ?_
  refine g_iloadG_n hx dX3_ofStar_1 rfl (nx := 2) rfl rfl ?_
  refine g_callV_M hx [_] (k' := 0) (n' := 0) dX3_ofStar_2 (nx := 5) rfl lk_X3_75 (hX.1 0 _ rfl) (by decide) rfl rfl (Nat.le_of_ble_eq_true rfl) (Nat.le_of_ble_eq_true rfl) (Nat.le_of_ble_eq_true rfl) (Nat.le_of_ble_eq_true rfl) (Nat.le_of_ble_eq_true rfl) (Nat.le_of_ble_eq_true rfl) (Nat.le_of_ble_eq_true rfl) (s_X3_starAtk hst hC hk9 ?_)
  obtain ⟨b, hbe⟩ : ∃ b, b = 200 + 8 * k := ⟨_, rfl⟩
  rw [← hbe]
  have hB : lyS S Rf b := by rw [hbe]; exact hC.star (Nat.le_of_lt hk9)
  have hb := hB.2.2
  refine g_astore_3 hx dX3_ofStar_5 (nx := 6) rfl (by decide) rfl ?_
  refine g_iloadG_n hx dX3_ofStar_6 rfl (nx := 7) rfl rfl ?_
  refine g_tabIn hx dX3_ofStar_7 (off := 42) (tg := 49) (by decide) (by decide) (by decide) (by decide) ?_
  refine g_aloadG_n hx dX3_ofStar_49 rfl (nx := 50) rfl rfl ?_
  refine g_getfn_i hx dX3_ofStar_50 (nx := 53) rfl fa_X3_206 rfl (lyS.ob hB) (by omega) ?_
  refine g_iret hx dX3_ofStar_53 rfl rfl (Nat.le_of_ble_eq_true rfl) (Nat.le_of_ble_eq_true rfl) ?_
  subst hbe
  exact hk

set_option maxHeartbeats 4000000 in
set_option maxRecDepth 100000 in
theorem s_X3_ofStar2 {l : Launch} {E : aE} {S : aS} {I : aI} {L : aL} {Rf : aR} {Kr : aK} {Kx : aX} (hst : l.stackTraces = false) {n nc k : Nat} (hC : lyC S Rf I n nc) (hk9 : k < n) (hk : Kr (some (.int (I (200 + 8 * k) 6))) S I L Rf) : aMet l E yX3_ofStar cX3_ofStar 4 (some .int) rmX3_ofStark [.ref 3, .int (nI k), .int (nI 2)] (S) (I) (L) (Rf) Kr Kx := by
  refine aMet.of (lv0 := [.ref 3, .int (nI k), .int (nI 2), aU]) (z := 1) (by decide +kernel) hst rfl (Nat.le_of_ble_eq_true rfl) ?_
  intro p e s m args below meth c io0 hx hin hno
  have hx : aCx p l s m args meth c RX3 cX3_ofStar 4 (some .int) E := hx
  have hX := hC.1
  refine g_aloadG_n hx dX3_ofStar_0 rfl (nx := 1) rfl rfl ?_
  refine g_iloadG_n hx dX3_ofStar_1 rfl (nx := 2) rfl rfl ?_
  refine g_callV_M hx [_] (k' := 0) (n' := 0) dX3_ofStar_2 (nx := 5) rfl lk_X3_75 (hX.1 0 _ rfl) (by decide) rfl rfl (Nat.le_of_ble_eq_true rfl) (Nat.le_of_ble_eq_true rfl) (Nat.le_of_ble_eq_true rfl) (Nat.le_of_ble_eq_true rfl) (Nat.le_of_ble_eq_true rfl) (Nat.le_of_ble_eq_true rfl) (Nat.le_of_ble_eq_true rfl) (s_X3_starAtk hst hC hk9 ?_)
  obtain ⟨b, hbe⟩ : ∃ b, b = 200 + 8 * k := ⟨_, rfl⟩
  rw [← hbe]
  have hB : lyS S Rf b := by rw [hbe]; exact hC.star (Nat.le_of_lt hk9)
  have hb := hB.2.2
  refine g_astore_3 hx dX3_ofStar_5 (nx := 6) rfl (by decide) rfl ?_
  refine g_iloadG_n hx dX3_ofStar_6 rfl (nx := 7) rfl rfl ?_
  refine g_tabIn hx dX3_ofStar_7 (off := 47) (tg := 54) (by decide) (by decide) (by decide) (by decide) ?_
  refine g_aloadG_n hx dX3_ofStar_54 rfl (nx := 55) rfl rfl ?_
  refine g_getfn_i hx dX3_ofStar_55 (nx := 58) rfl fa_X3_209 rfl (lyS.ob hB) (by omega) ?_
  refine g_iret hx dX3_ofStar_58 rfl rfl (Nat.le_of_ble_eq_true rfl) (Nat.le_of_ble_eq_true rfl) ?_
  subst hbe
  exact hk

set_option maxHeartbeats 4000000 in
set_option maxRecDepth 100000 in
theorem s_X3_ofStar3 {l : Launch} {E : aE} {S : aS} {I : aI} {L : aL} {Rf : aR} {Kr : aK} {Kx : aX} (hst : l.stackTraces = false) {n nc k : Nat} (hC : lyC S Rf I n nc) (hk9 : k < n) (hk : Kr (some (.int (I (200 + 8 * k) 7))) S I L Rf) : aMet l E yX3_ofStar cX3_ofStar 4 (some .int) rmX3_ofStark [.ref 3, .int (nI k), .int (nI 3)] (S) (I) (L) (Rf) Kr Kx := by
  refine aMet.of (lv0 := [.ref 3, .int (nI k), .int (nI 3), aU]) (z := 1) (by decide +kernel) hst rfl (Nat.le_of_ble_eq_true rfl) ?_
  intro p e s m args below meth c io0 hx hin hno
  have hx : aCx p l s m args meth c RX3 cX3_ofStar 4 (some .int) E := hx
  have hX := hC.1
  refine g_aloadG_n hx dX3_ofStar_0 rfl (nx := 1) rfl rfl ?_
  refine g_iloadG_n hx dX3_ofStar_1 rfl (nx := 2) rfl rfl ?_
  refine g_callV_M hx [_] (k' := 0) (n' := 0) dX3_ofStar_2 (nx := 5) rfl lk_X3_75 (hX.1 0 _ rfl) (by decide) rfl rfl (Nat.le_of_ble_eq_true rfl) (Nat.le_of_ble_eq_true rfl) (Nat.le_of_ble_eq_true rfl) (Nat.le_of_ble_eq_true rfl) (Nat.le_of_ble_eq_true rfl) (Nat.le_of_ble_eq_true rfl) (Nat.le_of_ble_eq_true rfl) (s_X3_starAtk hst hC hk9 ?_)
  obtain ⟨b, hbe⟩ : ∃ b, b = 200 + 8 * k := ⟨_, rfl⟩
  rw [← hbe]
  have hB : lyS S Rf b := by rw [hbe]; exact hC.star (Nat.le_of_lt hk9)
  have hb := hB.2.2
  refine g_astore_3 hx dX3_ofStar_5 (nx := 6) rfl (by decide) rfl ?_
  refine g_iloadG_n hx dX3_ofStar_6 rfl (nx := 7) rfl rfl ?_
  refine g_tabIn hx dX3_ofStar_7 (off := 52) (tg := 59) (by decide) (by decide) (by decide) (by decide) ?_
  refine g_aloadG_n hx dX3_ofStar_59 rfl (nx := 60) rfl rfl ?_
  refine g_getfn_i hx dX3_ofStar_60 (nx := 63) rfl fa_X3_212 rfl (lyS.ob hB) (by omega) ?_
  refine g_iret hx dX3_ofStar_63 rfl rfl (Nat.le_of_ble_eq_true rfl) (Nat.le_of_ble_eq_true rfl) ?_
  subst hbe
  exact hk

set_option maxHeartbeats 4000000 in
set_option maxRecDepth 100000 in
theorem s_X3_ofStar4 {l : Launch} {E : aE} {S : aS} {I : aI} {L : aL} {Rf : aR} {Kr : aK} {Kx : aX} (hst : l.stackTraces = false) {n nc k : Nat} (hC : lyC S Rf I n nc) (hk9 : k < n) (hk : Kr (some (.int (I (200 + 8 * k) 8))) S I L Rf) : aMet l E yX3_ofStar cX3_ofStar 4 (some .int) rmX3_ofStark [.ref 3, .int (nI k), .int (nI 4)] (S) (I) (L) (Rf) Kr Kx := by
  refine aMet.of (lv0 := [.ref 3, .int (nI k), .int (nI 4), aU]) (z := 1) (by decide +kernel) hst rfl (Nat.le_of_ble_eq_true rfl) ?_
  intro p e s m args below meth c io0 hx hin hno
  have hx : aCx p l s m args meth c RX3 cX3_ofStar 4 (some .int) E := hx
  have hX := hC.1
  refine g_aloadG_n hx dX3_ofStar_0 rfl (nx := 1) rfl rfl ?_
  refine g_iloadG_n hx dX3_ofStar_1 rfl (nx := 2) rfl rfl ?_
  refine g_callV_M hx [_] (k' := 0) (n' := 0) dX3_ofStar_2 (nx := 5) rfl lk_X3_75 (hX.1 0 _ rfl) (by decide) rfl rfl (Nat.le_of_ble_eq_true rfl) (Nat.le_of_ble_eq_true rfl) (Nat.le_of_ble_eq_true rfl) (Nat.le_of_ble_eq_true rfl) (Nat.le_of_ble_eq_true rfl) (Nat.le_of_ble_eq_true rfl) (Nat.le_of_ble_eq_true rfl) (s_X3_starAtk hst hC hk9 ?_)
  obtain ⟨b, hbe⟩ : ∃ b, b = 200 + 8 * k := ⟨_, rfl⟩
  rw [← hbe]
  have hB : lyS S Rf b := by rw [hbe]; exact hC.star (Nat.le_of_lt hk9)
  have hb := hB.2.2
  refine g_astore_3 hx dX3_ofStar_5 (nx := 6) rfl (by decide) rfl ?_
  refine g_iloadG_n hx dX3_ofStar_6 rfl (nx := 7) rfl rfl ?_
  refine g_tabIn hx dX3_ofStar_7 (off := 57) (tg := 64) (by decide) (by decide) (by decide) (by decide) ?_
  refine g_aloadG_n hx dX3_ofStar_64 rfl (nx := 65) rfl rfl ?_
  refine g_getfn_i hx dX3_ofStar_65 (nx := 68) rfl fa_X3_215 rfl (lyS.ob hB) (by omega) ?_
  refine g_iret hx dX3_ofStar_68 rfl rfl (Nat.le_of_ble_eq_true rfl) (Nat.le_of_ble_eq_true rfl) ?_
  subst hbe
  exact hk

set_option maxHeartbeats 4000000 in
set_option maxRecDepth 100000 in
theorem s_X3_ofStar5 {l : Launch} {E : aE} {S : aS} {I : aI} {L : aL} {Rf : aR} {Kr : aK} {Kx : aX} (hst : l.stackTraces = false) {n nc k : Nat} (hC : lyC S Rf I n nc) (hk9 : k < n) (hk : Kr (some (.int (I (200 + 8 * k) 9))) S I L Rf) : aMet l E yX3_ofStar cX3_ofStar 4 (some .int) rmX3_ofStark [.ref 3, .int (nI k), .int (nI 5)] (S) (I) (L) (Rf) Kr Kx := by
  refine aMet.of (lv0 := [.ref 3, .int (nI k), .int (nI 5), aU]) (z := 1) (by decide +kernel) hst rfl (Nat.le_of_ble_eq_true rfl) ?_
  intro p e s m args below meth c io0 hx hin hno
  have hx : aCx p l s m args meth c RX3 cX3_ofStar 4 (some .int) E := hx
  have hX := hC.1
  refine g_aloadG_n hx dX3_ofStar_0 rfl (nx := 1) rfl rfl ?_
  refine g_iloadG_n hx dX3_ofStar_1 rfl (nx := 2) rfl rfl ?_
  refine g_callV_M hx [_] (k' := 0) (n' := 0) dX3_ofStar_2 (nx := 5) rfl lk_X3_75 (hX.1 0 _ rfl) (by decide) rfl rfl (Nat.le_of_ble_eq_true rfl) (Nat.le_of_ble_eq_true rfl) (Nat.le_of_ble_eq_true rfl) (Nat.le_of_ble_eq_true rfl) (Nat.le_of_ble_eq_true rfl) (Nat.le_of_ble_eq_true rfl) (Nat.le_of_ble_eq_true rfl) (s_X3_starAtk hst hC hk9 ?_)
  obtain ⟨b, hbe⟩ : ∃ b, b = 200 + 8 * k := ⟨_, rfl⟩
  rw [← hbe]
  have hB : lyS S Rf b := by rw [hbe]; exact hC.star (Nat.le_of_lt hk9)
  have hb := hB.2.2
  refine g_astore_3 hx dX3_ofStar_5 (nx := 6) rfl (by decide) rfl ?_
  refine g_iloadG_n hx dX3_ofStar_6 rfl (nx := 7) rfl rfl ?_
  refine g_tabIn hx dX3_ofStar_7 (off := 62) (tg := 69) (by decide) (by decide) (by decide) (by decide) ?_
  refine g_aloadG_n hx dX3_ofStar_69 rfl (nx := 70) rfl rfl ?_
  refine g_getfn_i hx dX3_ofStar_70 (nx := 73) rfl fa_X3_218 rfl (lyS.ob hB) (by omega) ?_
  refine g_iret hx dX3_ofStar_73 rfl rfl (Nat.le_of_ble_eq_true rfl) (Nat.le_of_ble_eq_true rfl) ?_
  subst hbe
  exact hk

abbrev rmX3_ofClaimk : Room := { frames := 1, cells := 0, slots := 0, locals := 21 }
set_option maxHeartbeats 4000000 in
set_option maxRecDepth 100000 in
theorem s_X3_ofClaim0 {l : Launch} {E : aE} {S : aS} {I : aI} {L : aL} {Rf : aR} {Kr : aK} {Kx : aX} (hst : l.stackTraces = false) {n nc i : Nat} (hC : lyC S Rf I n nc) (ih : i < nc) (hk : Kr (some (.int (I (100 + i) 0))) S I L Rf) : aMet l E yX3_ofClaim cX3_ofClaim 4 (some .int) rmX3_ofClaimk [.ref 3, .int (nI i), .int (nI 0)] (S) (I) (L) (Rf) Kr Kx := by
  refine aMet.of (lv0 := [.ref 3, .int (nI i), .int (nI 0), aU]) (z := 1) (by decide +kernel) hst rfl (Nat.le_of_ble_eq_true rfl) ?_
  intro p e s m args below meth c io0 hx hin hno
  have hx : aCx p l s m args meth c RX3 cX3_ofClaim 4 (some .int) E := hx
  have hX := hC.1
  have hc40 := hC.2.2.1
  refine g_aloadG_n hx dX3_ofClaim_0 rfl (nx := 1) rfl rfl ?_
  refine g_iloadG_n hx dX3_ofClaim_1 rfl (nx := 2) rfl rfl ?_
  refine g_callV_M hx [_] (k' := 0) (n' := 0) dX3_ofClaim_2 (nx := 5) rfl lk_X3_139 (hX.1 0 _ rfl) (by decide) rfl rfl (Nat.le_of_ble_eq_true rfl) (Nat.le_of_ble_eq_true rfl) (Nat.le_of_ble_eq_true rfl) (Nat.le_of_ble_eq_true rfl) (Nat.le_of_ble_eq_true rfl) (Nat.le_of_ble_eq_true rfl) (Nat.le_of_ble_eq_true rfl) (s_X3_claimAtk hst hC ih ?_)
  obtain ⟨ic, ice⟩ : ∃ c, c = 100 + i := ⟨_, rfl⟩
  rw [← ice]
  have iS : S ic = some (.inr 0) := by rw [ice]; exact (hC.cl ih).1
  refine g_astore_3 hx dX3_ofClaim_5 (nx := 6) rfl (by decide) rfl ?_
  refine g_iloadG_n hx dX3_ofClaim_6 rfl (nx := 7) rfl rfl ?_
  refine g_tabIn hx dX3_ofClaim_7 (off := 37) (tg := 44) (by decide) (by decide) (by decide) (by decide) ?_
  refine g_aloadG_n hx dX3_ofClaim_44 rfl (nx := 45) rfl rfl ?_
  refine g_getfn_i hx dX3_ofClaim_45 (nx := 48) rfl fa_X3_143 rfl iS (by omega) ?_
  refine g_iret hx dX3_ofClaim_48 rfl rfl (Nat.le_of_ble_eq_true rfl) (Nat.le_of_ble_eq_true rfl) ?_
  subst ice
  exact hk

set_option maxHeartbeats 4000000 in
set_option maxRecDepth 100000 in
theorem s_X3_ofClaim1 {l : Launch} {E : aE} {S : aS} {I : aI} {L : aL} {Rf : aR} {Kr : aK} {Kx : aX} (hst : l.stackTraces = false) {n nc i : Nat} (hC : lyC S Rf I n nc) (ih : i < nc) (hk : Kr (some (.int (I (100 + i) 1))) S I L Rf) : aMet l E yX3_ofClaim cX3_ofClaim 4 (some .int) rmX3_ofClaimk [.ref 3, .int (nI i), .int (nI 1)] (S) (I) (L) (Rf) Kr Kx := by
  refine aMet.of (lv0 := [.ref 3, .int (nI i), .int (nI 1), aU]) (z := 1) (by decide +kernel) hst rfl (Nat.le_of_ble_eq_true rfl) ?_
  intro p e s m args below meth c io0 hx hin hno
  have hx : aCx p l s m args meth c RX3 cX3_ofClaim 4 (some .int) E := hx
  have hX := hC.1
  have hc40 := hC.2.2.1
  refine g_aloadG_n hx dX3_ofClaim_0 rfl (nx := 1) rfl rfl ?_
  refine g_iloadG_n hx dX3_ofClaim_1 rfl (nx := 2) rfl rfl ?_
  refine g_callV_M hx [_] (k' := 0) (n' := 0) dX3_ofClaim_2 (nx := 5) rfl lk_X3_139 (hX.1 0 _ rfl) (by decide) rfl rfl (Nat.le_of_ble_eq_true rfl) (Nat.le_of_ble_eq_true rfl) (Nat.le_of_ble_eq_true rfl) (Nat.le_of_ble_eq_true rfl) (Nat.le_of_ble_eq_true rfl) (Nat.le_of_ble_eq_true rfl) (Nat.le_of_ble_eq_true rfl) (s_X3_claimAtk hst hC ih ?_)
  obtain ⟨ic, ice⟩ : ∃ c, c = 100 + i := ⟨_, rfl⟩
  rw [← ice]
  have iS : S ic = some (.inr 0) := by rw [ice]; exact (hC.cl ih).1
  refine g_astore_3 hx dX3_ofClaim_5 (nx := 6) rfl (by decide) rfl ?_
  refine g_iloadG_n hx dX3_ofClaim_6 rfl (nx := 7) rfl rfl ?_
  refine g_tabIn hx dX3_ofClaim_7 (off := 42) (tg := 49) (by decide) (by decide) (by decide) (by decide) ?_
  refine g_aloadG_n hx dX3_ofClaim_49 rfl (nx := 50) rfl rfl ?_
  refine g_getfn_i hx dX3_ofClaim_50 (nx := 53) rfl fa_X3_148 rfl iS (by omega) ?_
  refine g_iret hx dX3_ofClaim_53 rfl rfl (Nat.le_of_ble_eq_true rfl) (Nat.le_of_ble_eq_true rfl) ?_
  subst ice
  exact hk

set_option maxHeartbeats 4000000 in
set_option maxRecDepth 100000 in
theorem s_X3_ofClaim2 {l : Launch} {E : aE} {S : aS} {I : aI} {L : aL} {Rf : aR} {Kr : aK} {Kx : aX} (hst : l.stackTraces = false) {n nc i : Nat} (hC : lyC S Rf I n nc) (ih : i < nc) (hk : Kr (some (.int (I (100 + i) 2))) S I L Rf) : aMet l E yX3_ofClaim cX3_ofClaim 4 (some .int) rmX3_ofClaimk [.ref 3, .int (nI i), .int (nI 2)] (S) (I) (L) (Rf) Kr Kx := by
  refine aMet.of (lv0 := [.ref 3, .int (nI i), .int (nI 2), aU]) (z := 1) (by decide +kernel) hst rfl (Nat.le_of_ble_eq_true rfl) ?_
  intro p e s m args below meth c io0 hx hin hno
  have hx : aCx p l s m args meth c RX3 cX3_ofClaim 4 (some .int) E := hx
  have hX := hC.1
  have hc40 := hC.2.2.1
  refine g_aloadG_n hx dX3_ofClaim_0 rfl (nx := 1) rfl rfl ?_
  refine g_iloadG_n hx dX3_ofClaim_1 rfl (nx := 2) rfl rfl ?_
  refine g_callV_M hx [_] (k' := 0) (n' := 0) dX3_ofClaim_2 (nx := 5) rfl lk_X3_139 (hX.1 0 _ rfl) (by decide) rfl rfl (Nat.le_of_ble_eq_true rfl) (Nat.le_of_ble_eq_true rfl) (Nat.le_of_ble_eq_true rfl) (Nat.le_of_ble_eq_true rfl) (Nat.le_of_ble_eq_true rfl) (Nat.le_of_ble_eq_true rfl) (Nat.le_of_ble_eq_true rfl) (s_X3_claimAtk hst hC ih ?_)
  obtain ⟨ic, ice⟩ : ∃ c, c = 100 + i := ⟨_, rfl⟩
  rw [← ice]
  have iS : S ic = some (.inr 0) := by rw [ice]; exact (hC.cl ih).1
  refine g_astore_3 hx dX3_ofClaim_5 (nx := 6) rfl (by decide) rfl ?_
  refine g_iloadG_n hx dX3_ofClaim_6 rfl (nx := 7) rfl rfl ?_
  refine g_tabIn hx dX3_ofClaim_7 (off := 47) (tg := 54) (by decide) (by decide) (by decide) (by decide) ?_
  refine g_aloadG_n hx dX3_ofClaim_54 rfl (nx := 55) rfl rfl ?_
  refine g_getfn_i hx dX3_ofClaim_55 (nx := 58) rfl fa_X3_151 rfl iS (by omega) ?_
  refine g_iret hx dX3_ofClaim_58 rfl rfl (Nat.le_of_ble_eq_true rfl) (Nat.le_of_ble_eq_true rfl) ?_
  subst ice
  exact hk

set_option maxHeartbeats 4000000 in
set_option maxRecDepth 100000 in
theorem s_X3_ofClaim3 {l : Launch} {E : aE} {S : aS} {I : aI} {L : aL} {Rf : aR} {Kr : aK} {Kx : aX} (hst : l.stackTraces = false) {n nc i : Nat} (hC : lyC S Rf I n nc) (ih : i < nc) (hk : Kr (some (.int (I (100 + i) 6))) S I L Rf) : aMet l E yX3_ofClaim cX3_ofClaim 4 (some .int) rmX3_ofClaimk [.ref 3, .int (nI i), .int (nI 3)] (S) (I) (L) (Rf) Kr Kx := by
  refine aMet.of (lv0 := [.ref 3, .int (nI i), .int (nI 3), aU]) (z := 1) (by decide +kernel) hst rfl (Nat.le_of_ble_eq_true rfl) ?_
  intro p e s m args below meth c io0 hx hin hno
  have hx : aCx p l s m args meth c RX3 cX3_ofClaim 4 (some .int) E := hx
  have hX := hC.1
  have hc40 := hC.2.2.1
  refine g_aloadG_n hx dX3_ofClaim_0 rfl (nx := 1) rfl rfl ?_
  refine g_iloadG_n hx dX3_ofClaim_1 rfl (nx := 2) rfl rfl ?_
  refine g_callV_M hx [_] (k' := 0) (n' := 0) dX3_ofClaim_2 (nx := 5) rfl lk_X3_139 (hX.1 0 _ rfl) (by decide) rfl rfl (Nat.le_of_ble_eq_true rfl) (Nat.le_of_ble_eq_true rfl) (Nat.le_of_ble_eq_true rfl) (Nat.le_of_ble_eq_true rfl) (Nat.le_of_ble_eq_true rfl) (Nat.le_of_ble_eq_true rfl) (Nat.le_of_ble_eq_true rfl) (s_X3_claimAtk hst hC ih ?_)
  obtain ⟨ic, ice⟩ : ∃ c, c = 100 + i := ⟨_, rfl⟩
  rw [← ice]
  have iS : S ic = some (.inr 0) := by rw [ice]; exact (hC.cl ih).1
  refine g_astore_3 hx dX3_ofClaim_5 (nx := 6) rfl (by decide) rfl ?_
  refine g_iloadG_n hx dX3_ofClaim_6 rfl (nx := 7) rfl rfl ?_
  refine g_tabIn hx dX3_ofClaim_7 (off := 52) (tg := 59) (by decide) (by decide) (by decide) (by decide) ?_
  refine g_aloadG_n hx dX3_ofClaim_59 rfl (nx := 60) rfl rfl ?_
  refine g_getfn_i hx dX3_ofClaim_60 (nx := 63) rfl fa_X3_172 rfl iS (by omega) ?_
  refine g_iret hx dX3_ofClaim_63 rfl rfl (Nat.le_of_ble_eq_true rfl) (Nat.le_of_ble_eq_true rfl) ?_
  subst ice
  exact hk

set_option maxHeartbeats 4000000 in
set_option maxRecDepth 100000 in
theorem s_X3_ofClaim4 {l : Launch} {E : aE} {S : aS} {I : aI} {L : aL} {Rf : aR} {Kr : aK} {Kx : aX} (hst : l.stackTraces = false) {n nc i : Nat} (hC : lyC S Rf I n nc) (ih : i < nc) (hk : Kr (some (.int (if I (100 + i) 8 = 0 then 0 else 1))) S I L Rf) : aMet l E yX3_ofClaim cX3_ofClaim 4 (some .int) rmX3_ofClaimk [.ref 3, .int (nI i), .int (nI 4)] (S) (I) (L) (Rf) Kr Kx := by
  refine aMet.of (lv0 := [.ref 3, .int (nI i), .int (nI 4), aU]) (z := 1) (by decide +kernel) hst rfl (Nat.le_of_ble_eq_true rfl) ?_
  intro p e s m args below meth c io0 hx hin hno
  have hx : aCx p l s m args meth c RX3 cX3_ofClaim 4 (some .int) E := hx
  have hX := hC.1
  have hc40 := hC.2.2.1
  refine g_aloadG_n hx dX3_ofClaim_0 rfl (nx := 1) rfl rfl ?_
  refine g_iloadG_n hx dX3_ofClaim_1 rfl (nx := 2) rfl rfl ?_
  refine g_callV_M hx [_] (k' := 0) (n' := 0) dX3_ofClaim_2 (nx := 5) rfl lk_X3_139 (hX.1 0 _ rfl) (by decide) rfl rfl (Nat.le_of_ble_eq_true rfl) (Nat.le_of_ble_eq_true rfl) (Nat.le_of_ble_eq_true rfl) (Nat.le_of_ble_eq_true rfl) (Nat.le_of_ble_eq_true rfl) (Nat.le_of_ble_eq_true rfl) (Nat.le_of_ble_eq_true rfl) (s_X3_claimAtk hst hC ih ?_)
  obtain ⟨ic, ice⟩ : ∃ c, c = 100 + i := ⟨_, rfl⟩
  rw [← ice]
  have iS : S ic = some (.inr 0) := by rw [ice]; exact (hC.cl ih).1
  refine g_astore_3 hx dX3_ofClaim_5 (nx := 6) rfl (by decide) rfl ?_
  refine g_iloadG_n hx dX3_ofClaim_6 rfl (nx := 7) rfl rfl ?_
  refine g_tabIn hx dX3_ofClaim_7 (off := 57) (tg := 64) (by decide) (by decide) (by decide) (by decide) ?_
  refine g_aloadG_n hx dX3_ofClaim_64 rfl (nx := 65) rfl rfl ?_
  refine g_getfn_i hx dX3_ofClaim_65 (nx := 68) rfl fa_X3_156 rfl iS (by omega) ?_
  refine g_if_eq hx dX3_ofClaim_68 (tg := 75) (by decide) (nx := 71) rfl (fun c68 => ?_) (fun c68 => ?_)
  · refine g_iconst hx dX3_ofClaim_75 (nx := 76) rfl (v := 0) (by decide) ?_
    refine g_iret hx dX3_ofClaim_76 rfl rfl (Nat.le_of_ble_eq_true rfl) (Nat.le_of_ble_eq_true rfl) ?_
    subst ice
    first | (rw [if_pos c68] at hk; exact hk) | (rw [if_neg c68] at hk; exact hk)
  · refine g_iconst hx dX3_ofClaim_71 (nx := 72) rfl (v := 1) (by decide) ?_
    refine g_goto hx dX3_ofClaim_72 (tg := 76) (by decide) ?_
    refine g_iret hx dX3_ofClaim_76 rfl rfl (Nat.le_of_ble_eq_true rfl) (Nat.le_of_ble_eq_true rfl) ?_
    subst ice
    first | (rw [if_pos c68] at hk; exact hk) | (rw [if_neg c68] at hk; exact hk)

set_option maxHeartbeats 4000000 in
set_option maxRecDepth 100000 in
theorem s_X3_ofClaim5 {l : Launch} {E : aE} {S : aS} {I : aI} {L : aL} {Rf : aR} {Kr : aK} {Kx : aX} (hst : l.stackTraces = false) {n nc i : Nat} (hC : lyC S Rf I n nc) (ih : i < nc) (hk : Kr (some (.int (bcnt (L (100 + i) 7)))) S I L Rf) : aMet l E yX3_ofClaim cX3_ofClaim 4 (some .int) rmX3_ofClaimk [.ref 3, .int (nI i), .int (nI 5)] (S) (I) (L) (Rf) Kr Kx := by
  refine aMet.of (lv0 := [.ref 3, .int (nI i), .int (nI 5), aU]) (z := 1) (by decide +kernel) hst rfl (Nat.le_of_ble_eq_true rfl) ?_
  intro p e s m args below meth c io0 hx hin hno
  have hx : aCx p l s m args meth c RX3 cX3_ofClaim 4 (some .int) E := hx
  have hX := hC.1
  have hc40 := hC.2.2.1
  refine g_aloadG_n hx dX3_ofClaim_0 rfl (nx := 1) rfl rfl ?_
  refine g_iloadG_n hx dX3_ofClaim_1 rfl (nx := 2) rfl rfl ?_
  refine g_callV_M hx [_] (k' := 0) (n' := 0) dX3_ofClaim_2 (nx := 5) rfl lk_X3_139 (hX.1 0 _ rfl) (by decide) rfl rfl (Nat.le_of_ble_eq_true rfl) (Nat.le_of_ble_eq_true rfl) (Nat.le_of_ble_eq_true rfl) (Nat.le_of_ble_eq_true rfl) (Nat.le_of_ble_eq_true rfl) (Nat.le_of_ble_eq_true rfl) (Nat.le_of_ble_eq_true rfl) (s_X3_claimAtk hst hC ih ?_)
  obtain ⟨ic, ice⟩ : ∃ c, c = 100 + i := ⟨_, rfl⟩
  rw [← ice]
  have iS : S ic = some (.inr 0) := by rw [ice]; exact (hC.cl ih).1
  refine g_astore_3 hx dX3_ofClaim_5 (nx := 6) rfl (by decide) rfl ?_
  refine g_iloadG_n hx dX3_ofClaim_6 rfl (nx := 7) rfl rfl ?_
  refine g_tabIn hx dX3_ofClaim_7 (off := 70) (tg := 77) (by decide) (by decide) (by decide) (by decide) ?_
  refine g_aloadG_n hx dX3_ofClaim_77 rfl (nx := 78) rfl rfl ?_
  refine g_getfn_l hx dX3_ofClaim_78 (nx := 81) rfl fa_X3_178 rfl iS (by omega) ?_
  refine g_callS_M hx [_] (k' := 0) (n' := 0) dX3_ofClaim_81 (nx := 84) rfl lk_X3_189 rfl (Nat.le_of_ble_eq_true rfl) (Nat.le_of_ble_eq_true rfl) (Nat.le_of_ble_eq_true rfl) (Nat.le_of_ble_eq_true rfl) (Nat.le_of_ble_eq_true rfl) (Nat.le_of_ble_eq_true rfl) (Nat.le_of_ble_eq_true rfl) (s_J13_bitCount_95d88 hst ?_)
  refine g_iret hx dX3_ofClaim_84 rfl rfl (Nat.le_of_ble_eq_true rfl) (Nat.le_of_ble_eq_true rfl) ?_
  subst ice
  exact hk

abbrev rmX3_valuek : Room := { frames := 5, cells := 0, slots := 0, locals := 117 }
set_option maxHeartbeats 4000000 in
set_option maxRecDepth 100000 in
theorem s_X3_valuek {l : Launch} {E : aE} {S : aS} {I : aI} {L : aL} {Rf : aR} {Kr : aK} {Kx : aX} (hst : l.stackTraces = false) {n nc k j t oo : Nat} (hC : lyC S Rf I n nc) (hk9 : k < n) (hj9 : j < 3) (ht9 : t < 256) (hsi : ∀ t, t < 256 → vp_in (I (200 + 8 * k + 5) t) 4) (ho : I (200 + 8 * k) 13 = nI oo) (ho6 : oo ≤ 6) (hk : ∀ I' L', eqX I' I → eqX L' L → Kr (some (.int (if prs I (200 + 8 * k) t = true then laid I (200 + 8 * k) (nI j) oo t else 0).toInt32)) S I' L' Rf) : aMet l E yX3_value cX3_value 5 (some .int) rmX3_valuek [.ref 3, .int (nI k), .int (nI j), .int (nI t)] (S) (I) (L) (Rf) Kr Kx := by
  refine aMet.of (lv0 := [.ref 3, .int (nI k), .int (nI j), .int (nI t), aU]) (z := 1) (by decide +kernel) hst rfl (Nat.le_of_ble_eq_true rfl) ?_
  intro p e s m args below meth c io0 hx hin hno
  have hx : aCx p l s m args meth c RX3 cX3_value 5 (some .int) E := hx
  have hX := hC.1
  refine g_aloadG_n hx dX3_value_0 rfl (nx := 1) rfl rfl ?_
  refine g_iloadG_n hx dX3_value_1 rfl (nx := 2) rfl rfl ?_
  refine g_callV_M hx [_] (k' := 0) (n' := 0) dX3_value_2 (nx := 5) rfl lk_X3_75 (hX.1 0 _ rfl) (by decide) rfl rfl (Nat.le_of_ble_eq_true rfl) (Nat.le_of_ble_eq_true rfl) (Nat.le_of_ble_eq_true rfl) (Nat.le_of_ble_eq_true rfl) (Nat.le_of_ble_eq_true rfl) (Nat.le_of_ble_eq_true rfl) (Nat.le_of_ble_eq_true rfl) (s_X3_starAtk hst hC hk9 ?_)
  obtain ⟨b, hbe⟩ : ∃ b, b = 200 + 8 * k := ⟨_, rfl⟩
  rw [← hbe]
  have hB : lyS S Rf b := by rw [hbe]; exact hC.star (Nat.le_of_lt hk9)
  have hb := hB.2.2
  refine g_astore_4 hx dX3_value_5 (nx := 7) rfl (by decide) rfl ?_
  refine g_iloadG_n hx dX3_value_7 rfl (nx := 8) rfl rfl ?_
  refine g_callS_M hx [_] (k' := 0) (n' := 0) dX3_value_8 (nx := 11) rfl lk_X3_109 rfl (Nat.le_of_ble_eq_true rfl) (Nat.le_of_ble_eq_true rfl) (Nat.le_of_ble_eq_true rfl) (Nat.le_of_ble_eq_true rfl) (Nat.le_of_ble_eq_true rfl) (Nat.le_of_ble_eq_true rfl) (Nat.le_of_ble_eq_true rfl) (s_X3_lookForFilterk hst hj9 ?_)
  refine g_iloadG_n hx dX3_value_11 rfl (nx := 12) rfl rfl ?_
  refine g_callS_M hx [_] (k' := 0) (n' := 0) dX3_value_12 (nx := 15) rfl lk_X3_82 rfl (Nat.le_of_ble_eq_true rfl) (Nat.le_of_ble_eq_true rfl) (Nat.le_of_ble_eq_true rfl) (Nat.le_of_ble_eq_true rfl) (Nat.le_of_ble_eq_true rfl) (Nat.le_of_ble_eq_true rfl) (Nat.le_of_ble_eq_true rfl) (s_X3_lookAtTimek hst ht9 ?_)
  refine g_aloadG_n hx dX3_value_15 rfl (nx := 16) rfl rfl ?_
  refine g_getfo_R hx dX3_value_16 (nx := 19) rfl fa_X3_37 rfl (r9 := 7) hX.2.2.2.2.1 (hX.1 0 _ rfl) (by decide) ?_
  refine g_aloadG hx dX3_value_19 (nx := 21) rfl rfl ?_
  refine g_aloadG_n hx dX3_value_21 rfl (nx := 22) rfl rfl ?_
  refine g_getfo_R hx dX3_value_22 (nx := 25) rfl fa_X3_20 rfl (r9 := 5) hX.2.2.1 (hX.1 0 _ rfl) (by decide) ?_
  refine g_iloadG_n hx dX3_value_25 rfl (nx := 26) rfl rfl ?_
  refine g_aloadG hx dX3_value_26 (nx := 28) rfl rfl ?_
  refine g_getfn_i hx dX3_value_28 (nx := 31) rfl fa_X3_101 rfl (lyS.ob hB) (by omega) ?_
  rw [show I b 13 = nI oo from by rw [hbe]; exact ho]
  refine g_callNV_M hx [_, _, _, _] (k' := 0) (n' := 0) dX3_value_31 (nx := 34) rfl lk_X3_240 (hX.1 4 _ rfl) (by decide) rfl rfl (Nat.le_of_ble_eq_true rfl) (Nat.le_of_ble_eq_true rfl) (Nat.le_of_ble_eq_true rfl) (Nat.le_of_ble_eq_true rfl) (Nat.le_of_ble_eq_true rfl) (Nat.le_of_ble_eq_true rfl) (Nat.le_of_ble_eq_true rfl) (s_X1_look (k := oo) hst hX hB (by rw [hbe]; exact hsi) ho6 (fun I' L' h1 h2 h3 => ?_))
  refine g_aloadG_n hx dX3_value_34 rfl (nx := 35) rfl rfl ?_
  refine g_getfo_R hx dX3_value_35 (nx := 38) rfl fa_X3_37 rfl (r9 := 7) hX.2.2.2.2.1 (hX.1 0 _ rfl) (by decide) ?_
  refine g_iloadG_n hx dX3_value_38 rfl (nx := 39) rfl rfl ?_
  refine g_callNV_M hx [_] (k' := 0) (n' := 0) dX3_value_39 (nx := 42) rfl lk_X3_244 (hX.1 4 _ rfl) (by decide) rfl rfl (Nat.le_of_ble_eq_true rfl) (Nat.le_of_ble_eq_true rfl) (Nat.le_of_ble_eq_true rfl) (Nat.le_of_ble_eq_true rfl) (Nat.le_of_ble_eq_true rfl) (Nat.le_of_ble_eq_true rfl) (Nat.le_of_ble_eq_true rfl) (s_X1_valueAt hst hX h3 ht9 ?_)
  refine g_l2i hx dX3_value_42 (nx := 43) rfl ?_
  refine g_iret hx dX3_value_43 rfl rfl (Nat.le_of_ble_eq_true rfl) (Nat.le_of_ble_eq_true rfl) ?_
  subst hbe
  exact hk I' L' h1 h2

abbrev rmX3_isPeakk : Room := { frames := 6, cells := 0, slots := 0, locals := 142 }
set_option maxHeartbeats 4000000 in
set_option maxRecDepth 100000 in
theorem s_X3_isPeakk {l : Launch} {E : aE} {S : aS} {I : aI} {L : aL} {Rf : aR} {Kr : aK} {Kx : aX} (hst : l.stackTraces = false) {n nc k j oo : Nat} {w : Int32} (hC : lyC S Rf I n nc) (hk9 : k < n) (hj9 : j < 3) (hsi : ∀ t, t < 256 → vp_in (I (200 + 8 * k + 5) t) 4) (ho : I (200 + 8 * k) 13 = nI oo) (ho6 : oo ≤ 6) (hk : ∀ r : Int32, (r = 1 ∧ rgN w 1 30 ∧ pkP I (200 + 8 * k) (nI j) oo w) ∨ (r = 0 ∧ ¬ (rgN w 1 30 ∧ pkP I (200 + 8 * k) (nI j) oo w)) → ∀ I' L', eqX I' I → eqX L' L → Kr (some (.int r)) S I' L' Rf) : aMet l E yX3_isPeak cX3_isPeak 5 (some .boolean) rmX3_isPeakk [.ref 3, .int (nI k), .int (nI j), .int w] (S) (I) (L) (Rf) Kr Kx := by
  refine aMet.of (lv0 := [.ref 3, .int (nI k), .int (nI j), .int w, aU]) (z := 1) (by decide +kernel) hst rfl (Nat.le_of_ble_eq_true rfl) ?_
  intro p e s m args below meth c io0 hx hin hno
  have hx : aCx p l s m args meth c RX3 cX3_isPeak 5 (some .boolean) E := hx
  have hX := hC.1
  refine g_aloadG_n hx dX3_isPeak_0 rfl (nx := 1) rfl rfl ?_
  refine g_iloadG_n hx dX3_isPeak_1 rfl (nx := 2) rfl rfl ?_
  refine g_callV_M hx [_] (k' := 0) (n' := 0) dX3_isPeak_2 (nx := 5) rfl lk_X3_75 (hX.1 0 _ rfl) (by decide) rfl rfl (Nat.le_of_ble_eq_true rfl) (Nat.le_of_ble_eq_true rfl) (Nat.le_of_ble_eq_true rfl) (Nat.le_of_ble_eq_true rfl) (Nat.le_of_ble_eq_true rfl) (Nat.le_of_ble_eq_true rfl) (Nat.le_of_ble_eq_true rfl) (s_X3_starAtk hst hC hk9 ?_)
  obtain ⟨b, hbe⟩ : ∃ b, b = 200 + 8 * k := ⟨_, rfl⟩
  rw [← hbe]
  have hB : lyS S Rf b := by rw [hbe]; exact hC.star (Nat.le_of_lt hk9)
  have hb := hB.2.2
  refine g_astore_4 hx dX3_isPeak_5 (nx := 7) rfl (by decide) rfl ?_
  refine g_iloadG_n hx dX3_isPeak_7 rfl (nx := 8) rfl rfl ?_
  refine g_callS_M hx [_] (k' := 0) (n' := 0) dX3_isPeak_8 (nx := 11) rfl lk_X3_109 rfl (Nat.le_of_ble_eq_true rfl) (Nat.le_of_ble_eq_true rfl) (Nat.le_of_ble_eq_true rfl) (Nat.le_of_ble_eq_true rfl) (Nat.le_of_ble_eq_true rfl) (Nat.le_of_ble_eq_true rfl) (Nat.le_of_ble_eq_true rfl) (s_X3_lookForFilterk hst hj9 ?_)
  refine g_aloadG_n hx dX3_isPeak_11 rfl (nx := 12) rfl rfl ?_
  refine g_aloadG hx dX3_isPeak_12 (nx := 14) rfl rfl ?_
  refine g_iloadG_n hx dX3_isPeak_14 rfl (nx := 15) rfl rfl ?_
  refine g_iloadG_n hx dX3_isPeak_15 rfl (nx := 16) rfl rfl ?_
  refine g_callV_M hx [_, _, _] (k' := 0) (n' := 0) dX3_isPeak_16 (nx := 19) rfl lk_X3_115 (hX.1 0 _ rfl) (by decide) rfl rfl (Nat.le_of_ble_eq_true rfl) (Nat.le_of_ble_eq_true rfl) (Nat.le_of_ble_eq_true rfl) (Nat.le_of_ble_eq_true rfl) (Nat.le_of_ble_eq_true rfl) (Nat.le_of_ble_eq_true rfl) (Nat.le_of_ble_eq_true rfl) (s_X3_standsOut (ok := oo) hst hC hB (by rw [hbe]; exact hsi) (by rw [hbe]; exact ho) ho6 (fun q => ?_) (fun q1 q2 I' L' h1 h2 => ?_) (fun q1 q2 I' L' h1 h2 h3 => ?_))
  · have hq := hk 0 (Or.inr ⟨rfl, fun z => q z.1⟩) I L (eqX.refl I) (eqX.refl L)
    refine g_iret hx dX3_isPeak_19 rfl rfl (Nat.le_of_ble_eq_true rfl) (Nat.le_of_ble_eq_true rfl) ?_
    exact hq
  · have hq := hk 0 (Or.inr ⟨rfl, fun z => q2 (by rw [hbe]; exact z.2)⟩) I' L' h1 h2
    refine g_iret hx dX3_isPeak_19 rfl rfl (Nat.le_of_ble_eq_true rfl) (Nat.le_of_ble_eq_true rfl) ?_
    exact hq
  · have hq := hk 1 (Or.inl ⟨rfl, q1, by rw [← hbe]; exact q2⟩) I' L' h1 h2
    refine g_iret hx dX3_isPeak_19 rfl rfl (Nat.le_of_ble_eq_true rfl) (Nat.le_of_ble_eq_true rfl) ?_
    exact hq

abbrev rmX3_isSoundk : Room := { frames := 6, cells := 0, slots := 0, locals := 139 }
set_option maxHeartbeats 4000000 in
set_option maxRecDepth 100000 in
theorem s_X3_isSoundk {l : Launch} {E : aE} {S : aS} {I : aI} {L : aL} {Rf : aR} {Kr : aK} {Kx : aX} (hst : l.stackTraces = false) {n nc i s9 d9 : Nat} {oo : Nat → Nat} (hC : lyC S Rf I n nc) (ih : i < nc) (hsi : ∀ k, k < n → ∀ t, t < 256 → vp_in (I (200 + 8 * k + 5) t) 4) (hoo : ∀ k, k < n → I (200 + 8 * k) 13 = nI (oo k) ∧ oo k ≤ 6) (hs9 : s9 < n) (h1c : I (100 + i) 1 = nI s9) (h4c : I (100 + i) 4 = nI d9) (hd9 : d9 ≤ 6) (hk : ∀ I' L', eqX I' I → eqX L' L → Kr (some (.int (zI (hlP I L (100 + i) (200 + 8 * s9) (min d9 (oo s9)))))) S I' L' Rf) : aMet l E yX3_isSound cX3_isSound 2 (some .boolean) rmX3_isSoundk [.ref 3, .int (nI i)] (S) (I) (L) (Rf) Kr Kx := by
  refine aMet.of (lv0 := [.ref 3, .int (nI i)]) (z := 0) (by decide +kernel) hst rfl (Nat.le_of_ble_eq_true rfl) ?_
  intro p e s m args below meth c io0 hx hin hno
  have hx : aCx p l s m args meth c RX3 cX3_isSound 2 (some .boolean) E := hx
  have hX := hC.1
  have hc40 := hC.2.2.1
  refine g_aloadG_n hx dX3_isSound_0 rfl (nx := 1) rfl rfl ?_
  refine g_aloadG_n hx dX3_isSound_1 rfl (nx := 2) rfl rfl ?_
  refine g_iloadG_n hx dX3_isSound_2 rfl (nx := 3) rfl rfl ?_
  refine g_callV_M hx [_] (k' := 0) (n' := 0) dX3_isSound_3 (nx := 6) rfl lk_X3_139 (hX.1 0 _ rfl) (by decide) rfl rfl (Nat.le_of_ble_eq_true rfl) (Nat.le_of_ble_eq_true rfl) (Nat.le_of_ble_eq_true rfl) (Nat.le_of_ble_eq_true rfl) (Nat.le_of_ble_eq_true rfl) (Nat.le_of_ble_eq_true rfl) (Nat.le_of_ble_eq_true rfl) (s_X3_claimAtk hst hC ih ?_)
  obtain ⟨ic, ice⟩ : ∃ c, c = 100 + i := ⟨_, rfl⟩
  rw [← ice]
  have iS : S ic = some (.inr 0) := by rw [ice]; exact (hC.cl ih).1
  refine g_callV_M hx [_] (k' := 0) (n' := 0) dX3_isSound_6 (nx := 9) rfl lk_X3_201 (hX.1 0 _ rfl) (by decide) rfl rfl (Nat.le_of_ble_eq_true rfl) (Nat.le_of_ble_eq_true rfl) (Nat.le_of_ble_eq_true rfl) (Nat.le_of_ble_eq_true rfl) (Nat.le_of_ble_eq_true rfl) (Nat.le_of_ble_eq_true rfl) (Nat.le_of_ble_eq_true rfl) (s_X3_holds (k := s9) (d := d9) (oo := oo) hst hC hsi hoo iS (by omega) hs9 (by rw [ice]; exact h1c) (by rw [ice]; exact h4c) hd9 (fun I' L' h1 h2 => ?_))
  refine g_iret hx dX3_isSound_9 rfl (zI_nar _) (Nat.le_of_ble_eq_true rfl) (Nat.le_of_ble_eq_true rfl) ?_
  subst ice
  exact hk I' L' h1 h2

