/-! the class, called as it may be: no room is needed -/
abbrev rmX3_starAtk : Room := { frames := 0, cells := 0, slots := 0, locals := 0 }
set_option maxHeartbeats 4000000 in
set_option maxRecDepth 100000 in
theorem s_X3_starAtk {l : Launch} {E : aE} {S : aS} {I : aI} {L : aL} {Rf : aR} {Kr : aK} {Kx : aX} (hst : l.stackTraces = false) {n nc k : Nat} (hC : lyC S Rf I n nc) (hk9 : k < n) (hk : Kr (some (.ref (200 + 8 * k))) S I L Rf) : aMet l E yX3_starAt cX3_starAt 2 (some (.object "AsteroTone$Star")) rmX3_starAtk [.ref 3, .int (nI k)] (S) (I) (L) (Rf) Kr Kx := by
  refine aMet.of (lv0 := [.ref 3, .int (nI k)]) (z := 0) (by decide +kernel) hst rfl (Nat.le_of_ble_eq_true rfl) ?_
  intro p e s m args below meth c io0 hx hin hno
  have hx : aCx p l s m args meth c RX3 cX3_starAt 2 (some (.object "AsteroTone$Star")) E := hx
  have hX := hC.1
  have hn6 := hC.2.1
  have hc40 := hC.2.2.1
  have hkc : (nI k).toNatClampNeg = k := nI_clamp (by omega)
  have hin9 : vp_in (nI k) 6 := vp_in_nI (by omega) (by decide)
  refine g_iloadG_n hx dX3_starAt_0 rfl (nx := 1) rfl rfl ?_
  refine g_if_lt hx dX3_starAt_1 (tg := 21) (by decide) (nx := 4) rfl (fun c1 => ?_) (fun c1 => ?_)
  · exact absurd c1 (nI_pos (by omega))
  · refine g_iloadG_n hx dX3_starAt_4 rfl (nx := 5) rfl rfl ?_
    refine g_aloadG_n hx dX3_starAt_5 rfl (nx := 6) rfl rfl ?_
    refine g_getfo_i hx dX3_starAt_6 (nx := 9) rfl fa_X3_66 rfl (hX.1 0 _ rfl) (by decide) ?_
    refine g_icmp_ge hx dX3_starAt_9 (tg := 21) (by decide) (nx := 12) rfl (fun c9 => ?_) (fun c9 => ?_)
    · exact absurd c9 (by rw [hC.i1]; exact nI_ge hk9 (by omega))
    · refine g_aloadG_n hx dX3_starAt_12 rfl (nx := 13) rfl rfl ?_
      refine g_getfo_R hx dX3_starAt_13 (nx := 16) rfl fa_X3_11 rfl (r9 := 4) hX.2.1 (hX.1 0 _ rfl) (by decide) ?_
      refine g_iloadG_n hx dX3_starAt_16 rfl (nx := 17) rfl rfl ?_
      refine g_aaloadStar_R hx dX3_starAt_17 (nx := 18) rfl (hX.1 1 _ rfl) (by decide) hin9 (r9 := 200 + 8 * k) (by rw [hkc]; exact hC.r4 hk9) ?_
      refine g_ifnonnull_R hx dX3_starAt_18 (tg := 32) (by decide) (nx := 21) rfl ?_
      refine g_aloadG_n hx dX3_starAt_32 rfl (nx := 33) rfl rfl ?_
      refine g_getfo_R hx dX3_starAt_33 (nx := 36) rfl fa_X3_11 rfl (r9 := 4) hX.2.1 (hX.1 0 _ rfl) (by decide) ?_
      refine g_iloadG_n hx dX3_starAt_36 rfl (nx := 37) rfl rfl ?_
      refine g_aaloadStar_R hx dX3_starAt_37 (nx := 38) rfl (hX.1 1 _ rfl) (by decide) hin9 (r9 := 200 + 8 * k) (by rw [hkc]; exact hC.r4 hk9) ?_
      refine g_aret hx dX3_starAt_38 rfl (Nat.le_of_ble_eq_true rfl) (Nat.le_of_ble_eq_true rfl) ?_
      exact hk

abbrev rmX3_claimAtk : Room := { frames := 0, cells := 0, slots := 0, locals := 0 }
set_option maxHeartbeats 4000000 in
set_option maxRecDepth 100000 in
theorem s_X3_claimAtk {l : Launch} {E : aE} {S : aS} {I : aI} {L : aL} {Rf : aR} {Kr : aK} {Kx : aX} (hst : l.stackTraces = false) {n nc k : Nat} (hC : lyC S Rf I n nc) (hk9 : k < nc) (hk : Kr (some (.ref (100 + k))) S I L Rf) : aMet l E yX3_claimAt cX3_claimAt 2 (some (.object "AsteroTone$Claim")) rmX3_claimAtk [.ref 3, .int (nI k)] (S) (I) (L) (Rf) Kr Kx := by
  refine aMet.of (lv0 := [.ref 3, .int (nI k)]) (z := 0) (by decide +kernel) hst rfl (Nat.le_of_ble_eq_true rfl) ?_
  intro p e s m args below meth c io0 hx hin hno
  have hx : aCx p l s m args meth c RX3 cX3_claimAt 2 (some (.object "AsteroTone$Claim")) E := hx
  have hX := hC.1
  have hn6 := hC.2.1
  have hc40 := hC.2.2.1
  have hkc : (nI k).toNatClampNeg = k := nI_clamp (by omega)
  have hin9 : vp_in (nI k) 40 := vp_in_nI (by omega) (by decide)
  refine g_iloadG_n hx dX3_claimAt_0 rfl (nx := 1) rfl rfl ?_
  refine g_if_lt hx dX3_claimAt_1 (tg := 21) (by decide) (nx := 4) rfl (fun c1 => ?_) (fun c1 => ?_)
  · exact absurd c1 (nI_pos (by omega))
  · refine g_iloadG_n hx dX3_claimAt_4 rfl (nx := 5) rfl rfl ?_
    refine g_aloadG_n hx dX3_claimAt_5 rfl (nx := 6) rfl rfl ?_
    refine g_getfo_i hx dX3_claimAt_6 (nx := 9) rfl fa_X3_198 rfl (hX.1 0 _ rfl) (by decide) ?_
    refine g_icmp_ge hx dX3_claimAt_9 (tg := 21) (by decide) (nx := 12) rfl (fun c9 => ?_) (fun c9 => ?_)
    · exact absurd c9 (by rw [hC.i6]; exact nI_ge hk9 (by omega))
    · refine g_aloadG_n hx dX3_claimAt_12 rfl (nx := 13) rfl rfl ?_
      refine g_getfo_R hx dX3_claimAt_13 (nx := 16) rfl fa_X3_30 rfl (r9 := 6) hX.2.2.2.1 (hX.1 0 _ rfl) (by decide) ?_
      refine g_iloadG_n hx dX3_claimAt_16 rfl (nx := 17) rfl rfl ?_
      refine g_aaloadClaim_R hx dX3_claimAt_17 (nx := 18) rfl (hX.1 3 _ rfl) (by decide) hin9 (r9 := 100 + k) (by rw [hkc]; exact (hC.cl hk9).2) ?_
      refine g_ifnonnull_R hx dX3_claimAt_18 (tg := 32) (by decide) (nx := 21) rfl ?_
      refine g_aloadG_n hx dX3_claimAt_32 rfl (nx := 33) rfl rfl ?_
      refine g_getfo_R hx dX3_claimAt_33 (nx := 36) rfl fa_X3_30 rfl (r9 := 6) hX.2.2.2.1 (hX.1 0 _ rfl) (by decide) ?_
      refine g_iloadG_n hx dX3_claimAt_36 rfl (nx := 37) rfl rfl ?_
      refine g_aaloadClaim_R hx dX3_claimAt_37 (nx := 38) rfl (hX.1 3 _ rfl) (by decide) hin9 (r9 := 100 + k) (by rw [hkc]; exact (hC.cl hk9).2) ?_
      refine g_aret hx dX3_claimAt_38 rfl (Nat.le_of_ble_eq_true rfl) (Nat.le_of_ble_eq_true rfl) ?_
      exact hk

abbrev rmX3_lookForFilterk : Room := { frames := 1, cells := 0, slots := 0, locals := 22 }
set_option maxHeartbeats 4000000 in
set_option maxRecDepth 100000 in
theorem s_X3_lookForFilterk {l : Launch} {E : aE} {S : aS} {I : aI} {L : aL} {Rf : aR} {Kr : aK} {Kx : aX} (hst : l.stackTraces = false) {j : Nat} (hj9 : j < 3) (hk : Kr none S I L Rf) : aMet l E yX3_lookForFilter cX3_lookForFilter 1 none rmX3_lookForFilterk [.int (nI j)] (S) (I) (L) (Rf) Kr Kx := by
  refine aMet.of (lv0 := [.int (nI j)]) (z := 0) (by decide +kernel) hst rfl (Nat.le_of_ble_eq_true rfl) ?_
  intro p e s m args below meth c io0 hx hin hno
  have hx : aCx p l s m args meth c RX3 cX3_lookForFilter 1 none E := hx
  refine g_iloadG_n hx dX3_lookForFilter_0 rfl (nx := 1) rfl rfl ?_
  refine g_iconst hx dX3_lookForFilter_1 (nx := 2) rfl (v := 0) (by decide) ?_
  refine g_iconst hx dX3_lookForFilter_2 (nx := 3) rfl (v := 2) (by decide) ?_
  refine g_callS_M hx [_, _, _] (k' := 0) (n' := 0) dX3_lookForFilter_3 (nx := 6) rfl lk_X3_41 rfl (Nat.le_of_ble_eq_true rfl) (Nat.le_of_ble_eq_true rfl) (Nat.le_of_ble_eq_true rfl) (Nat.le_of_ble_eq_true rfl) (Nat.le_of_ble_eq_true rfl) (Nat.le_of_ble_eq_true rfl) (Nat.le_of_ble_eq_true rfl) (s_X3_isOutside hst ?_)
  refine g_if_eq hx dX3_lookForFilter_6 (tg := 20) (by decide) (nx := 9) rfl (fun c6 => ?_) (fun c6 => ?_)
  · refine g_vret hx dX3_lookForFilter_20 rfl (Nat.le_of_ble_eq_true rfl) (Nat.le_of_ble_eq_true rfl) ?_
    exact hk
  · exact absurd ((iout_z (x := nI j) (lo := 0) (hi := 2) (by decide) (by decide)).mpr (rgN_in.mpr ⟨j, hj9, rfl⟩)) c6

abbrev rmX3_lookAtTimek : Room := { frames := 1, cells := 0, slots := 0, locals := 22 }
set_option maxHeartbeats 4000000 in
set_option maxRecDepth 100000 in
theorem s_X3_lookAtTimek {l : Launch} {E : aE} {S : aS} {I : aI} {L : aL} {Rf : aR} {Kr : aK} {Kx : aX} (hst : l.stackTraces = false) {j : Nat} (hj9 : j < 256) (hk : Kr none S I L Rf) : aMet l E yX3_lookAtTime cX3_lookAtTime 1 none rmX3_lookAtTimek [.int (nI j)] (S) (I) (L) (Rf) Kr Kx := by
  refine aMet.of (lv0 := [.int (nI j)]) (z := 0) (by decide +kernel) hst rfl (Nat.le_of_ble_eq_true rfl) ?_
  intro p e s m args below meth c io0 hx hin hno
  have hx : aCx p l s m args meth c RX3 cX3_lookAtTime 1 none E := hx
  refine g_iloadG_n hx dX3_lookAtTime_0 rfl (nx := 1) rfl rfl ?_
  refine g_iconst hx dX3_lookAtTime_1 (nx := 2) rfl (v := 0) (by decide) ?_
  refine g_sipush hx dX3_lookAtTime_2 (nx := 5) rfl (v := 255) (by decide) ?_
  refine g_callS_M hx [_, _, _] (k' := 0) (n' := 0) dX3_lookAtTime_5 (nx := 8) rfl lk_X3_41 rfl (Nat.le_of_ble_eq_true rfl) (Nat.le_of_ble_eq_true rfl) (Nat.le_of_ble_eq_true rfl) (Nat.le_of_ble_eq_true rfl) (Nat.le_of_ble_eq_true rfl) (Nat.le_of_ble_eq_true rfl) (Nat.le_of_ble_eq_true rfl) (s_X3_isOutside hst ?_)
  refine g_if_eq hx dX3_lookAtTime_8 (tg := 22) (by decide) (nx := 11) rfl (fun c8 => ?_) (fun c8 => ?_)
  · refine g_vret hx dX3_lookAtTime_22 rfl (Nat.le_of_ble_eq_true rfl) (Nat.le_of_ble_eq_true rfl) ?_
    exact hk
  · exact absurd ((iout_z (x := nI j) (lo := 0) (hi := 255) (by decide) (by decide)).mpr (rgN_in.mpr ⟨j, hj9, rfl⟩)) c8

abbrev rmX3_lookAtLinek : Room := { frames := 1, cells := 0, slots := 0, locals := 22 }
set_option maxHeartbeats 4000000 in
set_option maxRecDepth 100000 in
theorem s_X3_lookAtLinek {l : Launch} {E : aE} {S : aS} {I : aI} {L : aL} {Rf : aR} {Kr : aK} {Kx : aX} (hst : l.stackTraces = false) {j : Nat} (hj9 : j < 32) (hk : Kr none S I L Rf) : aMet l E yX3_lookAtLine cX3_lookAtLine 1 none rmX3_lookAtLinek [.int (nI j)] (S) (I) (L) (Rf) Kr Kx := by
  refine aMet.of (lv0 := [.int (nI j)]) (z := 0) (by decide +kernel) hst rfl (Nat.le_of_ble_eq_true rfl) ?_
  intro p e s m args below meth c io0 hx hin hno
  have hx : aCx p l s m args meth c RX3 cX3_lookAtLine 1 none E := hx
  refine g_iloadG_n hx dX3_lookAtLine_0 rfl (nx := 1) rfl rfl ?_
  refine g_iconst hx dX3_lookAtLine_1 (nx := 2) rfl (v := 0) (by decide) ?_
  refine g_bipush hx dX3_lookAtLine_2 (nx := 4) rfl (v := 31) (by decide) ?_
  refine g_callS_M hx [_, _, _] (k' := 0) (n' := 0) dX3_lookAtLine_4 (nx := 7) rfl lk_X3_41 rfl (Nat.le_of_ble_eq_true rfl) (Nat.le_of_ble_eq_true rfl) (Nat.le_of_ble_eq_true rfl) (Nat.le_of_ble_eq_true rfl) (Nat.le_of_ble_eq_true rfl) (Nat.le_of_ble_eq_true rfl) (Nat.le_of_ble_eq_true rfl) (s_X3_isOutside hst ?_)
  refine g_if_eq hx dX3_lookAtLine_7 (tg := 20) (by decide) (nx := 10) rfl (fun c7 => ?_) (fun c7 => ?_)
  · refine g_vret hx dX3_lookAtLine_20 rfl (Nat.le_of_ble_eq_true rfl) (Nat.le_of_ble_eq_true rfl) ?_
    exact hk
  · exact absurd ((iout_z (x := nI j) (lo := 0) (hi := 31) (by decide) (by decide)).mpr (rgN_in.mpr ⟨j, hj9, rfl⟩)) c7

abbrev rmX3_ofStark : Room := { frames := 1, cells := 0, slots := 0, locals := 21 }
set_option maxHeartbeats 4000000 in
set_option maxRecDepth 100000 in
theorem s_X3_ofStar0 {l : Launch} {E : aE} {S : aS} {I : aI} {L : aL} {Rf : aR} {Kr : aK} {Kx : aX} (hst : l.stackTraces = false) {n nc k : Nat} (hC : lyC S Rf I n nc) (hk9 : k < n) (hk : Kr (some (.int (I (200 + 8 * k) 4))) S I L Rf) : aMet l E yX3_ofStar cX3_ofStar 4 (some .int) rmX3_ofStark [.ref 3, .int (nI k), .int (nI 0)] (S) (I) (L) (Rf) Kr Kx := by
  refine aMet.of (lv0 := [.ref 3, .int (nI k), .int (nI 0), aU]) (z := 1) (by decide +kernel) hst rfl (Nat.le_of_ble_eq_true rfl) ?_
  intro p e s m args below meth c io0 hx hin hno
  have hx : aCx p l s m args meth c RX3 cX3_ofStar 4 (some .int) E := hx
  have hX := hC.1
  refine g_aloadG_n hx dX3_ofStar_0 rfl (nx := 1) rfl rfl ?_
  refine g_iloadG_n hx dX3_ofStar_1 rfl (nx := 2) rfl rfl ?_
  refine g_callV_M hx [_] (k' := 0) (n' := 0) dX3_ofStar_2 (nx := 5) rfl lk_X3_75 (hX.1 0 _ rfl) (by decide) rfl rfl (Nat.le_of_ble_eq_true rfl) (Nat.le_of_ble_eq_true rfl) (Nat.le_of_ble_eq_true rfl) (Nat.le_of_ble_eq_true rfl) (Nat.le_of_ble_eq_true rfl) (Nat.le_of_ble_eq_true rfl) (Nat.le_of_ble_eq_true rfl) (s_X3_starAtk hst hC hk9 ?_)
  obtain ⟨b, hbe⟩ : ∃ b, b = 200 + 8 * k := ⟨_, rfl⟩
  rw [← hbe]
  have hB : lyS S Rf b := by rw [hbe]; exact hC.star (Nat.le_of_lt hk9)
  have hb := hB.2.2
  refine g_astore_3 hx dX3_ofStar_5 (nx := 6) rfl (by decide) rfl ?_
  refine g_iloadG_n hx dX3_ofStar_6 rfl (nx := 7) rfl rfl ?_
  refine g_tabIn hx dX3_ofStar_7 (off := 37) (tg := 44) (by decide) (by decide) (by decide) (by decide) ?_
  refine g_aloadG_n hx dX3_ofStar_44 rfl (nx := 45) rfl rfl ?_
  refine g_getfn_i hx dX3_ofStar_45 (nx := 48) rfl fa_X3_205 rfl (lyS.ob hB) (by omega) ?_
  refine g_iret hx dX3_ofStar_48 rfl rfl (Nat.le_of_ble_eq_true rfl) (Nat.le_of_ble_eq_true rfl) ?_
  subst hbe
  exact hk

set_option maxHeartbeats 4000000 in
set_option maxRecDepth 100000 in
theorem s_X3_ofStar1 {l : Launch} {E : aE} {S : aS} {I : aI} {L : aL} {Rf : aR} {Kr : aK} {Kx : aX} (hst : l.stackTraces = false) {n nc k : Nat} (hC : lyC S Rf I n nc) (hk9 : k < n) (hk : Kr (some (.int (I (200 + 8 * k) 5))) S I L Rf) : aMet l E yX3_ofStar cX3_ofStar 4 (some .int) rmX3_ofStark [.ref 3, .int (nI k), .int (nI 1)] (S) (I) (L) (Rf) Kr Kx := by
  refine aMet.of (lv0 := [.ref 3, .int (nI k), .int (nI 1), aU]) (z := 1) (by decide +kernel) hst rfl (Nat.le_of_ble_eq_true rfl) ?_
  intro p e s m args below meth c io0 hx hin hno
  have hx : aCx p l s m args meth c RX3 cX3_ofStar 4 (some .int) E := hx
  have hX := hC.1
  refine g_aloadG_n hx dX3_ofStar_0 rfl (nx := 1) rfl rfl ?_
  refine g_iloadG_n hx dX3_ofStar_1 rfl (nx := 2) rfl rfl ?_
  refine g_callV_M hx [_] (k' := 0) (n' := 0) dX3_ofStar_2 (nx := 5) rfl lk_X3_75 (hX.1 0 _ rfl) (by decide) rfl rfl (Nat.le_of_ble_eq_true rfl) (Nat.le_of_ble_eq_true rfl) (Nat.le_of_ble_eq_true rfl) (Nat.le_of_ble_eq_true rfl) (Nat.le_of_ble_eq_true rfl) (Nat.le_of_ble_eq_true rfl) (Nat.le_of_ble_eq_true rfl) (s_X3_starAtk hst hC hk9 ?_)
  obtain ⟨b, hbe⟩ : ∃ b, b = 200 + 8 * k := ⟨_, rfl⟩
  rw [← hbe]
  have hB : lyS S Rf b := by rw [hbe]; exact hC.star (Nat.le_of_lt hk9)
  have hb := hB.2.2
  refine g_astore_3 hx dX3_ofStar_5 (nx := 6) rfl (by decide) rfl ?_
  refine g_iloadG_n hx dX3_ofStar_6 rfl (nx := 7) rfl rfl ?_
  refine g_tabIn hx dX3_ofStar_7 (off := 42) (tg := 49) (by decide) (by decide) (by decide) (by decide) ?_
  refine g_aloadG_n hx dX3_ofStar_49 rfl (nx := 50) rfl rfl ?_
  refine g_getfn_i hx dX3_ofStar_50 (nx := 53) rfl fa_X3_206 rfl (lyS.ob hB) (by omega) ?_
  refine g_iret hx dX3_ofStar_53 rfl rfl (Nat.le_of_ble_eq_true rfl) (Nat.le_of_ble_eq_true rfl) ?_
  subst hbe
  exact hk

set_option maxHeartbeats 4000000 in
set_option maxRecDepth 100000 in
theorem s_X3_ofStar2 {l : Launch} {E : aE} {S : aS} {I : aI} {L : aL} {Rf : aR} {Kr : aK} {Kx : aX} (hst : l.stackTraces = false) {n nc k : Nat} (hC : lyC S Rf I n nc) (hk9 : k < n) (hk : Kr (some (.int (I (200 + 8 * k) 6))) S I L Rf) : aMet l E yX3_ofStar cX3_ofStar 4 (some .int) rmX3_ofStark [.ref 3, .int (nI k), .int (nI 2)] (S) (I) (L) (Rf) Kr Kx := by
  refine aMet.of (lv0 := [.ref 3, .int (nI k), .int (nI 2), aU]) (z := 1) (by decide +kernel) hst rfl (Nat.le_of_ble_eq_true rfl) ?_
  intro p e s m args below meth c io0 hx hin hno
  have hx : aCx p l s m args meth c RX3 cX3_ofStar 4 (some .int) E := hx
  have hX := hC.1
  refine g_aloadG_n hx dX3_ofStar_0 rfl (nx := 1) rfl rfl ?_
  refine g_iloadG_n hx dX3_ofStar_1 rfl (nx := 2) rfl rfl ?_
  refine g_callV_M hx [_] (k' := 0) (n' := 0) dX3_ofStar_2 (nx := 5) rfl lk_X3_75 (hX.1 0 _ rfl) (by decide) rfl rfl (Nat.le_of_ble_eq_true rfl) (Nat.le_of_ble_eq_true rfl) (Nat.le_of_ble_eq_true rfl) (Nat.le_of_ble_eq_true rfl) (Nat.le_of_ble_eq_true rfl) (Nat.le_of_ble_eq_true rfl) (Nat.le_of_ble_eq_true rfl) (s_X3_starAtk hst hC hk9 ?_)
  obtain ⟨b, hbe⟩ : ∃ b, b = 200 + 8 * k := ⟨_, rfl⟩
  rw [← hbe]
  have hB : lyS S Rf b := by rw [hbe]; exact hC.star (Nat.le_of_lt hk9)
  have hb := hB.2.2
  refine g_astore_3 hx dX3_ofStar_5 (nx := 6) rfl (by decide) rfl ?_
  refine g_iloadG_n hx dX3_ofStar_6 rfl (nx := 7) rfl rfl ?_
  refine g_tabIn hx dX3_ofStar_7 (off := 47) (tg := 54) (by decide) (by decide) (by decide) (by decide) ?_
  refine g_aloadG_n hx dX3_ofStar_54 rfl (nx := 55) rfl rfl ?_
  refine g_getfn_i hx dX3_ofStar_55 (nx := 58) rfl fa_X3_209 rfl (lyS.ob hB) (by omega) ?_
  refine g_iret hx dX3_ofStar_58 rfl rfl (Nat.le_of_ble_eq_true rfl) (Nat.le_of_ble_eq_true rfl) ?_
  subst hbe
  exact hk

set_option maxHeartbeats 4000000 in
set_option maxRecDepth 100000 in
theorem s_X3_ofStar3 {l : Launch} {E : aE} {S : aS} {I : aI} {L : aL} {Rf : aR} {Kr : aK} {Kx : aX} (hst : l.stackTraces = false) {n nc k : Nat} (hC : lyC S Rf I n nc) (hk9 : k < n) (hk : Kr (some (.int (I (200 + 8 * k) 7))) S I L Rf) : aMet l E yX3_ofStar cX3_ofStar 4 (some .int) rmX3_ofStark [.ref 3, .int (nI k), .int (nI 3)] (S) (I) (L) (Rf) Kr Kx := by
  refine aMet.of (lv0 := [.ref 3, .int (nI k), .int (nI 3), aU]) (z := 1) (by decide +kernel) hst rfl (Nat.le_of_ble_eq_true rfl) ?_
  intro p e s m args below meth c io0 hx hin hno
  have hx : aCx p l s m args meth c RX3 cX3_ofStar 4 (some .int) E := hx
  have hX := hC.1
  refine g_aloadG_n hx dX3_ofStar_0 rfl (nx := 1) rfl rfl ?_
  refine g_iloadG_n hx dX3_ofStar_1 rfl (nx := 2) rfl rfl ?_
  refine g_callV_M hx [_] (k' := 0) (n' := 0) dX3_ofStar_2 (nx := 5) rfl lk_X3_75 (hX.1 0 _ rfl) (by decide) rfl rfl (Nat.le_of_ble_eq_true rfl) (Nat.le_of_ble_eq_true rfl) (Nat.le_of_ble_eq_true rfl) (Nat.le_of_ble_eq_true rfl) (Nat.le_of_ble_eq_true rfl) (Nat.le_of_ble_eq_true rfl) (Nat.le_of_ble_eq_true rfl) (s_X3_starAtk hst hC hk9 ?_)
  obtain ⟨b, hbe⟩ : ∃ b, b = 200 + 8 * k := ⟨_, rfl⟩
  rw [← hbe]
  have hB : lyS S Rf b := by rw [hbe]; exact hC.star (Nat.le_of_lt hk9)
  have hb := hB.2.2
  refine g_astore_3 hx dX3_ofStar_5 (nx := 6) rfl (by decide) rfl ?_
  refine g_iloadG_n hx dX3_ofStar_6 rfl (nx := 7) rfl rfl ?_
  refine g_tabIn hx dX3_ofStar_7 (off := 52) (tg := 59) (by decide) (by decide) (by decide) (by decide) ?_
  refine g_aloadG_n hx dX3_ofStar_59 rfl (nx := 60) rfl rfl ?_
  refine g_getfn_i hx dX3_ofStar_60 (nx := 63) rfl fa_X3_212 rfl (lyS.ob hB) (by omega) ?_
  refine g_iret hx dX3_ofStar_63 rfl rfl (Nat.le_of_ble_eq_true rfl) (Nat.le_of_ble_eq_true rfl) ?_
  subst hbe
  exact hk

set_option maxHeartbeats 4000000 in
set_option maxRecDepth 100000 in
theorem s_X3_ofStar4 {l : Launch} {E : aE} {S : aS} {I : aI} {L : aL} {Rf : aR} {Kr : aK} {Kx : aX} (hst : l.stackTraces = false) {n nc k : Nat} (hC : lyC S Rf I n nc) (hk9 : k < n) (hk : Kr (some (.int (I (200 + 8 * k) 8))) S I L Rf) : aMet l E yX3_ofStar cX3_ofStar 4 (some .int) rmX3_ofStark [.ref 3, .int (nI k), .int (nI 4)] (S) (I) (L) (Rf) Kr Kx := by
  refine aMet.of (lv0 := [.ref 3, .int (nI k), .int (nI 4), aU]) (z := 1) (by decide +kernel) hst rfl (Nat.le_of_ble_eq_true rfl) ?_
  intro p e s m args below meth c io0 hx hin hno
  have hx : aCx p l s m args meth c RX3 cX3_ofStar 4 (some .int) E := hx
  have hX := hC.1
  refine g_aloadG_n hx dX3_ofStar_0 rfl (nx := 1) rfl rfl ?_
  refine g_iloadG_n hx dX3_ofStar_1 rfl (nx := 2) rfl rfl ?_
  refine g_callV_M hx [_] (k' := 0) (n' := 0) dX3_ofStar_2 (nx := 5) rfl lk_X3_75 (hX.1 0 _ rfl) (by decide) rfl rfl (Nat.le_of_ble_eq_true rfl) (Nat.le_of_ble_eq_true rfl) (Nat.le_of_ble_eq_true rfl) (Nat.le_of_ble_eq_true rfl) (Nat.le_of_ble_eq_true rfl) (Nat.le_of_ble_eq_true rfl) (Nat.le_of_ble_eq_true rfl) (s_X3_starAtk hst hC hk9 ?_)
  obtain ⟨b, hbe⟩ : ∃ b, b = 200 + 8 * k := ⟨_, rfl⟩
  rw [← hbe]
  have hB : lyS S Rf b := by rw [hbe]; exact hC.star (Nat.le_of_lt hk9)
  have hb := hB.2.2
  refine g_astore_3 hx dX3_ofStar_5 (nx := 6) rfl (by decide) rfl ?_
  refine g_iloadG_n hx dX3_ofStar_6 rfl (nx := 7) rfl rfl ?_
  refine g_tabIn hx dX3_ofStar_7 (off := 57) (tg := 64) (by decide) (by decide) (by decide) (by decide) ?_
  refine g_aloadG_n hx dX3_ofStar_64 rfl (nx := 65) rfl rfl ?_
  refine g_getfn_i hx dX3_ofStar_65 (nx := 68) rfl fa_X3_215 rfl (lyS.ob hB) (by omega) ?_
  refine g_iret hx dX3_ofStar_68 rfl rfl (Nat.le_of_ble_eq_true rfl) (Nat.le_of_ble_eq_true rfl) ?_
  subst hbe
  exact hk

set_option maxHeartbeats 4000000 in
set_option maxRecDepth 100000 in
theorem s_X3_ofStar5 {l : Launch} {E : aE} {S : aS} {I : aI} {L : aL} {Rf : aR} {Kr : aK} {Kx : aX} (hst : l.stackTraces = false) {n nc k : Nat} (hC : lyC S Rf I n nc) (hk9 : k < n) (hk : Kr (some (.int (I (200 + 8 * k) 9))) S I L Rf) : aMet l E yX3_ofStar cX3_ofStar 4 (some .int) rmX3_ofStark [.ref 3, .int (nI k), .int (nI 5)] (S) (I) (L) (Rf) Kr Kx := by
  refine aMet.of (lv0 := [.ref 3, .int (nI k), .int (nI 5), aU]) (z := 1) (by decide +kernel) hst rfl (Nat.le_of_ble_eq_true rfl) ?_
  intro p e s m args below meth c io0 hx hin hno
  have hx : aCx p l s m args meth c RX3 cX3_ofStar 4 (some .int) E := hx
  have hX := hC.1
  refine g_aloadG_n hx dX3_ofStar_0 rfl (nx := 1) rfl rfl ?_
  refine g_iloadG_n hx dX3_ofStar_1 rfl (nx := 2) rfl rfl ?_
  refine g_callV_M hx [_] (k' := 0) (n' := 0) dX3_ofStar_2 (nx := 5) rfl lk_X3_75 (hX.1 0 _ rfl) (by decide) rfl rfl (Nat.le_of_ble_eq_true rfl) (Nat.le_of_ble_eq_true rfl) (Nat.le_of_ble_eq_true rfl) (Nat.le_of_ble_eq_true rfl) (Nat.le_of_ble_eq_true rfl) (Nat.le_of_ble_eq_true rfl) (Nat.le_of_ble_eq_true rfl) (s_X3_starAtk hst hC hk9 ?_)
  obtain ⟨b, hbe⟩ : ∃ b, b = 200 + 8 * k := ⟨_, rfl⟩
  rw [← hbe]
  have hB : lyS S Rf b := by rw [hbe]; exact hC.star (Nat.le_of_lt hk9)
  have hb := hB.2.2
  refine g_astore_3 hx dX3_ofStar_5 (nx := 6) rfl (by decide) rfl ?_
  refine g_iloadG_n hx dX3_ofStar_6 rfl (nx := 7) rfl rfl ?_
  refine g_tabIn hx dX3_ofStar_7 (off := 62) (tg := 69) (by decide) (by decide) (by decide) (by decide) ?_
  refine g_aloadG_n hx dX3_ofStar_69 rfl (nx := 70) rfl rfl ?_
  refine g_getfn_i hx dX3_ofStar_70 (nx := 73) rfl fa_X3_218 rfl (lyS.ob hB) (by omega) ?_
  refine g_iret hx dX3_ofStar_73 rfl rfl (Nat.le_of_ble_eq_true rfl) (Nat.le_of_ble_eq_true rfl) ?_
  subst hbe
  exact hk

abbrev rmX3_ofClaimk : Room := { frames := 1, cells := 0, slots := 0, locals := 21 }
set_option maxHeartbeats 4000000 in
set_option maxRecDepth 100000 in
theorem s_X3_ofClaim0 {l : Launch} {E : aE} {S : aS} {I : aI} {L : aL} {Rf : aR} {Kr : aK} {Kx : aX} (hst : l.stackTraces = false) {n nc i : Nat} (hC : lyC S Rf I n nc) (ih : i < nc) (hk : Kr (some (.int (I (100 + i) 0))) S I L Rf) : aMet l E yX3_ofClaim cX3_ofClaim 4 (some .int) rmX3_ofClaimk [.ref 3, .int (nI i), .int (nI 0)] (S) (I) (L) (Rf) Kr Kx := by
  refine aMet.of (lv0 := [.ref 3, .int (nI i), .int (nI 0), aU]) (z := 1) (by decide +kernel) hst rfl (Nat.le_of_ble_eq_true rfl) ?_
  intro p e s m args below meth c io0 hx hin hno
  have hx : aCx p l s m args meth c RX3 cX3_ofClaim 4 (some .int) E := hx
  have hX := hC.1
  have hc40 := hC.2.2.1
  refine g_aloadG_n hx dX3_ofClaim_0 rfl (nx := 1) rfl rfl ?_
  refine g_iloadG_n hx dX3_ofClaim_1 rfl (nx := 2) rfl rfl ?_
  refine g_callV_M hx [_] (k' := 0) (n' := 0) dX3_ofClaim_2 (nx := 5) rfl lk_X3_139 (hX.1 0 _ rfl) (by decide) rfl rfl (Nat.le_of_ble_eq_true rfl) (Nat.le_of_ble_eq_true rfl) (Nat.le_of_ble_eq_true rfl) (Nat.le_of_ble_eq_true rfl) (Nat.le_of_ble_eq_true rfl) (Nat.le_of_ble_eq_true rfl) (Nat.le_of_ble_eq_true rfl) (s_X3_claimAtk hst hC ih ?_)
  obtain ⟨ic, ice⟩ : ∃ c, c = 100 + i := ⟨_, rfl⟩
  rw [← ice]
  have iS : S ic = some (.inr 0) := by rw [ice]; exact (hC.cl ih).1
  refine g_astore_3 hx dX3_ofClaim_5 (nx := 6) rfl (by decide) rfl ?_
  refine g_iloadG_n hx dX3_ofClaim_6 rfl (nx := 7) rfl rfl ?_
  refine g_tabIn hx dX3_ofClaim_7 (off := 37) (tg := 44) (by decide) (by decide) (by decide) (by decide) ?_
  refine g_aloadG_n hx dX3_ofClaim_44 rfl (nx := 45) rfl rfl ?_
  refine g_getfn_i hx dX3_ofClaim_45 (nx := 48) rfl fa_X3_143 rfl iS (by omega) ?_
  refine g_iret hx dX3_ofClaim_48 rfl rfl (Nat.le_of_ble_eq_true rfl) (Nat.le_of_ble_eq_true rfl) ?_
  subst ice
  exact hk

set_option maxHeartbeats 4000000 in
set_option maxRecDepth 100000 in
theorem s_X3_ofClaim1 {l : Launch} {E : aE} {S : aS} {I : aI} {L : aL} {Rf : aR} {Kr : aK} {Kx : aX} (hst : l.stackTraces = false) {n nc i : Nat} (hC : lyC S Rf I n nc) (ih : i < nc) (hk : Kr (some (.int (I (100 + i) 1))) S I L Rf) : aMet l E yX3_ofClaim cX3_ofClaim 4 (some .int) rmX3_ofClaimk [.ref 3, .int (nI i), .int (nI 1)] (S) (I) (L) (Rf) Kr Kx := by
  refine aMet.of (lv0 := [.ref 3, .int (nI i), .int (nI 1), aU]) (z := 1) (by decide +kernel) hst rfl (Nat.le_of_ble_eq_true rfl) ?_
  intro p e s m args below meth c io0 hx hin hno
  have hx : aCx p l s m args meth c RX3 cX3_ofClaim 4 (some .int) E := hx
  have hX := hC.1
  have hc40 := hC.2.2.1
  refine g_aloadG_n hx dX3_ofClaim_0 rfl (nx := 1) rfl rfl ?_
  refine g_iloadG_n hx dX3_ofClaim_1 rfl (nx := 2) rfl rfl ?_
  refine g_callV_M hx [_] (k' := 0) (n' := 0) dX3_ofClaim_2 (nx := 5) rfl lk_X3_139 (hX.1 0 _ rfl) (by decide) rfl rfl (Nat.le_of_ble_eq_true rfl) (Nat.le_of_ble_eq_true rfl) (Nat.le_of_ble_eq_true rfl) (Nat.le_of_ble_eq_true rfl) (Nat.le_of_ble_eq_true rfl) (Nat.le_of_ble_eq_true rfl) (Nat.le_of_ble_eq_true rfl) (s_X3_claimAtk hst hC ih ?_)
  obtain ⟨ic, ice⟩ : ∃ c, c = 100 + i := ⟨_, rfl⟩
  rw [← ice]
  have iS : S ic = some (.inr 0) := by rw [ice]; exact (hC.cl ih).1
  refine g_astore_3 hx dX3_ofClaim_5 (nx := 6) rfl (by decide) rfl ?_
  refine g_iloadG_n hx dX3_ofClaim_6 rfl (nx := 7) rfl rfl ?_
  refine g_tabIn hx dX3_ofClaim_7 (off := 42) (tg := 49) (by decide) (by decide) (by decide) (by decide) ?_
  refine g_aloadG_n hx dX3_ofClaim_49 rfl (nx := 50) rfl rfl ?_
  refine g_getfn_i hx dX3_ofClaim_50 (nx := 53) rfl fa_X3_148 rfl iS (by omega) ?_
  refine g_iret hx dX3_ofClaim_53 rfl rfl (Nat.le_of_ble_eq_true rfl) (Nat.le_of_ble_eq_true rfl) ?_
  subst ice
  exact hk

set_option maxHeartbeats 4000000 in
set_option maxRecDepth 100000 in
theorem s_X3_ofClaim2 {l : Launch} {E : aE} {S : aS} {I : aI} {L : aL} {Rf : aR} {Kr : aK} {Kx : aX} (hst : l.stackTraces = false) {n nc i : Nat} (hC : lyC S Rf I n nc) (ih : i < nc) (hk : Kr (some (.int (I (100 + i) 2))) S I L Rf) : aMet l E yX3_ofClaim cX3_ofClaim 4 (some .int) rmX3_ofClaimk [.ref 3, .int (nI i), .int (nI 2)] (S) (I) (L) (Rf) Kr Kx := by
  refine aMet.of (lv0 := [.ref 3, .int (nI i), .int (nI 2), aU]) (z := 1) (by decide +kernel) hst rfl (Nat.le_of_ble_eq_true rfl) ?_
  intro p e s m args below meth c io0 hx hin hno
  have hx : aCx p l s m args meth c RX3 cX3_ofClaim 4 (some .int) E := hx
  have hX := hC.1
  have hc40 := hC.2.2.1
  refine g_aloadG_n hx dX3_ofClaim_0 rfl (nx := 1) rfl rfl ?_
  refine g_iloadG_n hx dX3_ofClaim_1 rfl (nx := 2) rfl rfl ?_
  refine g_callV_M hx [_] (k' := 0) (n' := 0) dX3_ofClaim_2 (nx := 5) rfl lk_X3_139 (hX.1 0 _ rfl) (by decide) rfl rfl (Nat.le_of_ble_eq_true rfl) (Nat.le_of_ble_eq_true rfl) (Nat.le_of_ble_eq_true rfl) (Nat.le_of_ble_eq_true rfl) (Nat.le_of_ble_eq_true rfl) (Nat.le_of_ble_eq_true rfl) (Nat.le_of_ble_eq_true rfl) (s_X3_claimAtk hst hC ih ?_)
  obtain ⟨ic, ice⟩ : ∃ c, c = 100 + i := ⟨_, rfl⟩
  rw [← ice]
  have iS : S ic = some (.inr 0) := by rw [ice]; exact (hC.cl ih).1
  refine g_astore_3 hx dX3_ofClaim_5 (nx := 6) rfl (by decide) rfl ?_
  refine g_iloadG_n hx dX3_ofClaim_6 rfl (nx := 7) rfl rfl ?_
  refine g_tabIn hx dX3_ofClaim_7 (off := 47) (tg := 54) (by decide) (by decide) (by decide) (by decide) ?_
  refine g_aloadG_n hx dX3_ofClaim_54 rfl (nx := 55) rfl rfl ?_
  refine g_getfn_i hx dX3_ofClaim_55 (nx := 58) rfl fa_X3_151 rfl iS (by omega) ?_
  refine g_iret hx dX3_ofClaim_58 rfl rfl (Nat.le_of_ble_eq_true rfl) (Nat.le_of_ble_eq_true rfl) ?_
  subst ice
  exact hk

set_option maxHeartbeats 4000000 in
set_option maxRecDepth 100000 in
theorem s_X3_ofClaim3 {l : Launch} {E : aE} {S : aS} {I : aI} {L : aL} {Rf : aR} {Kr : aK} {Kx : aX} (hst : l.stackTraces = false) {n nc i : Nat} (hC : lyC S Rf I n nc) (ih : i < nc) (hk : Kr (some (.int (I (100 + i) 6))) S I L Rf) : aMet l E yX3_ofClaim cX3_ofClaim 4 (some .int) rmX3_ofClaimk [.ref 3, .int (nI i), .int (nI 3)] (S) (I) (L) (Rf) Kr Kx := by
  refine aMet.of (lv0 := [.ref 3, .int (nI i), .int (nI 3), aU]) (z := 1) (by decide +kernel) hst rfl (Nat.le_of_ble_eq_true rfl) ?_
  intro p e s m args below meth c io0 hx hin hno
  have hx : aCx p l s m args meth c RX3 cX3_ofClaim 4 (some .int) E := hx
  have hX := hC.1
  have hc40 := hC.2.2.1
  refine g_aloadG_n hx dX3_ofClaim_0 rfl (nx := 1) rfl rfl ?_
  refine g_iloadG_n hx dX3_ofClaim_1 rfl (nx := 2) rfl rfl ?_
  refine g_callV_M hx [_] (k' := 0) (n' := 0) dX3_ofClaim_2 (nx := 5) rfl lk_X3_139 (hX.1 0 _ rfl) (by decide) rfl rfl (Nat.le_of_ble_eq_true rfl) (Nat.le_of_ble_eq_true rfl) (Nat.le_of_ble_eq_true rfl) (Nat.le_of_ble_eq_true rfl) (Nat.le_of_ble_eq_true rfl) (Nat.le_of_ble_eq_true rfl) (Nat.le_of_ble_eq_true rfl) (s_X3_claimAtk hst hC ih ?_)
  obtain ⟨ic, ice⟩ : ∃ c, c = 100 + i := ⟨_, rfl⟩
  rw [← ice]
  have iS : S ic = some (.inr 0) := by rw [ice]; exact (hC.cl ih).1
  refine g_astore_3 hx dX3_ofClaim_5 (nx := 6) rfl (by decide) rfl ?_
  refine g_iloadG_n hx dX3_ofClaim_6 rfl (nx := 7) rfl rfl ?_
  refine g_tabIn hx dX3_ofClaim_7 (off := 52) (tg := 59) (by decide) (by decide) (by decide) (by decide) ?_
  refine g_aloadG_n hx dX3_ofClaim_59 rfl (nx := 60) rfl rfl ?_
  refine g_getfn_i hx dX3_ofClaim_60 (nx := 63) rfl fa_X3_172 rfl iS (by omega) ?_
  refine g_iret hx dX3_ofClaim_63 rfl rfl (Nat.le_of_ble_eq_true rfl) (Nat.le_of_ble_eq_true rfl) ?_
  subst ice
  exact hk

set_option maxHeartbeats 4000000 in
set_option maxRecDepth 100000 in
theorem s_X3_ofClaim4 {l : Launch} {E : aE} {S : aS} {I : aI} {L : aL} {Rf : aR} {Kr : aK} {Kx : aX} (hst : l.stackTraces = false) {n nc i : Nat} (hC : lyC S Rf I n nc) (ih : i < nc) (hk : Kr (some (.int (if I (100 + i) 8 = 0 then 0 else 1))) S I L Rf) : aMet l E yX3_ofClaim cX3_ofClaim 4 (some .int) rmX3_ofClaimk [.ref 3, .int (nI i), .int (nI 4)] (S) (I) (L) (Rf) Kr Kx := by
  refine aMet.of (lv0 := [.ref 3, .int (nI i), .int (nI 4), aU]) (z := 1) (by decide +kernel) hst rfl (Nat.le_of_ble_eq_true rfl) ?_
  intro p e s m args below meth c io0 hx hin hno
  have hx : aCx p l s m args meth c RX3 cX3_ofClaim 4 (some .int) E := hx
  have hX := hC.1
  have hc40 := hC.2.2.1
  refine g_aloadG_n hx dX3_ofClaim_0 rfl (nx := 1) rfl rfl ?_
  refine g_iloadG_n hx dX3_ofClaim_1 rfl (nx := 2) rfl rfl ?_
  refine g_callV_M hx [_] (k' := 0) (n' := 0) dX3_ofClaim_2 (nx := 5) rfl lk_X3_139 (hX.1 0 _ rfl) (by decide) rfl rfl (Nat.le_of_ble_eq_true rfl) (Nat.le_of_ble_eq_true rfl) (Nat.le_of_ble_eq_true rfl) (Nat.le_of_ble_eq_true rfl) (Nat.le_of_ble_eq_true rfl) (Nat.le_of_ble_eq_true rfl) (Nat.le_of_ble_eq_true rfl) (s_X3_claimAtk hst hC ih ?_)
  obtain ⟨ic, ice⟩ : ∃ c, c = 100 + i := ⟨_, rfl⟩
  rw [← ice]
  have iS : S ic = some (.inr 0) := by rw [ice]; exact (hC.cl ih).1
  refine g_astore_3 hx dX3_ofClaim_5 (nx := 6) rfl (by decide) rfl ?_
  refine g_iloadG_n hx dX3_ofClaim_6 rfl (nx := 7) rfl rfl ?_
  refine g_tabIn hx dX3_ofClaim_7 (off := 57) (tg := 64) (by decide) (by decide) (by decide) (by decide) ?_
  refine g_aloadG_n hx dX3_ofClaim_64 rfl (nx := 65) rfl rfl ?_
  refine g_getfn_i hx dX3_ofClaim_65 (nx := 68) rfl fa_X3_156 rfl iS (by omega) ?_
  refine g_if_eq hx dX3_ofClaim_68 (tg := 75) (by decide) (nx := 71) rfl (fun c68 => ?_) (fun c68 => ?_)
  · refine g_iconst hx dX3_ofClaim_75 (nx := 76) rfl (v := 0) (by decide) ?_
    refine g_iret hx dX3_ofClaim_76 rfl rfl (Nat.le_of_ble_eq_true rfl) (Nat.le_of_ble_eq_true rfl) ?_
    subst ice
    first | (rw [if_pos c68] at hk; exact hk) | (rw [if_neg c68] at hk; exact hk)
  · refine g_iconst hx dX3_ofClaim_71 (nx := 72) rfl (v := 1) (by decide) ?_
    refine g_goto hx dX3_ofClaim_72 (tg := 76) (by decide) ?_
    refine g_iret hx dX3_ofClaim_76 rfl rfl (Nat.le_of_ble_eq_true rfl) (Nat.le_of_ble_eq_true rfl) ?_
    subst ice
    first | (rw [if_pos c68] at hk; exact hk) | (rw [if_neg c68] at hk; exact hk)

set_option maxHeartbeats 4000000 in
set_option maxRecDepth 100000 in
theorem s_X3_ofClaim5 {l : Launch} {E : aE} {S : aS} {I : aI} {L : aL} {Rf : aR} {Kr : aK} {Kx : aX} (hst : l.stackTraces = false) {n nc i : Nat} (hC : lyC S Rf I n nc) (ih : i < nc) (hk : Kr (some (.int (bcnt (L (100 + i) 7)))) S I L Rf) : aMet l E yX3_ofClaim cX3_ofClaim 4 (some .int) rmX3_ofClaimk [.ref 3, .int (nI i), .int (nI 5)] (S) (I) (L) (Rf) Kr Kx := by
  refine aMet.of (lv0 := [.ref 3, .int (nI i), .int (nI 5), aU]) (z := 1) (by decide +kernel) hst rfl (Nat.le_of_ble_eq_true rfl) ?_
  intro p e s m args below meth c io0 hx hin hno
  have hx : aCx p l s m args meth c RX3 cX3_ofClaim 4 (some .int) E := hx
  have hX := hC.1
  have hc40 := hC.2.2.1
  refine g_aloadG_n hx dX3_ofClaim_0 rfl (nx := 1) rfl rfl ?_
  refine g_iloadG_n hx dX3_ofClaim_1 rfl (nx := 2) rfl rfl ?_
  refine g_callV_M hx [_] (k' := 0) (n' := 0) dX3_ofClaim_2 (nx := 5) rfl lk_X3_139 (hX.1 0 _ rfl) (by decide) rfl rfl (Nat.le_of_ble_eq_true rfl) (Nat.le_of_ble_eq_true rfl) (Nat.le_of_ble_eq_true rfl) (Nat.le_of_ble_eq_true rfl) (Nat.le_of_ble_eq_true rfl) (Nat.le_of_ble_eq_true rfl) (Nat.le_of_ble_eq_true rfl) (s_X3_claimAtk hst hC ih ?_)
  obtain ⟨ic, ice⟩ : ∃ c, c = 100 + i := ⟨_, rfl⟩
  rw [← ice]
  have iS : S ic = some (.inr 0) := by rw [ice]; exact (hC.cl ih).1
  refine g_astore_3 hx dX3_ofClaim_5 (nx := 6) rfl (by decide) rfl ?_
  refine g_iloadG_n hx dX3_ofClaim_6 rfl (nx := 7) rfl rfl ?_
  refine g_tabIn hx dX3_ofClaim_7 (off := 70) (tg := 77) (by decide) (by decide) (by decide) (by decide) ?_
  refine g_aloadG_n hx dX3_ofClaim_77 rfl (nx := 78) rfl rfl ?_
  refine g_getfn_l hx dX3_ofClaim_78 (nx := 81) rfl fa_X3_178 rfl iS (by omega) ?_
  refine g_callS_M hx [_] (k' := 0) (n' := 0) dX3_ofClaim_81 (nx := 84) rfl lk_X3_189 rfl (Nat.le_of_ble_eq_true rfl) (Nat.le_of_ble_eq_true rfl) (Nat.le_of_ble_eq_true rfl) (Nat.le_of_ble_eq_true rfl) (Nat.le_of_ble_eq_true rfl) (Nat.le_of_ble_eq_true rfl) (Nat.le_of_ble_eq_true rfl) (s_J13_bitCount_95d88 hst ?_)
  refine g_iret hx dX3_ofClaim_84 rfl rfl (Nat.le_of_ble_eq_true rfl) (Nat.le_of_ble_eq_true rfl) ?_
  subst ice
  exact hk

abbrev rmX3_valuek : Room := { frames := 5, cells := 0, slots := 0, locals := 117 }
set_option maxHeartbeats 4000000 in
set_option maxRecDepth 100000 in
theorem s_X3_valuek {l : Launch} {E : aE} {S : aS} {I : aI} {L : aL} {Rf : aR} {Kr : aK} {Kx : aX} (hst : l.stackTraces = false) {n nc k j t oo : Nat} (hC : lyC S Rf I n nc) (hk9 : k < n) (hj9 : j < 3) (ht9 : t < 256) (hsi : ∀ t, t < 256 → vp_in (I (200 + 8 * k + 5) t) 4) (ho : I (200 + 8 * k) 13 = nI oo) (ho6 : oo ≤ 6) (hk : ∀ I' L', eqX I' I → eqX L' L → Kr (some (.int (if prs I (200 + 8 * k) t = true then laid I (200 + 8 * k) (nI j) oo t else 0).toInt32)) S I' L' Rf) : aMet l E yX3_value cX3_value 5 (some .int) rmX3_valuek [.ref 3, .int (nI k), .int (nI j), .int (nI t)] (S) (I) (L) (Rf) Kr Kx := by
  refine aMet.of (lv0 := [.ref 3, .int (nI k), .int (nI j), .int (nI t), aU]) (z := 1) (by decide +kernel) hst rfl (Nat.le_of_ble_eq_true rfl) ?_
  intro p e s m args below meth c io0 hx hin hno
  have hx : aCx p l s m args meth c RX3 cX3_value 5 (some .int) E := hx
  have hX := hC.1
  refine g_aloadG_n hx dX3_value_0 rfl (nx := 1) rfl rfl ?_
  refine g_iloadG_n hx dX3_value_1 rfl (nx := 2) rfl rfl ?_
  refine g_callV_M hx [_] (k' := 0) (n' := 0) dX3_value_2 (nx := 5) rfl lk_X3_75 (hX.1 0 _ rfl) (by decide) rfl rfl (Nat.le_of_ble_eq_true rfl) (Nat.le_of_ble_eq_true rfl) (Nat.le_of_ble_eq_true rfl) (Nat.le_of_ble_eq_true rfl) (Nat.le_of_ble_eq_true rfl) (Nat.le_of_ble_eq_true rfl) (Nat.le_of_ble_eq_true rfl) (s_X3_starAtk hst hC hk9 ?_)
  obtain ⟨b, hbe⟩ : ∃ b, b = 200 + 8 * k := ⟨_, rfl⟩
  rw [← hbe]
  have hB : lyS S Rf b := by rw [hbe]; exact hC.star (Nat.le_of_lt hk9)
  have hb := hB.2.2
  refine g_astore_4 hx dX3_value_5 (nx := 7) rfl (by decide) rfl ?_
  refine g_iloadG_n hx dX3_value_7 rfl (nx := 8) rfl rfl ?_
  refine g_callS_M hx [_] (k' := 0) (n' := 0) dX3_value_8 (nx := 11) rfl lk_X3_109 rfl (Nat.le_of_ble_eq_true rfl) (Nat.le_of_ble_eq_true rfl) (Nat.le_of_ble_eq_true rfl) (Nat.le_of_ble_eq_true rfl) (Nat.le_of_ble_eq_true rfl) (Nat.le_of_ble_eq_true rfl) (Nat.le_of_ble_eq_true rfl) (s_X3_lookForFilterk hst hj9 ?_)
  refine g_iloadG_n hx dX3_value_11 rfl (nx := 12) rfl rfl ?_
  refine g_callS_M hx [_] (k' := 0) (n' := 0) dX3_value_12 (nx := 15) rfl lk_X3_82 rfl (Nat.le_of_ble_eq_true rfl) (Nat.le_of_ble_eq_true rfl) (Nat.le_of_ble_eq_true rfl) (Nat.le_of_ble_eq_true rfl) (Nat.le_of_ble_eq_true rfl) (Nat.le_of_ble_eq_true rfl) (Nat.le_of_ble_eq_true rfl) (s_X3_lookAtTimek hst ht9 ?_)
  refine g_aloadG_n hx dX3_value_15 rfl (nx := 16) rfl rfl ?_
  refine g_getfo_R hx dX3_value_16 (nx := 19) rfl fa_X3_37 rfl (r9 := 7) hX.2.2.2.2.1 (hX.1 0 _ rfl) (by decide) ?_
  refine g_aloadG hx dX3_value_19 (nx := 21) rfl rfl ?_
  refine g_aloadG_n hx dX3_value_21 rfl (nx := 22) rfl rfl ?_
  refine g_getfo_R hx dX3_value_22 (nx := 25) rfl fa_X3_20 rfl (r9 := 5) hX.2.2.1 (hX.1 0 _ rfl) (by decide) ?_
  refine g_iloadG_n hx dX3_value_25 rfl (nx := 26) rfl rfl ?_
  refine g_aloadG hx dX3_value_26 (nx := 28) rfl rfl ?_
  refine g_getfn_i hx dX3_value_28 (nx := 31) rfl fa_X3_101 rfl (lyS.ob hB) (by omega) ?_
  rw [show I b 13 = nI oo from by rw [hbe]; exact ho]
  refine g_callNV_M hx [_, _, _, _] (k' := 0) (n' := 0) dX3_value_31 (nx := 34) rfl lk_X3_240 (hX.1 4 _ rfl) (by decide) rfl rfl (Nat.le_of_ble_eq_true rfl) (Nat.le_of_ble_eq_true rfl) (Nat.le_of_ble_eq_true rfl) (Nat.le_of_ble_eq_true rfl) (Nat.le_of_ble_eq_true rfl) (Nat.le_of_ble_eq_true rfl) (Nat.le_of_ble_eq_true rfl) (s_X1_look (k := oo) hst hX hB (by rw [hbe]; exact hsi) ho6 (fun I' L' h1 h2 h3 => ?_))
  refine g_aloadG_n hx dX3_value_34 rfl (nx := 35) rfl rfl ?_
  refine g_getfo_R hx dX3_value_35 (nx := 38) rfl fa_X3_37 rfl (r9 := 7) hX.2.2.2.2.1 (hX.1 0 _ rfl) (by decide) ?_
  refine g_iloadG_n hx dX3_value_38 rfl (nx := 39) rfl rfl ?_
  refine g_callNV_M hx [_] (k' := 0) (n' := 0) dX3_value_39 (nx := 42) rfl lk_X3_244 (hX.1 4 _ rfl) (by decide) rfl rfl (Nat.le_of_ble_eq_true rfl) (Nat.le_of_ble_eq_true rfl) (Nat.le_of_ble_eq_true rfl) (Nat.le_of_ble_eq_true rfl) (Nat.le_of_ble_eq_true rfl) (Nat.le_of_ble_eq_true rfl) (Nat.le_of_ble_eq_true rfl) (s_X1_valueAt hst hX h3 ht9 ?_)
  refine g_l2i hx dX3_value_42 (nx := 43) rfl ?_
  refine g_iret hx dX3_value_43 rfl rfl (Nat.le_of_ble_eq_true rfl) (Nat.le_of_ble_eq_true rfl) ?_
  subst hbe
  exact hk I' L' h1 h2

abbrev rmX3_isPeakk : Room := { frames := 6, cells := 0, slots := 0, locals := 142 }
set_option maxHeartbeats 4000000 in
set_option maxRecDepth 100000 in
theorem s_X3_isPeakk {l : Launch} {E : aE} {S : aS} {I : aI} {L : aL} {Rf : aR} {Kr : aK} {Kx : aX} (hst : l.stackTraces = false) {n nc k j oo : Nat} {w : Int32} (hC : lyC S Rf I n nc) (hk9 : k < n) (hj9 : j < 3) (hsi : ∀ t, t < 256 → vp_in (I (200 + 8 * k + 5) t) 4) (ho : I (200 + 8 * k) 13 = nI oo) (ho6 : oo ≤ 6) (hk : ∀ r : Int32, (r = 1 ∧ rgN w 1 30 ∧ pkP I (200 + 8 * k) (nI j) oo w) ∨ (r = 0 ∧ ¬ (rgN w 1 30 ∧ pkP I (200 + 8 * k) (nI j) oo w)) → ∀ I' L', eqX I' I → eqX L' L → Kr (some (.int r)) S I' L' Rf) : aMet l E yX3_isPeak cX3_isPeak 5 (some .boolean) rmX3_isPeakk [.ref 3, .int (nI k), .int (nI j), .int w] (S) (I) (L) (Rf) Kr Kx := by
  refine aMet.of (lv0 := [.ref 3, .int (nI k), .int (nI j), .int w, aU]) (z := 1) (by decide +kernel) hst rfl (Nat.le_of_ble_eq_true rfl) ?_
  intro p e s m args below meth c io0 hx hin hno
  have hx : aCx p l s m args meth c RX3 cX3_isPeak 5 (some .boolean) E := hx
  have hX := hC.1
  refine g_aloadG_n hx dX3_isPeak_0 rfl (nx := 1) rfl rfl ?_
  refine g_iloadG_n hx dX3_isPeak_1 rfl (nx := 2) rfl rfl ?_
  refine g_callV_M hx [_] (k' := 0) (n' := 0) dX3_isPeak_2 (nx := 5) rfl lk_X3_75 (hX.1 0 _ rfl) (by decide) rfl rfl (Nat.le_of_ble_eq_true rfl) (Nat.le_of_ble_eq_true rfl) (Nat.le_of_ble_eq_true rfl) (Nat.le_of_ble_eq_true rfl) (Nat.le_of_ble_eq_true rfl) (Nat.le_of_ble_eq_true rfl) (Nat.le_of_ble_eq_true rfl) (s_X3_starAtk hst hC hk9 ?_)
  obtain ⟨b, hbe⟩ : ∃ b, b = 200 + 8 * k := ⟨_, rfl⟩
  rw [← hbe]
  have hB : lyS S Rf b := by rw [hbe]; exact hC.star (Nat.le_of_lt hk9)
  have hb := hB.2.2
  refine g_astore_4 hx dX3_isPeak_5 (nx := 7) rfl (by decide) rfl ?_
  refine g_iloadG_n hx dX3_isPeak_7 rfl (nx := 8) rfl rfl ?_
  refine g_callS_M hx [_] (k' := 0) (n' := 0) dX3_isPeak_8 (nx := 11) rfl lk_X3_109 rfl (Nat.le_of_ble_eq_true rfl) (Nat.le_of_ble_eq_true rfl) (Nat.le_of_ble_eq_true rfl) (Nat.le_of_ble_eq_true rfl) (Nat.le_of_ble_eq_true rfl) (Nat.le_of_ble_eq_true rfl) (Nat.le_of_ble_eq_true rfl) (s_X3_lookForFilterk hst hj9 ?_)
  refine g_aloadG_n hx dX3_isPeak_11 rfl (nx := 12) rfl rfl ?_
  refine g_aloadG hx dX3_isPeak_12 (nx := 14) rfl rfl ?_
  refine g_iloadG_n hx dX3_isPeak_14 rfl (nx := 15) rfl rfl ?_
  refine g_iloadG_n hx dX3_isPeak_15 rfl (nx := 16) rfl rfl ?_
  refine g_callV_M hx [_, _, _] (k' := 0) (n' := 0) dX3_isPeak_16 (nx := 19) rfl lk_X3_115 (hX.1 0 _ rfl) (by decide) rfl rfl (Nat.le_of_ble_eq_true rfl) (Nat.le_of_ble_eq_true rfl) (Nat.le_of_ble_eq_true rfl) (Nat.le_of_ble_eq_true rfl) (Nat.le_of_ble_eq_true rfl) (Nat.le_of_ble_eq_true rfl) (Nat.le_of_ble_eq_true rfl) (s_X3_standsOut (ok := oo) hst hC hB (by rw [hbe]; exact hsi) (by rw [hbe]; exact ho) ho6 (fun q => ?_) (fun q1 q2 I' L' h1 h2 => ?_) (fun q1 q2 I' L' h1 h2 h3 => ?_))
  · have hq := hk 0 (Or.inr ⟨rfl, fun z => q z.1⟩) I L (eqX.refl I) (eqX.refl L)
    refine g_iret hx dX3_isPeak_19 rfl rfl (Nat.le_of_ble_eq_true rfl) (Nat.le_of_ble_eq_true rfl) ?_
    exact hq
  · have hq := hk 0 (Or.inr ⟨rfl, fun z => q2 (by rw [hbe]; exact z.2)⟩) I' L' h1 h2
    refine g_iret hx dX3_isPeak_19 rfl rfl (Nat.le_of_ble_eq_true rfl) (Nat.le_of_ble_eq_true rfl) ?_
    exact hq
  · have hq := hk 1 (Or.inl ⟨rfl, q1, by rw [← hbe]; exact q2⟩) I' L' h1 h2
    refine g_iret hx dX3_isPeak_19 rfl rfl (Nat.le_of_ble_eq_true rfl) (Nat.le_of_ble_eq_true rfl) ?_
    exact hq

abbrev rmX3_isSoundk : Room := { frames := 6, cells := 0, slots := 0, locals := 139 }
set_option maxHeartbeats 4000000 in
set_option maxRecDepth 100000 in
theorem s_X3_isSoundk {l : Launch} {E : aE} {S : aS} {I : aI} {L : aL} {Rf : aR} {Kr : aK} {Kx : aX} (hst : l.stackTraces = false) {n nc i s9 d9 : Nat} {oo : Nat → Nat} (hC : lyC S Rf I n nc) (ih : i < nc) (hsi : ∀ k, k < n → ∀ t, t < 256 → vp_in (I (200 + 8 * k + 5) t) 4) (hoo : ∀ k, k < n → I (200 + 8 * k) 13 = nI (oo k) ∧ oo k ≤ 6) (hs9 : s9 < n) (h1c : I (100 + i) 1 = nI s9) (h4c : I (100 + i) 4 = nI d9) (hd9 : d9 ≤ 6) (hk : ∀ I' L', eqX I' I → eqX L' L → Kr (some (.int (zI (hlP I L (100 + i) (200 + 8 * s9) (min d9 (oo s9)))))) S I' L' Rf) : aMet l E yX3_isSound cX3_isSound 2 (some .boolean) rmX3_isSoundk [.ref 3, .int (nI i)] (S) (I) (L) (Rf) Kr Kx := by
  refine aMet.of (lv0 := [.ref 3, .int (nI i)]) (z := 0) (by decide +kernel) hst rfl (Nat.le_of_ble_eq_true rfl) ?_
  intro p e s m args below meth c io0 hx hin hno
  have hx : aCx p l s m args meth c RX3 cX3_isSound 2 (some .boolean) E := hx
  have hX := hC.1
  have hc40 := hC.2.2.1
  refine g_aloadG_n hx dX3_isSound_0 rfl (nx := 1) rfl rfl ?_
  refine g_aloadG_n hx dX3_isSound_1 rfl (nx := 2) rfl rfl ?_
  refine g_iloadG_n hx dX3_isSound_2 rfl (nx := 3) rfl rfl ?_
  refine g_callV_M hx [_] (k' := 0) (n' := 0) dX3_isSound_3 (nx := 6) rfl lk_X3_139 (hX.1 0 _ rfl) (by decide) rfl rfl (Nat.le_of_ble_eq_true rfl) (Nat.le_of_ble_eq_true rfl) (Nat.le_of_ble_eq_true rfl) (Nat.le_of_ble_eq_true rfl) (Nat.le_of_ble_eq_true rfl) (Nat.le_of_ble_eq_true rfl) (Nat.le_of_ble_eq_true rfl) (s_X3_claimAtk hst hC ih ?_)
  obtain ⟨ic, ice⟩ : ∃ c, c = 100 + i := ⟨_, rfl⟩
  rw [← ice]
  have iS : S ic = some (.inr 0) := by rw [ice]; exact (hC.cl ih).1
  refine g_callV_M hx [_] (k' := 0) (n' := 0) dX3_isSound_6 (nx := 9) rfl lk_X3_201 (hX.1 0 _ rfl) (by decide) rfl rfl (Nat.le_of_ble_eq_true rfl) (Nat.le_of_ble_eq_true rfl) (Nat.le_of_ble_eq_true rfl) (Nat.le_of_ble_eq_true rfl) (Nat.le_of_ble_eq_true rfl) (Nat.le_of_ble_eq_true rfl) (Nat.le_of_ble_eq_true rfl) (s_X3_holds (k := s9) (d := d9) (oo := oo) hst hC hsi hoo iS (by omega) hs9 (by rw [ice]; exact h1c) (by rw [ice]; exact h4c) hd9 (fun I' L' h1 h2 => ?_))
  refine g_iret hx dX3_isSound_9 rfl (zI_nar _) (Nat.le_of_ble_eq_true rfl) (Nat.le_of_ble_eq_true rfl) ?_
  subst ice
  exact hk I' L' h1 h2

abbrev rmX3_crossingAnewk : Room := { frames := 1, cells := 0, slots := 0, locals := 24 }
set_option maxHeartbeats 4000000 in
set_option maxRecDepth 100000 in
theorem s_X3_crossingAnewk {l : Launch} {E : aE} {S : aS} {I : aI} {L : aL} {Rf : aR} {Kr : aK} {Kx : aX} (hst : l.stackTraces = false) {n nc k ss : Nat} {ff gg : Nat → Nat} (hC : lyC S Rf I n nc) (hk9 : k < n) (h3 : I (200 + 8 * k) 3 = nI ss) (hs8 : ss ≤ 8) (hsh : ∀ i, i < ss → I (200 + 8 * k + 1) i = nI (ff i) ∧ I (200 + 8 * k + 2) i = nI (gg i) ∧ ff i ≤ 99 ∧ 1 ≤ gg i ∧ gg i ≤ 99) (hk : Kr (some (.int (crS (fun i => I (200 + 8 * k + 1) i) (fun i => I (200 + 8 * k + 2) i) ss))) S I L Rf) : aMet l E yX3_crossingAnew cX3_crossingAnew 2 (some .int) rmX3_crossingAnewk [.ref 3, .int (nI k)] (S) (I) (L) (Rf) Kr Kx := by
  refine aMet.of (lv0 := [.ref 3, .int (nI k)]) (z := 0) (by decide +kernel) hst rfl (Nat.le_of_ble_eq_true rfl) ?_
  intro p e s m args below meth c io0 hx hin hno
  have hx : aCx p l s m args meth c RX3 cX3_crossingAnew 2 (some .int) E := hx
  have hX := hC.1
  refine g_aloadG_n hx dX3_crossingAnew_0 rfl (nx := 1) rfl rfl ?_
  refine g_iloadG_n hx dX3_crossingAnew_1 rfl (nx := 2) rfl rfl ?_
  refine g_callV_M hx [_] (k' := 0) (n' := 0) dX3_crossingAnew_2 (nx := 5) rfl lk_X3_75 (hX.1 0 _ rfl) (by decide) rfl rfl (Nat.le_of_ble_eq_true rfl) (Nat.le_of_ble_eq_true rfl) (Nat.le_of_ble_eq_true rfl) (Nat.le_of_ble_eq_true rfl) (Nat.le_of_ble_eq_true rfl) (Nat.le_of_ble_eq_true rfl) (Nat.le_of_ble_eq_true rfl) (s_X3_starAtk hst hC hk9 ?_)
  obtain ⟨b, hbe⟩ : ∃ b, b = 200 + 8 * k := ⟨_, rfl⟩
  rw [← hbe]
  have hB : lyS S Rf b := by rw [hbe]; exact hC.star (Nat.le_of_lt hk9)
  have hb := hB.2.2
  refine g_callNV_M hx [] (k' := 0) (n' := 0) dX3_crossingAnew_5 (nx := 8) rfl lk_X3_223 (lyS.ob hB) (by omega) rfl rfl (Nat.le_of_ble_eq_true rfl) (Nat.le_of_ble_eq_true rfl) (Nat.le_of_ble_eq_true rfl) (Nat.le_of_ble_eq_true rfl) (Nat.le_of_ble_eq_true rfl) (Nat.le_of_ble_eq_true rfl) (Nat.le_of_ble_eq_true rfl) (s_X2_crossedByUnits (n := ss) (f := ff) (g := gg) hst hB ?_ hs8 ?_ ?_)
  · rw [hbe]; exact h3
  · rw [hbe]; exact hsh
  · subst hbe
    refine g_iret hx dX3_crossingAnew_8 rfl rfl (Nat.le_of_ble_eq_true rfl) (Nat.le_of_ble_eq_true rfl) ?_
    exact hk

abbrev rmX3_tonek : Room := { frames := 2, cells := 0, slots := 0, locals := 48 }
set_option maxHeartbeats 4000000 in
set_option maxRecDepth 100000 in
theorem s_X3_tonek {l : Launch} {E : aE} {S : aS} {I : aI} {L : aL} {Rf : aR} {Kr : aK} {Kx : aX} (hst : l.stackTraces = false) {n nc k od dg : Nat} {v : Int32} (hC : lyC S Rf I n nc) (hk9 : k < n) (ho1 : 1 ≤ od) (ho2 : od ≤ 12) (hd3 : dg ≤ 3) (hpt : iout v (-nI dg) (nI dg) = 0) (hk : Kr (some (.int (rgS I (200 + 8 * k) (nI od) (nI dg) v))) S I L Rf) : aMet l E yX3_tone cX3_tone 6 (some .int) rmX3_tonek [.ref 3, .int (nI k), .int (nI od), .int (nI dg), .int v] (S) (I) (L) (Rf) Kr Kx := by
  refine aMet.of (lv0 := [.ref 3, .int (nI k), .int (nI od), .int (nI dg), .int v, aU]) (z := 1) (by decide +kernel) hst rfl (Nat.le_of_ble_eq_true rfl) ?_
  intro p e s m args below meth c io0 hx hin hno
  have hx : aCx p l s m args meth c RX3 cX3_tone 6 (some .int) E := hx
  have hX := hC.1
  refine g_aloadG_n hx dX3_tone_0 rfl (nx := 1) rfl rfl ?_
  refine g_iloadG_n hx dX3_tone_1 rfl (nx := 2) rfl rfl ?_
  refine g_callV_M hx [_] (k' := 0) (n' := 0) dX3_tone_2 (nx := 5) rfl lk_X3_75 (hX.1 0 _ rfl) (by decide) rfl rfl (Nat.le_of_ble_eq_true rfl) (Nat.le_of_ble_eq_true rfl) (Nat.le_of_ble_eq_true rfl) (Nat.le_of_ble_eq_true rfl) (Nat.le_of_ble_eq_true rfl) (Nat.le_of_ble_eq_true rfl) (Nat.le_of_ble_eq_true rfl) (s_X3_starAtk hst hC hk9 ?_)
  obtain ⟨b, hbe⟩ : ∃ b, b = 200 + 8 * k := ⟨_, rfl⟩
  rw [← hbe]
  have hB : lyS S Rf b := by rw [hbe]; exact hC.star (Nat.le_of_lt hk9)
  have hb := hB.2.2
  refine g_astore_5 hx dX3_tone_5 (nx := 7) rfl (by decide) rfl ?_
  refine g_iloadG_n hx dX3_tone_7 rfl (nx := 8) rfl rfl ?_
  refine g_iconst hx dX3_tone_8 (nx := 9) rfl (v := 1) (by decide) ?_
  refine g_bipush hx dX3_tone_9 (nx := 11) rfl (v := 12) (by decide) ?_
  refine g_callS_M hx [_, _, _] (k' := 0) (n' := 0) dX3_tone_11 (nx := 14) rfl lk_X3_41 rfl (Nat.le_of_ble_eq_true rfl) (Nat.le_of_ble_eq_true rfl) (Nat.le_of_ble_eq_true rfl) (Nat.le_of_ble_eq_true rfl) (Nat.le_of_ble_eq_true rfl) (Nat.le_of_ble_eq_true rfl) (Nat.le_of_ble_eq_true rfl) (s_X3_isOutside hst ?_)
  refine g_if_ne hx dX3_tone_14 (tg := 37) (by decide) (nx := 17) rfl (fun c14 => ?_) (fun c14 => ?_)
  · exact absurd ((iout_z (x := nI od) (lo := 1) (hi := 12) (by decide) (by decide)).mpr ⟨od, ho1, ho2, rfl⟩) c14
  · refine g_iloadG_n hx dX3_tone_17 rfl (nx := 18) rfl rfl ?_
    refine g_iconst hx dX3_tone_18 (nx := 19) rfl (v := 0) (by decide) ?_
    refine g_iconst hx dX3_tone_19 (nx := 20) rfl (v := 3) (by decide) ?_
    refine g_callS_M hx [_, _, _] (k' := 0) (n' := 0) dX3_tone_20 (nx := 23) rfl lk_X3_41 rfl (Nat.le_of_ble_eq_true rfl) (Nat.le_of_ble_eq_true rfl) (Nat.le_of_ble_eq_true rfl) (Nat.le_of_ble_eq_true rfl) (Nat.le_of_ble_eq_true rfl) (Nat.le_of_ble_eq_true rfl) (Nat.le_of_ble_eq_true rfl) (s_X3_isOutside hst ?_)
    refine g_if_ne hx dX3_tone_23 (tg := 37) (by decide) (nx := 26) rfl (fun c23 => ?_) (fun c23 => ?_)
    · exact absurd ((iout_z (x := nI dg) (lo := 0) (hi := 3) (by decide) (by decide)).mpr ⟨dg, Nat.zero_le _, hd3, rfl⟩) c23
    · refine g_iloadG hx dX3_tone_26 (nx := 28) rfl rfl ?_
      refine g_iloadG_n hx dX3_tone_28 rfl (nx := 29) rfl rfl ?_
      refine g_ineg hx dX3_tone_29 (nx := 30) rfl ?_
      refine g_iloadG_n hx dX3_tone_30 rfl (nx := 31) rfl rfl ?_
      refine g_callS_M hx [_, _, _] (k' := 0) (n' := 0) dX3_tone_31 (nx := 34) rfl lk_X3_41 rfl (Nat.le_of_ble_eq_true rfl) (Nat.le_of_ble_eq_true rfl) (Nat.le_of_ble_eq_true rfl) (Nat.le_of_ble_eq_true rfl) (Nat.le_of_ble_eq_true rfl) (Nat.le_of_ble_eq_true rfl) (Nat.le_of_ble_eq_true rfl) (s_X3_isOutside hst ?_)
      refine g_if_eq hx dX3_tone_34 (tg := 47) (by decide) (nx := 37) rfl (fun c34 => ?_) (fun c34 => ?_)
      · refine g_aloadG hx dX3_tone_47 (nx := 49) rfl rfl ?_
        refine g_iloadG_n hx dX3_tone_49 rfl (nx := 50) rfl rfl ?_
        refine g_iloadG_n hx dX3_tone_50 rfl (nx := 51) rfl rfl ?_
        refine g_iloadG hx dX3_tone_51 (nx := 53) rfl rfl ?_
        refine g_callNV_M hx [_, _, _] (k' := 0) (n' := 0) dX3_tone_53 (nx := 56) rfl lk_X3_229 (lyS.ob hB) (by omega) rfl rfl (Nat.le_of_ble_eq_true rfl) (Nat.le_of_ble_eq_true rfl) (Nat.le_of_ble_eq_true rfl) (Nat.le_of_ble_eq_true rfl) (Nat.le_of_ble_eq_true rfl) (Nat.le_of_ble_eq_true rfl) (Nat.le_of_ble_eq_true rfl) (s_X2_ring hst hB ?_)
        refine g_iret hx dX3_tone_56 rfl rfl (Nat.le_of_ble_eq_true rfl) (Nat.le_of_ble_eq_true rfl) ?_
        subst hbe
        exact hk
      · exact absurd hpt c34

abbrev rmX3_shellk : Room := { frames := 1, cells := 0, slots := 0, locals := 23 }
set_option maxHeartbeats 4000000 in
set_option maxRecDepth 100000 in
theorem s_X3_shellk {l : Launch} {E : aE} {S : aS} {I : aI} {L : aL} {Rf : aR} {Kr : aK} {Kx : aX} (hst : l.stackTraces = false) {n nc sh a1 a2 a3 : Nat} (hC : lyC S Rf I n nc) (hsh : I (200 + 8 * n) 3 = nI sh) (h8 : sh < 8) (h1 : 1 ≤ a1) (h2 : a1 ≤ 99) (h3 : 1 ≤ a2) (h4 : a2 ≤ 99) (h5 : a3 ≤ 9) (hk : Kr (some (.int (nI (sh + 1)))) S (au2 (au2 (au2 (au2 I (200 + 8 * n + 1) sh (nI a1)) (200 + 8 * n + 2) sh (nI a2)) (200 + 8 * n + 3) sh (nI a3)) (200 + 8 * n) 3 (nI (sh + 1))) L Rf) : aMet l E yX3_shell cX3_shell 4 (some .int) rmX3_shellk [.ref 3, .int (nI a1), .int (nI a2), .int (nI a3)] (S) (I) (L) (Rf) Kr Kx := by
  refine aMet.of (lv0 := [.ref 3, .int (nI a1), .int (nI a2), .int (nI a3)]) (z := 0) (by decide +kernel) hst rfl (Nat.le_of_ble_eq_true rfl) ?_
  intro p e s m args below meth c io0 hx hin hno
  have hx : aCx p l s m args meth c RX3 cX3_shell 4 (some .int) E := hx
  obtain ⟨b, hbe⟩ : ∃ b, b = 200 + 8 * n := ⟨_, rfl⟩
  have hB : lyS S Rf b := by rw [hbe]; exact hC.star (Nat.le_refl n)
  have hb := hB.2.2
  have hbu : Rf 3 2 = some b := by rw [hbe]; exact hC.2.2.2.2.2.1
  have hX := hC.1
  rw [← hbe] at hsh
  refine g_iloadG_n hx dX3_shell_0 rfl (nx := 1) rfl rfl ?_
  refine g_iconst hx dX3_shell_1 (nx := 2) rfl (v := 1) (by decide) ?_
  refine g_bipush hx dX3_shell_2 (nx := 4) rfl (v := 99) (by decide) ?_
  refine g_callS_M hx [_, _, _] (k' := 0) (n' := 0) dX3_shell_4 (nx := 7) rfl lk_X3_41 rfl (Nat.le_of_ble_eq_true rfl) (Nat.le_of_ble_eq_true rfl) (Nat.le_of_ble_eq_true rfl) (Nat.le_of_ble_eq_true rfl) (Nat.le_of_ble_eq_true rfl) (Nat.le_of_ble_eq_true rfl) (Nat.le_of_ble_eq_true rfl) (s_X3_isOutside hst ?_)
  refine g_if_ne hx dX3_shell_7 (tg := 30) (by decide) (nx := 10) rfl (fun c7 => ?_) (fun c7 => ?_)
  · exact absurd ((iout_z (x := nI a1) (lo := 1) (hi := 99) (by decide) (by decide)).mpr ⟨a1, h1, h2, rfl⟩) c7
  · refine g_iloadG_n hx dX3_shell_10 rfl (nx := 11) rfl rfl ?_
    refine g_iconst hx dX3_shell_11 (nx := 12) rfl (v := 1) (by decide) ?_
    refine g_bipush hx dX3_shell_12 (nx := 14) rfl (v := 99) (by decide) ?_
    refine g_callS_M hx [_, _, _] (k' := 0) (n' := 0) dX3_shell_14 (nx := 17) rfl lk_X3_41 rfl (Nat.le_of_ble_eq_true rfl) (Nat.le_of_ble_eq_true rfl) (Nat.le_of_ble_eq_true rfl) (Nat.le_of_ble_eq_true rfl) (Nat.le_of_ble_eq_true rfl) (Nat.le_of_ble_eq_true rfl) (Nat.le_of_ble_eq_true rfl) (s_X3_isOutside hst ?_)
    refine g_if_ne hx dX3_shell_17 (tg := 30) (by decide) (nx := 20) rfl (fun c17 => ?_) (fun c17 => ?_)
    · exact absurd ((iout_z (x := nI a2) (lo := 1) (hi := 99) (by decide) (by decide)).mpr ⟨a2, h3, h4, rfl⟩) c17
    · refine g_iloadG_n hx dX3_shell_20 rfl (nx := 21) rfl rfl ?_
      refine g_iconst hx dX3_shell_21 (nx := 22) rfl (v := 0) (by decide) ?_
      refine g_bipush hx dX3_shell_22 (nx := 24) rfl (v := 9) (by decide) ?_
      refine g_callS_M hx [_, _, _] (k' := 0) (n' := 0) dX3_shell_24 (nx := 27) rfl lk_X3_41 rfl (Nat.le_of_ble_eq_true rfl) (Nat.le_of_ble_eq_true rfl) (Nat.le_of_ble_eq_true rfl) (Nat.le_of_ble_eq_true rfl) (Nat.le_of_ble_eq_true rfl) (Nat.le_of_ble_eq_true rfl) (Nat.le_of_ble_eq_true rfl) (s_X3_isOutside hst ?_)
      refine g_if_eq hx dX3_shell_27 (tg := 40) (by decide) (nx := 30) rfl (fun c27 => ?_) (fun c27 => ?_)
      · refine g_aloadG_n hx dX3_shell_40 rfl (nx := 41) rfl rfl ?_
        refine g_getfo_R hx dX3_shell_41 (nx := 44) rfl fa_X3_16 rfl (r9 := b) hbu (hX.1 0 _ rfl) (by decide) ?_
        refine g_getfn_i hx dX3_shell_44 (nx := 47) rfl fa_X3_52 rfl (lyS.ob hB) (by omega) ?_
        refine g_bipush hx dX3_shell_47 (nx := 49) rfl (v := 8) (by decide) ?_
        refine g_icmp_lt hx dX3_shell_49 (tg := 62) (by decide) (nx := 52) rfl (fun c49 => ?_) (fun c49 => ?_)
        · refine g_aloadG_n hx dX3_shell_62 rfl (nx := 63) rfl rfl ?_
          refine g_getfo_R hx dX3_shell_63 (nx := 66) rfl fa_X3_16 rfl (r9 := b) hbu (hX.1 0 _ rfl) (by decide) ?_
          refine g_iloadG_n hx dX3_shell_66 rfl (nx := 67) rfl rfl ?_
          refine g_iloadG_n hx dX3_shell_67 rfl (nx := 68) rfl rfl ?_
          refine g_iloadG_n hx dX3_shell_68 rfl (nx := 69) rfl rfl ?_
          refine g_callNV_M hx [_, _, _] (k' := 0) (n' := 0) dX3_shell_69 (nx := 72) rfl lk_X3_60 (lyS.ob hB) (by omega) rfl rfl (Nat.le_of_ble_eq_true rfl) (Nat.le_of_ble_eq_true rfl) (Nat.le_of_ble_eq_true rfl) (Nat.le_of_ble_eq_true rfl) (Nat.le_of_ble_eq_true rfl) (Nat.le_of_ble_eq_true rfl) (Nat.le_of_ble_eq_true rfl) (s_X2_addShell hst hB hsh (by omega) ?_)
          refine g_aloadG_n hx dX3_shell_72 rfl (nx := 73) rfl rfl ?_
          refine g_getfo_R hx dX3_shell_73 (nx := 76) rfl fa_X3_16 rfl (r9 := b) hbu (hX.1 0 _ rfl) (by decide) ?_
          refine g_getfn_i hx dX3_shell_76 (nx := 79) rfl fa_X3_52 rfl (lyS.ob hB) (by omega) ?_
          refine g_iret hx dX3_shell_79 rfl rfl (Nat.le_of_ble_eq_true rfl) (Nat.le_of_ble_eq_true rfl) ?_
          rw [au2_s]
          subst hbe
          exact hk
        · exact absurd (by rw [hsh]; exact nI_lt (b := 8) h8 (by decide)) c49
      · exact absurd ((iout_z (x := nI a3) (lo := 0) (hi := 9) (by decide) (by decide)).mpr ⟨a3, Nat.zero_le _, h5, rfl⟩) c27

abbrev rmX3_framesk : Room := { frames := 1, cells := 0, slots := 0, locals := 24 }
set_option maxHeartbeats 4000000 in
set_option maxRecDepth 100000 in
theorem s_X3_framesk {l : Launch} {E : aE} {S : aS} {I : aI} {L : aL} {Rf : aR} {Kr : aK} {Kx : aX} (hst : l.stackTraces = false) {n nc k : Nat} (hC : lyC S Rf I n nc) (hk9 : k < n) (hsi : ∀ t, t < 256 → vp_in (I (200 + 8 * k + 5) t) 4) (hk : ∀ I' L', eqX I' I → eqX L' L → Kr (some (.int (nI (aT (prs I (200 + 8 * k))).length))) S I' L' Rf) : aMet l E yX3_frames cX3_frames 2 (some .int) rmX3_framesk [.ref 3, .int (nI k)] (S) (I) (L) (Rf) Kr Kx := by
  refine aMet.of (lv0 := [.ref 3, .int (nI k)]) (z := 0) (by decide +kernel) hst rfl (Nat.le_of_ble_eq_true rfl) ?_
  intro p e s m args below meth c io0 hx hin hno
  have hx : aCx p l s m args meth c RX3 cX3_frames 2 (some .int) E := hx
  have hX := hC.1
  refine g_aloadG_n hx dX3_frames_0 rfl (nx := 1) rfl rfl ?_
  refine g_getfo_R hx dX3_frames_1 (nx := 4) rfl fa_X3_37 rfl (r9 := 7) hX.2.2.2.2.1 (hX.1 0 _ rfl) (by decide) ?_
  refine g_aloadG_n hx dX3_frames_4 rfl (nx := 5) rfl rfl ?_
  refine g_iloadG_n hx dX3_frames_5 rfl (nx := 6) rfl rfl ?_
  refine g_callV_M hx [_] (k' := 0) (n' := 0) dX3_frames_6 (nx := 9) rfl lk_X3_75 (hX.1 0 _ rfl) (by decide) rfl rfl (Nat.le_of_ble_eq_true rfl) (Nat.le_of_ble_eq_true rfl) (Nat.le_of_ble_eq_true rfl) (Nat.le_of_ble_eq_true rfl) (Nat.le_of_ble_eq_true rfl) (Nat.le_of_ble_eq_true rfl) (Nat.le_of_ble_eq_true rfl) (s_X3_starAtk hst hC hk9 ?_)
  obtain ⟨b, hbe⟩ : ∃ b, b = 200 + 8 * k := ⟨_, rfl⟩
  rw [← hbe]
  have hB : lyS S Rf b := by rw [hbe]; exact hC.star (Nat.le_of_lt hk9)
  have hb := hB.2.2
  refine g_aloadG_n hx dX3_frames_9 rfl (nx := 10) rfl rfl ?_
  refine g_getfo_R hx dX3_frames_10 (nx := 13) rfl fa_X3_20 rfl (r9 := 5) hX.2.2.1 (hX.1 0 _ rfl) (by decide) ?_
  refine g_callNV_M hx [_, _] (k' := 0) (n' := 0) dX3_frames_13 (nx := 16) rfl lk_X3_233 (hX.1 4 _ rfl) (by decide) rfl rfl (Nat.le_of_ble_eq_true rfl) (Nat.le_of_ble_eq_true rfl) (Nat.le_of_ble_eq_true rfl) (Nat.le_of_ble_eq_true rfl) (Nat.le_of_ble_eq_true rfl) (Nat.le_of_ble_eq_true rfl) (Nat.le_of_ble_eq_true rfl) (s_X1_gather hst hX hB (by rw [hbe]; exact hsi) rfl (fun I' L' h1 h2 h3 => ?_))
  refine g_aloadG_n hx dX3_frames_16 rfl (nx := 17) rfl rfl ?_
  refine g_getfo_R hx dX3_frames_17 (nx := 20) rfl fa_X3_37 rfl (r9 := 7) hX.2.2.2.2.1 (hX.1 0 _ rfl) (by decide) ?_
  refine g_getfn_i hx dX3_frames_20 (nx := 23) rfl fa_X3_237 rfl (hX.1 4 _ rfl) (by decide) ?_
  refine g_iret hx dX3_frames_23 rfl rfl (Nat.le_of_ble_eq_true rfl) (Nat.le_of_ble_eq_true rfl) ?_
  rw [h3.1]
  subst hbe
  exact hk I' L' h1 (fun a c _ _ h => h2 a c h)

abbrev rmX3_powerk : Room := { frames := 5, cells := 0, slots := 0, locals := 117 }
set_option maxHeartbeats 4000000 in
set_option maxRecDepth 100000 in
theorem s_X3_powerk {l : Launch} {E : aE} {S : aS} {I : aI} {L : aL} {Rf : aR} {Kr : aK} {Kx : aX} (hst : l.stackTraces = false) {n nc k j t oo : Nat} (hC : lyC S Rf I n nc) (hk9 : k < n) (hj9 : j < 3) (ht9 : t < 32) (hsi : ∀ t, t < 256 → vp_in (I (200 + 8 * k + 5) t) 4) (ho : I (200 + 8 * k) 13 = nI oo) (ho6 : oo ≤ 6) (hk : ∀ I' L', eqX I' I → eqX L' L → Kr (some (.long (pw (prs I (200 + 8 * k)) (laid I (200 + 8 * k) (nI j) oo) (nI t)))) S I' L' Rf) : aMet l E yX3_power cX3_power 5 (some .long) rmX3_powerk [.ref 3, .int (nI k), .int (nI j), .int (nI t)] (S) (I) (L) (Rf) Kr Kx := by
  refine aMet.of (lv0 := [.ref 3, .int (nI k), .int (nI j), .int (nI t), aU]) (z := 1) (by decide +kernel) hst rfl (Nat.le_of_ble_eq_true rfl) ?_
  intro p e s m args below meth c io0 hx hin hno
  have hx : aCx p l s m args meth c RX3 cX3_power 5 (some .long) E := hx
  have hX := hC.1
  refine g_aloadG_n hx dX3_power_0 rfl (nx := 1) rfl rfl ?_
  refine g_iloadG_n hx dX3_power_1 rfl (nx := 2) rfl rfl ?_
  refine g_callV_M hx [_] (k' := 0) (n' := 0) dX3_power_2 (nx := 5) rfl lk_X3_75 (hX.1 0 _ rfl) (by decide) rfl rfl (Nat.le_of_ble_eq_true rfl) (Nat.le_of_ble_eq_true rfl) (Nat.le_of_ble_eq_true rfl) (Nat.le_of_ble_eq_true rfl) (Nat.le_of_ble_eq_true rfl) (Nat.le_of_ble_eq_true rfl) (Nat.le_of_ble_eq_true rfl) (s_X3_starAtk hst hC hk9 ?_)
  obtain ⟨b, hbe⟩ : ∃ b, b = 200 + 8 * k := ⟨_, rfl⟩
  rw [← hbe]
  have hB : lyS S Rf b := by rw [hbe]; exact hC.star (Nat.le_of_lt hk9)
  have hb := hB.2.2
  refine g_astore_4 hx dX3_power_5 (nx := 7) rfl (by decide) rfl ?_
  refine g_iloadG_n hx dX3_power_7 rfl (nx := 8) rfl rfl ?_
  refine g_callS_M hx [_] (k' := 0) (n' := 0) dX3_power_8 (nx := 11) rfl lk_X3_109 rfl (Nat.le_of_ble_eq_true rfl) (Nat.le_of_ble_eq_true rfl) (Nat.le_of_ble_eq_true rfl) (Nat.le_of_ble_eq_true rfl) (Nat.le_of_ble_eq_true rfl) (Nat.le_of_ble_eq_true rfl) (Nat.le_of_ble_eq_true rfl) (s_X3_lookForFilterk hst hj9 ?_)
  refine g_iloadG_n hx dX3_power_11 rfl (nx := 12) rfl rfl ?_
  refine g_callS_M hx [_] (k' := 0) (n' := 0) dX3_power_12 (nx := 15) rfl lk_X3_247 rfl (Nat.le_of_ble_eq_true rfl) (Nat.le_of_ble_eq_true rfl) (Nat.le_of_ble_eq_true rfl) (Nat.le_of_ble_eq_true rfl) (Nat.le_of_ble_eq_true rfl) (Nat.le_of_ble_eq_true rfl) (Nat.le_of_ble_eq_true rfl) (s_X3_lookAtLinek hst ht9 ?_)
  refine g_aloadG_n hx dX3_power_15 rfl (nx := 16) rfl rfl ?_
  refine g_getfo_R hx dX3_power_16 (nx := 19) rfl fa_X3_37 rfl (r9 := 7) hX.2.2.2.2.1 (hX.1 0 _ rfl) (by decide) ?_
  refine g_aloadG hx dX3_power_19 (nx := 21) rfl rfl ?_
  refine g_aloadG_n hx dX3_power_21 rfl (nx := 22) rfl rfl ?_
  refine g_getfo_R hx dX3_power_22 (nx := 25) rfl fa_X3_20 rfl (r9 := 5) hX.2.2.1 (hX.1 0 _ rfl) (by decide) ?_
  refine g_iloadG_n hx dX3_power_25 rfl (nx := 26) rfl rfl ?_
  refine g_aloadG hx dX3_power_26 (nx := 28) rfl rfl ?_
  refine g_getfn_i hx dX3_power_28 (nx := 31) rfl fa_X3_101 rfl (lyS.ob hB) (by omega) ?_
  rw [show I b 13 = nI oo from by rw [hbe]; exact ho]
  refine g_callNV_M hx [_, _, _, _] (k' := 0) (n' := 0) dX3_power_31 (nx := 34) rfl lk_X3_240 (hX.1 4 _ rfl) (by decide) rfl rfl (Nat.le_of_ble_eq_true rfl) (Nat.le_of_ble_eq_true rfl) (Nat.le_of_ble_eq_true rfl) (Nat.le_of_ble_eq_true rfl) (Nat.le_of_ble_eq_true rfl) (Nat.le_of_ble_eq_true rfl) (Nat.le_of_ble_eq_true rfl) (s_X1_look (k := oo) hst hX hB (by rw [hbe]; exact hsi) ho6 (fun I' L' h1 h2 h3 => ?_))
  refine g_aloadG_n hx dX3_power_34 rfl (nx := 35) rfl rfl ?_
  refine g_getfo_R hx dX3_power_35 (nx := 38) rfl fa_X3_37 rfl (r9 := 7) hX.2.2.2.2.1 (hX.1 0 _ rfl) (by decide) ?_
  refine g_iloadG_n hx dX3_power_38 rfl (nx := 39) rfl rfl ?_
  refine g_callNV_M hx [_] (k' := 0) (n' := 0) dX3_power_39 (nx := 42) rfl lk_X3_127 (hX.1 4 _ rfl) (by decide) rfl rfl (Nat.le_of_ble_eq_true rfl) (Nat.le_of_ble_eq_true rfl) (Nat.le_of_ble_eq_true rfl) (Nat.le_of_ble_eq_true rfl) (Nat.le_of_ble_eq_true rfl) (Nat.le_of_ble_eq_true rfl) (Nat.le_of_ble_eq_true rfl) (s_X1_strength hst hX h3 (fun L2 g1 => ?_))
  refine g_lret hx dX3_power_42 rfl (Nat.le_of_ble_eq_true rfl) (Nat.le_of_ble_eq_true rfl) ?_
  subst hbe
  exact hk I' L2 h1 (fun a c k1 k2 k3 => (g1 a c k1).trans (h2 a c k1 k2 k3))

abbrev rmX3_windowk : Room := { frames := 4, cells := 0, slots := 0, locals := 88 }
set_option maxHeartbeats 4000000 in
set_option maxRecDepth 100000 in
theorem s_X3_windowk {l : Launch} {E : aE} {S : aS} {I : aI} {L : aL} {Rf : aR} {Kr : aK} {Kx : aX} (hst : l.stackTraces = false) {n nc k t : Nat} (hC : lyC S Rf I n nc) (hk9 : k < n) (ht9 : t < 32) (hsi : ∀ t, t < 256 → vp_in (I (200 + 8 * k + 5) t) 4) (hk : ∀ I' L', eqX I' I → eqX L' L → Kr (some (.long (pw (prs I (200 + 8 * k)) (fun _ => 1) (nI t)))) S I' L' Rf) : aMet l E yX3_window cX3_window 4 (some .long) rmX3_windowk [.ref 3, .int (nI k), .int (nI t)] (S) (I) (L) (Rf) Kr Kx := by
  refine aMet.of (lv0 := [.ref 3, .int (nI k), .int (nI t), aU]) (z := 1) (by decide +kernel) hst rfl (Nat.le_of_ble_eq_true rfl) ?_
  intro p e s m args below meth c io0 hx hin hno
  have hx : aCx p l s m args meth c RX3 cX3_window 4 (some .long) E := hx
  have hX := hC.1
  refine g_aloadG_n hx dX3_window_0 rfl (nx := 1) rfl rfl ?_
  refine g_iloadG_n hx dX3_window_1 rfl (nx := 2) rfl rfl ?_
  refine g_callV_M hx [_] (k' := 0) (n' := 0) dX3_window_2 (nx := 5) rfl lk_X3_75 (hX.1 0 _ rfl) (by decide) rfl rfl (Nat.le_of_ble_eq_true rfl) (Nat.le_of_ble_eq_true rfl) (Nat.le_of_ble_eq_true rfl) (Nat.le_of_ble_eq_true rfl) (Nat.le_of_ble_eq_true rfl) (Nat.le_of_ble_eq_true rfl) (Nat.le_of_ble_eq_true rfl) (s_X3_starAtk hst hC hk9 ?_)
  obtain ⟨b, hbe⟩ : ∃ b, b = 200 + 8 * k := ⟨_, rfl⟩
  rw [← hbe]
  have hB : lyS S Rf b := by rw [hbe]; exact hC.star (Nat.le_of_lt hk9)
  have hb := hB.2.2
  refine g_astore_3 hx dX3_window_5 (nx := 6) rfl (by decide) rfl ?_
  refine g_iloadG_n hx dX3_window_6 rfl (nx := 7) rfl rfl ?_
  refine g_callS_M hx [_] (k' := 0) (n' := 0) dX3_window_7 (nx := 10) rfl lk_X3_247 rfl (Nat.le_of_ble_eq_true rfl) (Nat.le_of_ble_eq_true rfl) (Nat.le_of_ble_eq_true rfl) (Nat.le_of_ble_eq_true rfl) (Nat.le_of_ble_eq_true rfl) (Nat.le_of_ble_eq_true rfl) (Nat.le_of_ble_eq_true rfl) (s_X3_lookAtLinek hst ht9 ?_)
  refine g_aloadG_n hx dX3_window_10 rfl (nx := 11) rfl rfl ?_
  refine g_getfo_R hx dX3_window_11 (nx := 14) rfl fa_X3_37 rfl (r9 := 7) hX.2.2.2.2.1 (hX.1 0 _ rfl) (by decide) ?_
  refine g_aloadG_n hx dX3_window_14 rfl (nx := 15) rfl rfl ?_
  refine g_aloadG_n hx dX3_window_15 rfl (nx := 16) rfl rfl ?_
  refine g_getfo_R hx dX3_window_16 (nx := 19) rfl fa_X3_20 rfl (r9 := 5) hX.2.2.1 (hX.1 0 _ rfl) (by decide) ?_
  refine g_callNV_M hx [_, _] (k' := 0) (n' := 0) dX3_window_19 (nx := 22) rfl lk_X3_233 (hX.1 4 _ rfl) (by decide) rfl rfl (Nat.le_of_ble_eq_true rfl) (Nat.le_of_ble_eq_true rfl) (Nat.le_of_ble_eq_true rfl) (Nat.le_of_ble_eq_true rfl) (Nat.le_of_ble_eq_true rfl) (Nat.le_of_ble_eq_true rfl) (Nat.le_of_ble_eq_true rfl) (s_X1_gather hst hX hB (by rw [hbe]; exact hsi) rfl (fun I' L' h1 h2 h3 => ?_))
  refine g_aloadG_n hx dX3_window_22 rfl (nx := 23) rfl rfl ?_
  refine g_getfo_R hx dX3_window_23 (nx := 26) rfl fa_X3_37 rfl (r9 := 7) hX.2.2.2.2.1 (hX.1 0 _ rfl) (by decide) ?_
  refine g_callNV_M hx [] (k' := 0) (n' := 0) dX3_window_26 (nx := 29) rfl lk_X3_250 (hX.1 4 _ rfl) (by decide) rfl rfl (Nat.le_of_ble_eq_true rfl) (Nat.le_of_ble_eq_true rfl) (Nat.le_of_ble_eq_true rfl) (Nat.le_of_ble_eq_true rfl) (Nat.le_of_ble_eq_true rfl) (Nat.le_of_ble_eq_true rfl) (Nat.le_of_ble_eq_true rfl) (s_X1_flatten hst hX h3 (fun L2 g1 g2 => ?_))
  refine g_aloadG_n hx dX3_window_29 rfl (nx := 30) rfl rfl ?_
  refine g_getfo_R hx dX3_window_30 (nx := 33) rfl fa_X3_37 rfl (r9 := 7) hX.2.2.2.2.1 (hX.1 0 _ rfl) (by decide) ?_
  refine g_iloadG_n hx dX3_window_33 rfl (nx := 34) rfl rfl ?_
  refine g_callNV_M hx [_] (k' := 0) (n' := 0) dX3_window_34 (nx := 37) rfl lk_X3_127 (hX.1 4 _ rfl) (by decide) rfl rfl (Nat.le_of_ble_eq_true rfl) (Nat.le_of_ble_eq_true rfl) (Nat.le_of_ble_eq_true rfl) (Nat.le_of_ble_eq_true rfl) (Nat.le_of_ble_eq_true rfl) (Nat.le_of_ble_eq_true rfl) (Nat.le_of_ble_eq_true rfl) (s_X1_strength hst hX g2 (fun L3 g3 => ?_))
  refine g_lret hx dX3_window_37 rfl (Nat.le_of_ble_eq_true rfl) (Nat.le_of_ble_eq_true rfl) ?_
  subst hbe
  exact hk I' L3 h1 (fun a c k1 k2 k3 => (g3 a c k1).trans ((g1 a c k3).trans (h2 a c k3)))

abbrev rmX3_putBackk : Room := { frames := 1, cells := 0, slots := 0, locals := 21 }
set_option maxHeartbeats 4000000 in
set_option maxRecDepth 100000 in
theorem s_X3_putBackk {l : Launch} {E : aE} {S : aS} {I : aI} {L : aL} {Rf : aR} {Kr : aK} {Kx : aX} (hst : l.stackTraces = false) {n nc k : Nat} (hC : lyC S Rf I n nc) (hk9 : k < n) (hk : Kr (some (.int (I (200 + 8 * k) 13))) S (au2 I (200 + 8 * k) 13 0) L Rf) : aMet l E yX3_putBack cX3_putBack 4 (some .int) rmX3_putBackk [.ref 3, .int (nI k)] (S) (I) (L) (Rf) Kr Kx := by
  refine aMet.of (lv0 := [.ref 3, .int (nI k), aU, aU]) (z := 2) (by decide +kernel) hst rfl (Nat.le_of_ble_eq_true rfl) ?_
  intro p e s m args below meth c io0 hx hin hno
  have hx : aCx p l s m args meth c RX3 cX3_putBack 4 (some .int) E := hx
  have hX := hC.1
  refine g_aloadG_n hx dX3_putBack_0 rfl (nx := 1) rfl rfl ?_
  refine g_iloadG_n hx dX3_putBack_1 rfl (nx := 2) rfl rfl ?_
  refine g_callV_M hx [_] (k' := 0) (n' := 0) dX3_putBack_2 (nx := 5) rfl lk_X3_75 (hX.1 0 _ rfl) (by decide) rfl rfl (Nat.le_of_ble_eq_true rfl) (Nat.le_of_ble_eq_true rfl) (Nat.le_of_ble_eq_true rfl) (Nat.le_of_ble_eq_true rfl) (Nat.le_of_ble_eq_true rfl) (Nat.le_of_ble_eq_true rfl) (Nat.le_of_ble_eq_true rfl) (s_X3_starAtk hst hC hk9 ?_)
  obtain ⟨b, hbe⟩ : ∃ b, b = 200 + 8 * k := ⟨_, rfl⟩
  rw [← hbe]
  have hB : lyS S Rf b := by rw [hbe]; exact hC.star (Nat.le_of_lt hk9)
  have hb := hB.2.2
  refine g_astore_2 hx dX3_putBack_5 (nx := 6) rfl (by decide) rfl ?_
  refine g_aloadG_n hx dX3_putBack_6 rfl (nx := 7) rfl rfl ?_
  refine g_getfn_i hx dX3_putBack_7 (nx := 10) rfl fa_X3_101 rfl (lyS.ob hB) (by omega) ?_
  refine g_istore_3 hx dX3_putBack_10 (nx := 11) rfl (by decide) rfl ?_
  refine g_aloadG_n hx dX3_putBack_11 rfl (nx := 12) rfl rfl ?_
  refine g_iconst hx dX3_putBack_12 (nx := 13) rfl (v := 0) (by decide) ?_
  refine g_putfn_i hx dX3_putBack_13 (nx := 16) rfl fa_X3_101 rfl rfl rfl (fun r h => by cases h; rfl) (lyS.ob hB) (by omega) ?_
  refine g_iloadG_n hx dX3_putBack_16 rfl (nx := 17) rfl rfl ?_
  refine g_iret hx dX3_putBack_17 rfl rfl (Nat.le_of_ble_eq_true rfl) (Nat.le_of_ble_eq_true rfl) ?_
  subst hbe
  exact hk

abbrev rmX3_thresholdk : Room := { frames := 1, cells := 0, slots := 0, locals := 22 }
set_option maxHeartbeats 4000000 in
set_option maxRecDepth 100000 in
theorem s_X3_thresholdk {l : Launch} {E : aE} {S : aS} {I : aI} {L : aL} {Rf : aR} {Kr : aK} {Kx : aX} (hst : l.stackTraces = false) {n nc a1 : Nat} (hC : lyC S Rf I n nc) (h1 : 1 ≤ a1) (h2 : a1 ≤ 1000000000) (hk : Kr (some (.int (I 3 4))) S (au2 I 3 4 (nI a1)) L Rf) : aMet l E yX3_threshold cX3_threshold 3 (some .int) rmX3_thresholdk [.ref 3, .int (nI a1)] (S) (I) (L) (Rf) Kr Kx := by
  refine aMet.of (lv0 := [.ref 3, .int (nI a1), aU]) (z := 1) (by decide +kernel) hst rfl (Nat.le_of_ble_eq_true rfl) ?_
  intro p e s m args below meth c io0 hx hin hno
  have hx : aCx p l s m args meth c RX3 cX3_threshold 3 (some .int) E := hx
  have hX := hC.1
  refine g_iloadG_n hx dX3_threshold_0 rfl (nx := 1) rfl rfl ?_
  refine g_iconst hx dX3_threshold_1 (nx := 2) rfl (v := 1) (by decide) ?_
  refine g_ldc hx dX3_threshold_2 (nx := 4) rfl kc_X3_96 ?_
  refine g_callS_M hx [_, _, _] (k' := 0) (n' := 0) dX3_threshold_4 (nx := 7) rfl lk_X3_41 rfl (Nat.le_of_ble_eq_true rfl) (Nat.le_of_ble_eq_true rfl) (Nat.le_of_ble_eq_true rfl) (Nat.le_of_ble_eq_true rfl) (Nat.le_of_ble_eq_true rfl) (Nat.le_of_ble_eq_true rfl) (Nat.le_of_ble_eq_true rfl) (s_X3_isOutside hst ?_)
  refine g_if_eq hx dX3_threshold_7 (tg := 20) (by decide) (nx := 10) rfl (fun c7 => ?_) (fun c7 => ?_)
  · refine g_aloadG_n hx dX3_threshold_20 rfl (nx := 21) rfl rfl ?_
    refine g_getfo_i hx dX3_threshold_21 (nx := 24) rfl fa_X3_24 rfl (hX.1 0 _ rfl) (by decide) ?_
    refine g_istore_2 hx dX3_threshold_24 (nx := 25) rfl (by decide) rfl ?_
    refine g_aloadG_n hx dX3_threshold_25 rfl (nx := 26) rfl rfl ?_
    refine g_iloadG_n hx dX3_threshold_26 rfl (nx := 27) rfl rfl ?_
    refine g_putfo_i hx dX3_threshold_27 (nx := 30) rfl fa_X3_24 rfl rfl rfl (fun r h => by cases h; rfl) (hX.1 0 _ rfl) (by decide) ?_
    refine g_iloadG_n hx dX3_threshold_30 rfl (nx := 31) rfl rfl ?_
    refine g_iret hx dX3_threshold_31 rfl rfl (Nat.le_of_ble_eq_true rfl) (Nat.le_of_ble_eq_true rfl) ?_
    exact hk
  · exact absurd ((iout_z (x := nI a1) (lo := 1) (hi := 1000000000) (by decide) (by decide)).mpr ⟨a1, h1, h2, rfl⟩) c7

abbrev rmX3_lookForSitek : Room := { frames := 1, cells := 0, slots := 0, locals := 22 }
set_option maxHeartbeats 4000000 in
set_option maxRecDepth 100000 in
theorem s_X3_lookForSitek {l : Launch} {E : aE} {S : aS} {I : aI} {L : aL} {Rf : aR} {Kr : aK} {Kx : aX} (hst : l.stackTraces = false) {j : Nat} (hj9 : j < 4) (hk : Kr none S I L Rf) : aMet l E yX3_lookForSite cX3_lookForSite 1 none rmX3_lookForSitek [.int (nI j)] (S) (I) (L) (Rf) Kr Kx := by
  refine aMet.of (lv0 := [.int (nI j)]) (z := 0) (by decide +kernel) hst rfl (Nat.le_of_ble_eq_true rfl) ?_
  intro p e s m args below meth c io0 hx hin hno
  have hx : aCx p l s m args meth c RX3 cX3_lookForSite 1 none E := hx
  refine g_iloadG_n hx dX3_lookForSite_0 rfl (nx := 1) rfl rfl ?_
  refine g_iconst hx dX3_lookForSite_1 (nx := 2) rfl (v := 0) (by decide) ?_
  refine g_iconst hx dX3_lookForSite_2 (nx := 3) rfl (v := 3) (by decide) ?_
  refine g_callS_M hx [_, _, _] (k' := 0) (n' := 0) dX3_lookForSite_3 (nx := 6) rfl lk_X3_41 rfl (Nat.le_of_ble_eq_true rfl) (Nat.le_of_ble_eq_true rfl) (Nat.le_of_ble_eq_true rfl) (Nat.le_of_ble_eq_true rfl) (Nat.le_of_ble_eq_true rfl) (Nat.le_of_ble_eq_true rfl) (Nat.le_of_ble_eq_true rfl) (s_X3_isOutside hst ?_)
  refine g_if_eq hx dX3_lookForSite_6 (tg := 20) (by decide) (nx := 9) rfl (fun c6 => ?_) (fun c6 => ?_)
  · refine g_vret hx dX3_lookForSite_20 rfl (Nat.le_of_ble_eq_true rfl) (Nat.le_of_ble_eq_true rfl) ?_
    exact hk
  · exact absurd ((iout_z (x := nI j) (lo := 0) (hi := 3) (by decide) (by decide)).mpr (rgN_in.mpr ⟨j, hj9, rfl⟩)) c6

abbrev rmX3_maskk : Room := { frames := 2, cells := 0, slots := 0, locals := 42 }
set_option maxHeartbeats 4000000 in
set_option maxRecDepth 100000 in
theorem s_X3_maskk {l : Launch} {E : aE} {S : aS} {I : aI} {L : aL} {Rf : aR} {Kr : aK} {Kx : aX} (hst : l.stackTraces = false) {n nc j : Nat} {y : Int32} (hC : lyC S Rf I n nc) (hj9 : j < 4) (hy : narrow .boolean (.int y) = .int y) (hm : narrow .boolean (.int (I 5 j)) = .int (I 5 j)) (hk : Kr (some (.int (I 5 j))) S (au2 I 5 j y) L Rf) : aMet l E yX3_mask cX3_mask 4 (some .boolean) rmX3_maskk [.ref 3, .int (nI j), .int y] (S) (I) (L) (Rf) Kr Kx := by
  refine aMet.of (lv0 := [.ref 3, .int (nI j), .int y, aU]) (z := 1) (by decide +kernel) hst rfl (Nat.le_of_ble_eq_true rfl) ?_
  intro p e s m args below meth c io0 hx hin hno
  have hx : aCx p l s m args meth c RX3 cX3_mask 4 (some .boolean) E := hx
  have hX := hC.1
  refine g_iloadG_n hx dX3_mask_0 rfl (nx := 1) rfl rfl ?_
  refine g_callS_M hx [_] (k' := 0) (n' := 0) dX3_mask_1 (nx := 4) rfl lk_X3_79 rfl (Nat.le_of_ble_eq_true rfl) (Nat.le_of_ble_eq_true rfl) (Nat.le_of_ble_eq_true rfl) (Nat.le_of_ble_eq_true rfl) (Nat.le_of_ble_eq_true rfl) (Nat.le_of_ble_eq_true rfl) (Nat.le_of_ble_eq_true rfl) (s_X3_lookForSitek hst hj9 ?_)
  have hin9 : vp_in (nI j) 4 := vp_in_nI hj9 (by decide)
  have hjc : (nI j).toNatClampNeg = j := nI_clamp (by omega)
  refine g_aloadG_n hx dX3_mask_4 rfl (nx := 5) rfl rfl ?_
  refine g_getfo_R hx dX3_mask_5 (nx := 8) rfl fa_X3_20 rfl (r9 := 5) hX.2.2.1 (hX.1 0 _ rfl) (by decide) ?_
  refine g_iloadG_n hx dX3_mask_8 rfl (nx := 9) rfl rfl ?_
  refine g_baload hx dX3_mask_9 (nx := 10) rfl (hX.1 2 _ rfl) (by decide) hin9 ?_
  refine g_istore_3 hx dX3_mask_10 (nx := 11) rfl (by decide) rfl ?_
  refine g_aloadG_n hx dX3_mask_11 rfl (nx := 12) rfl rfl ?_
  refine g_getfo_R hx dX3_mask_12 (nx := 15) rfl fa_X3_20 rfl (r9 := 5) hX.2.2.1 (hX.1 0 _ rfl) (by decide) ?_
  refine g_iloadG_n hx dX3_mask_15 rfl (nx := 16) rfl rfl ?_
  refine g_iloadG_n hx dX3_mask_16 rfl (nx := 17) rfl rfl ?_
  refine g_bastore hx dX3_mask_17 (nx := 18) rfl (hX.1 2 _ rfl) (by decide) hin9 hy ?_
  refine g_iloadG_n hx dX3_mask_18 rfl (nx := 19) rfl rfl ?_
  refine g_iret hx dX3_mask_19 rfl (by rw [hjc]; exact hm) (Nat.le_of_ble_eq_true rfl) (Nat.le_of_ble_eq_true rfl) ?_
  rw [hjc]
  exact hk

abbrev rmX3_framek : Room := { frames := 2, cells := 0, slots := 0, locals := 42 }
set_option maxHeartbeats 4000000 in
set_option maxRecDepth 100000 in
theorem s_X3_framek {l : Launch} {E : aE} {S : aS} {I : aI} {L : aL} {Rf : aR} {Kr : aK} {Kx : aX} (hst : l.stackTraces = false) {n nc k j t v1 : Nat} (hC : lyC S Rf I n nc) (hk9 : k < n) (hj9 : j < 4) (ht9 : t < 256) (hv9 : v1 < 10000) (hk : Kr (some (.int (I (200 + 8 * k + 4) t))) S (au2 (au2 I (200 + 8 * k + 4) t (nI v1)) (200 + 8 * k + 5) t (nI j)) L Rf) : aMet l E yX3_frame cX3_frame 7 (some .int) rmX3_framek [.ref 3, .int (nI k), .int (nI j), .int (nI t), .int (nI v1)] (S) (I) (L) (Rf) Kr Kx := by
  refine aMet.of (lv0 := [.ref 3, .int (nI k), .int (nI j), .int (nI t), .int (nI v1), aU, aU]) (z := 2) (by decide +kernel) hst rfl (Nat.le_of_ble_eq_true rfl) ?_
  intro p e s m args below meth c io0 hx hin hno
  have hx : aCx p l s m args meth c RX3 cX3_frame 7 (some .int) E := hx
  have hX := hC.1
  refine g_aloadG_n hx dX3_frame_0 rfl (nx := 1) rfl rfl ?_
  refine g_iloadG_n hx dX3_frame_1 rfl (nx := 2) rfl rfl ?_
  refine g_callV_M hx [_] (k' := 0) (n' := 0) dX3_frame_2 (nx := 5) rfl lk_X3_75 (hX.1 0 _ rfl) (by decide) rfl rfl (Nat.le_of_ble_eq_true rfl) (Nat.le_of_ble_eq_true rfl) (Nat.le_of_ble_eq_true rfl) (Nat.le_of_ble_eq_true rfl) (Nat.le_of_ble_eq_true rfl) (Nat.le_of_ble_eq_true rfl) (Nat.le_of_ble_eq_true rfl) (s_X3_starAtk hst hC hk9 ?_)
  obtain ⟨b, hbe⟩ : ∃ b, b = 200 + 8 * k := ⟨_, rfl⟩
  rw [← hbe]
  have hB : lyS S Rf b := by rw [hbe]; exact hC.star (Nat.le_of_lt hk9)
  have hb := hB.2.2
  refine g_astore_5 hx dX3_frame_5 (nx := 7) rfl (by decide) rfl ?_
  refine g_iloadG_n hx dX3_frame_7 rfl (nx := 8) rfl rfl ?_
  refine g_callS_M hx [_] (k' := 0) (n' := 0) dX3_frame_8 (nx := 11) rfl lk_X3_79 rfl (Nat.le_of_ble_eq_true rfl) (Nat.le_of_ble_eq_true rfl) (Nat.le_of_ble_eq_true rfl) (Nat.le_of_ble_eq_true rfl) (Nat.le_of_ble_eq_true rfl) (Nat.le_of_ble_eq_true rfl) (Nat.le_of_ble_eq_true rfl) (s_X3_lookForSitek hst hj9 ?_)
  refine g_iloadG_n hx dX3_frame_11 rfl (nx := 12) rfl rfl ?_
  refine g_callS_M hx [_] (k' := 0) (n' := 0) dX3_frame_12 (nx := 15) rfl lk_X3_82 rfl (Nat.le_of_ble_eq_true rfl) (Nat.le_of_ble_eq_true rfl) (Nat.le_of_ble_eq_true rfl) (Nat.le_of_ble_eq_true rfl) (Nat.le_of_ble_eq_true rfl) (Nat.le_of_ble_eq_true rfl) (Nat.le_of_ble_eq_true rfl) (s_X3_lookAtTimek hst ht9 ?_)
  refine g_iloadG hx dX3_frame_15 (nx := 17) rfl rfl ?_
  refine g_iconst hx dX3_frame_17 (nx := 18) rfl (v := 0) (by decide) ?_
  refine g_sipush hx dX3_frame_18 (nx := 21) rfl (v := 9999) (by decide) ?_
  refine g_callS_M hx [_, _, _] (k' := 0) (n' := 0) dX3_frame_21 (nx := 24) rfl lk_X3_41 rfl (Nat.le_of_ble_eq_true rfl) (Nat.le_of_ble_eq_true rfl) (Nat.le_of_ble_eq_true rfl) (Nat.le_of_ble_eq_true rfl) (Nat.le_of_ble_eq_true rfl) (Nat.le_of_ble_eq_true rfl) (Nat.le_of_ble_eq_true rfl) (s_X3_isOutside hst ?_)
  refine g_if_eq hx dX3_frame_24 (tg := 37) (by decide) (nx := 27) rfl (fun c24 => ?_) (fun c24 => ?_)
  · have hin9 : vp_in (nI t) 256 := vp_in_nI ht9 (by decide)
    have htc : (nI t).toNatClampNeg = t := nI_clamp (by omega)
    refine g_aloadG hx dX3_frame_37 (nx := 39) rfl rfl ?_
    refine g_getfn_R hx dX3_frame_39 (nx := 42) rfl fa_X3_87 rfl (r9 := b + 4) (hB.2.1 10 4 rfl) (lyS.ob hB) (by omega) ?_
    refine g_iloadG_n hx dX3_frame_42 rfl (nx := 43) rfl rfl ?_
    refine g_iaload hx dX3_frame_43 (nx := 44) rfl (hB.1 4 _ rfl) (by omega) hin9 ?_
    refine g_istore_6 hx dX3_frame_44 (nx := 46) rfl (by decide) rfl ?_
    refine g_aloadG hx dX3_frame_46 (nx := 48) rfl rfl ?_
    refine g_getfn_R hx dX3_frame_48 (nx := 51) rfl fa_X3_87 rfl (r9 := b + 4) (hB.2.1 10 4 rfl) (lyS.ob hB) (by omega) ?_
    refine g_iloadG_n hx dX3_frame_51 rfl (nx := 52) rfl rfl ?_
    refine g_iloadG hx dX3_frame_52 (nx := 54) rfl rfl ?_
    refine g_iastore hx dX3_frame_54 (nx := 55) rfl (hB.1 4 _ rfl) (by omega) hin9 ?_
    refine g_aloadG hx dX3_frame_55 (nx := 57) rfl rfl ?_
    refine g_getfn_R hx dX3_frame_57 (nx := 60) rfl fa_X3_91 rfl (r9 := b + 5) (hB.2.1 11 5 rfl) (lyS.ob hB) (by omega) ?_
    refine g_iloadG_n hx dX3_frame_60 rfl (nx := 61) rfl rfl ?_
    refine g_iloadG_n hx dX3_frame_61 rfl (nx := 62) rfl rfl ?_
    refine g_iastore hx dX3_frame_62 (nx := 63) rfl (hB.1 5 _ rfl) (by omega) hin9 ?_
    refine g_iloadG hx dX3_frame_63 (nx := 65) rfl rfl ?_
    refine g_iret hx dX3_frame_65 rfl rfl (Nat.le_of_ble_eq_true rfl) (Nat.le_of_ble_eq_true rfl) ?_
    rw [htc]
    subst hbe
    exact hk
  · exact absurd ((iout_z (x := nI v1) (lo := 0) (hi := 9999) (by decide) (by decide)).mpr ⟨v1, Nat.zero_le _, by omega, rfl⟩) c24

abbrev rmX3_isSeenThroughk : Room := { frames := 5, cells := 0, slots := 0, locals := 117 }
set_option maxHeartbeats 4000000 in
set_option maxRecDepth 100000 in
theorem s_X3_isSeenThroughk {l : Launch} {E : aE} {S : aS} {I : aI} {L : aL} {Rf : aR} {Kr : aK} {Kx : aX} (hst : l.stackTraces = false) {n nc k j t u oo : Nat} (hC : lyC S Rf I n nc) (hk9 : k < n) (hj9 : j < 3) (ht9 : t < 32) (hu9 : u < 32) (htu : t ≠ u) (hsi : ∀ t, t < 256 → vp_in (I (200 + 8 * k + 5) t) 4) (ho : I (200 + 8 * k) 13 = nI oo) (ho6 : oo ≤ 6) (hk : ∀ r : Int32, (r = 1 ∧ stP I (200 + 8 * k) (nI j) oo (nI t) (nI u)) ∨ (r = 0 ∧ ¬ stP I (200 + 8 * k) (nI j) oo (nI t) (nI u)) → ∀ I' L', eqX I' I → eqX L' L → Kr (some (.int r)) S I' L' Rf) : aMet l E yX3_isSeenThrough cX3_isSeenThrough 8 (some .boolean) rmX3_isSeenThroughk [.ref 3, .int (nI k), .int (nI j), .int (nI t), .int (nI u)] (S) (I) (L) (Rf) Kr Kx := by
  refine aMet.of (lv0 := [.ref 3, .int (nI k), .int (nI j), .int (nI t), .int (nI u), aU, aU, aU]) (z := 3) (by decide +kernel) hst rfl (Nat.le_of_ble_eq_true rfl) ?_
  intro p e s m args below meth c io0 hx hin hno
  have hx : aCx p l s m args meth c RX3 cX3_isSeenThrough 8 (some .boolean) E := hx
  have hX := hC.1
  refine g_aloadG_n hx dX3_isSeenThrough_0 rfl (nx := 1) rfl rfl ?_
  refine g_iloadG_n hx dX3_isSeenThrough_1 rfl (nx := 2) rfl rfl ?_
  refine g_callV_M hx [_] (k' := 0) (n' := 0) dX3_isSeenThrough_2 (nx := 5) rfl lk_X3_75 (hX.1 0 _ rfl) (by decide) rfl rfl (Nat.le_of_ble_eq_true rfl) (Nat.le_of_ble_eq_true rfl) (Nat.le_of_ble_eq_true rfl) (Nat.le_of_ble_eq_true rfl) (Nat.le_of_ble_eq_true rfl) (Nat.le_of_ble_eq_true rfl) (Nat.le_of_ble_eq_true rfl) (s_X3_starAtk hst hC hk9 ?_)
  obtain ⟨b, hbe⟩ : ∃ b, b = 200 + 8 * k := ⟨_, rfl⟩
  rw [← hbe]
  have hB : lyS S Rf b := by rw [hbe]; exact hC.star (Nat.le_of_lt hk9)
  have hb := hB.2.2
  refine g_astore_5 hx dX3_isSeenThrough_5 (nx := 7) rfl (by decide) rfl ?_
  refine g_iloadG_n hx dX3_isSeenThrough_7 rfl (nx := 8) rfl rfl ?_
  refine g_callS_M hx [_] (k' := 0) (n' := 0) dX3_isSeenThrough_8 (nx := 11) rfl lk_X3_109 rfl (Nat.le_of_ble_eq_true rfl) (Nat.le_of_ble_eq_true rfl) (Nat.le_of_ble_eq_true rfl) (Nat.le_of_ble_eq_true rfl) (Nat.le_of_ble_eq_true rfl) (Nat.le_of_ble_eq_true rfl) (Nat.le_of_ble_eq_true rfl) (s_X3_lookForFilterk hst hj9 ?_)
  refine g_iloadG_n hx dX3_isSeenThrough_11 rfl (nx := 12) rfl rfl ?_
  refine g_callS_M hx [_] (k' := 0) (n' := 0) dX3_isSeenThrough_12 (nx := 15) rfl lk_X3_247 rfl (Nat.le_of_ble_eq_true rfl) (Nat.le_of_ble_eq_true rfl) (Nat.le_of_ble_eq_true rfl) (Nat.le_of_ble_eq_true rfl) (Nat.le_of_ble_eq_true rfl) (Nat.le_of_ble_eq_true rfl) (Nat.le_of_ble_eq_true rfl) (s_X3_lookAtLinek hst ht9 ?_)
  refine g_iloadG hx dX3_isSeenThrough_15 (nx := 17) rfl rfl ?_
  refine g_callS_M hx [_] (k' := 0) (n' := 0) dX3_isSeenThrough_17 (nx := 20) rfl lk_X3_247 rfl (Nat.le_of_ble_eq_true rfl) (Nat.le_of_ble_eq_true rfl) (Nat.le_of_ble_eq_true rfl) (Nat.le_of_ble_eq_true rfl) (Nat.le_of_ble_eq_true rfl) (Nat.le_of_ble_eq_true rfl) (Nat.le_of_ble_eq_true rfl) (s_X3_lookAtLinek hst hu9 ?_)
  refine g_iloadG_n hx dX3_isSeenThrough_20 rfl (nx := 21) rfl rfl ?_
  refine g_iloadG hx dX3_isSeenThrough_21 (nx := 23) rfl rfl ?_
  refine g_icmp_ne hx dX3_isSeenThrough_23 (tg := 36) (by decide) (nx := 26) rfl (fun c23 => ?_) (fun c23 => ?_)
  · refine g_aloadG_n hx dX3_isSeenThrough_36 rfl (nx := 37) rfl rfl ?_
    refine g_getfo_R hx dX3_isSeenThrough_37 (nx := 40) rfl fa_X3_37 rfl (r9 := 7) hX.2.2.2.2.1 (hX.1 0 _ rfl) (by decide) ?_
    refine g_aloadG hx dX3_isSeenThrough_40 (nx := 42) rfl rfl ?_
    refine g_aloadG_n hx dX3_isSeenThrough_42 rfl (nx := 43) rfl rfl ?_
    refine g_getfo_R hx dX3_isSeenThrough_43 (nx := 46) rfl fa_X3_20 rfl (r9 := 5) hX.2.2.1 (hX.1 0 _ rfl) (by decide) ?_
    refine g_iloadG_n hx dX3_isSeenThrough_46 rfl (nx := 47) rfl rfl ?_
    refine g_aloadG hx dX3_isSeenThrough_47 (nx := 49) rfl rfl ?_
    refine g_getfn_i hx dX3_isSeenThrough_49 (nx := 52) rfl fa_X3_101 rfl (lyS.ob hB) (by omega) ?_
    rw [show I b 13 = nI oo from by rw [hbe]; exact ho]
    refine g_callNV_M hx [_, _, _, _] (k' := 0) (n' := 0) dX3_isSeenThrough_52 (nx := 55) rfl lk_X3_240 (hX.1 4 _ rfl) (by decide) rfl rfl (Nat.le_of_ble_eq_true rfl) (Nat.le_of_ble_eq_true rfl) (Nat.le_of_ble_eq_true rfl) (Nat.le_of_ble_eq_true rfl) (Nat.le_of_ble_eq_true rfl) (Nat.le_of_ble_eq_true rfl) (Nat.le_of_ble_eq_true rfl) (s_X1_look (k := oo) hst hX hB (by rw [hbe]; exact hsi) ho6 (fun I' L' h1 h2 h3 => ?_))
    refine g_aloadG_n hx dX3_isSeenThrough_55 rfl (nx := 56) rfl rfl ?_
    refine g_getfo_R hx dX3_isSeenThrough_56 (nx := 59) rfl fa_X3_37 rfl (r9 := 7) hX.2.2.2.2.1 (hX.1 0 _ rfl) (by decide) ?_
    refine g_iloadG hx dX3_isSeenThrough_59 (nx := 61) rfl rfl ?_
    refine g_callNV_M hx [_] (k' := 0) (n' := 0) dX3_isSeenThrough_61 (nx := 64) rfl lk_X3_127 (hX.1 4 _ rfl) (by decide) rfl rfl (Nat.le_of_ble_eq_true rfl) (Nat.le_of_ble_eq_true rfl) (Nat.le_of_ble_eq_true rfl) (Nat.le_of_ble_eq_true rfl) (Nat.le_of_ble_eq_true rfl) (Nat.le_of_ble_eq_true rfl) (Nat.le_of_ble_eq_true rfl) (s_X1_strength hst hX h3 (fun L2 g1 => ?_))
    refine g_aloadG_n hx dX3_isSeenThrough_64 rfl (nx := 65) rfl rfl ?_
    refine g_getfo_R hx dX3_isSeenThrough_65 (nx := 68) rfl fa_X3_37 rfl (r9 := 7) hX.2.2.2.2.1 (hX.1 0 _ rfl) (by decide) ?_
    refine g_iloadG_n hx dX3_isSeenThrough_68 rfl (nx := 69) rfl rfl ?_
    refine g_callNV_M hx [_] (k' := 0) (n' := 0) dX3_isSeenThrough_69 (nx := 72) rfl lk_X3_127 (hX.1 4 _ rfl) (by decide) rfl rfl (Nat.le_of_ble_eq_true rfl) (Nat.le_of_ble_eq_true rfl) (Nat.le_of_ble_eq_true rfl) (Nat.le_of_ble_eq_true rfl) (Nat.le_of_ble_eq_true rfl) (Nat.le_of_ble_eq_true rfl) (Nat.le_of_ble_eq_true rfl) (s_X1_strength hst hX (q := prs I b) (V := laid I b (nI j) oo) ⟨h3.1, fun i t h => ⟨(h3.2 i t h).1, (g1 9 i (by decide)).trans (h3.2 i t h).2⟩⟩ (fun L3 g2 => ?_))
    refine g_lcmp hx dX3_isSeenThrough_72 (nx := 73) rfl ?_
    refine g_if_gt hx dX3_isSeenThrough_73 (tg := 78) (by decide) (nx := 76) rfl (fun c73 => ?_) (fun c73 => ?_)
    · refine g_aloadG_n hx dX3_isSeenThrough_78 rfl (nx := 79) rfl rfl ?_
      refine g_getfo_R hx dX3_isSeenThrough_79 (nx := 82) rfl fa_X3_37 rfl (r9 := 7) hX.2.2.2.2.1 (hX.1 0 _ rfl) (by decide) ?_
      refine g_callNV_M hx [] (k' := 0) (n' := 0) dX3_isSeenThrough_82 (nx := 85) rfl lk_X3_250 (hX.1 4 _ rfl) (by decide) rfl rfl (Nat.le_of_ble_eq_true rfl) (Nat.le_of_ble_eq_true rfl) (Nat.le_of_ble_eq_true rfl) (Nat.le_of_ble_eq_true rfl) (Nat.le_of_ble_eq_true rfl) (Nat.le_of_ble_eq_true rfl) (Nat.le_of_ble_eq_true rfl) (s_X1_flatten hst hX (q := prs I b) (V := laid I b (nI j) oo) ⟨h3.1, fun i t h => ⟨(h3.2 i t h).1, ((g2 9 i (by decide)).trans (g1 9 i (by decide))).trans (h3.2 i t h).2⟩⟩ (fun L4 g3 g4 => ?_))
      refine g_aloadG_n hx dX3_isSeenThrough_85 rfl (nx := 86) rfl rfl ?_
      refine g_getfo_R hx dX3_isSeenThrough_86 (nx := 89) rfl fa_X3_37 rfl (r9 := 7) hX.2.2.2.2.1 (hX.1 0 _ rfl) (by decide) ?_
      refine g_getfn_i hx dX3_isSeenThrough_89 (nx := 92) rfl fa_X3_237 rfl (hX.1 4 _ rfl) (by decide) ?_
      rw [h3.1]
      refine g_i2l hx dX3_isSeenThrough_92 (nx := 93) rfl ?_
      refine g_aloadG_n hx dX3_isSeenThrough_93 rfl (nx := 94) rfl rfl ?_
      refine g_getfo_R hx dX3_isSeenThrough_94 (nx := 97) rfl fa_X3_37 rfl (r9 := 7) hX.2.2.2.2.1 (hX.1 0 _ rfl) (by decide) ?_
      refine g_getfn_i hx dX3_isSeenThrough_97 (nx := 100) rfl fa_X3_237 rfl (hX.1 4 _ rfl) (by decide) ?_
      rw [h3.1]
      refine g_i2l hx dX3_isSeenThrough_100 (nx := 101) rfl ?_
      refine g_lmul hx dX3_isSeenThrough_101 (nx := 102) rfl ?_
      refine g_lstore_6 hx dX3_isSeenThrough_102 (nx := 104) rfl (by decide) rfl ?_
      refine g_ldc2 hx dX3_isSeenThrough_104 (nx := 107) rfl kl_X3_255 ?_
      refine g_aloadG_n hx dX3_isSeenThrough_107 rfl (nx := 108) rfl rfl ?_
      refine g_getfo_R hx dX3_isSeenThrough_108 (nx := 111) rfl fa_X3_37 rfl (r9 := 7) hX.2.2.2.2.1 (hX.1 0 _ rfl) (by decide) ?_
      refine g_iloadG_n hx dX3_isSeenThrough_111 rfl (nx := 112) rfl rfl ?_
      refine g_iloadG hx dX3_isSeenThrough_112 (nx := 114) rfl rfl ?_
      refine g_isub hx dX3_isSeenThrough_114 (nx := 115) rfl ?_
      refine g_callS_M hx [_] (k' := 0) (n' := 0) dX3_isSeenThrough_115 (nx := 118) rfl lk_X3_163 rfl (Nat.le_of_ble_eq_true rfl) (Nat.le_of_ble_eq_true rfl) (Nat.le_of_ble_eq_true rfl) (Nat.le_of_ble_eq_true rfl) (Nat.le_of_ble_eq_true rfl) (Nat.le_of_ble_eq_true rfl) (Nat.le_of_ble_eq_true rfl) (s_J9_abs_0f7a4 hst ?_)
      refine g_callNV_M hx [_] (k' := 0) (n' := 0) dX3_isSeenThrough_118 (nx := 121) rfl lk_X3_127 (hX.1 4 _ rfl) (by decide) rfl rfl (Nat.le_of_ble_eq_true rfl) (Nat.le_of_ble_eq_true rfl) (Nat.le_of_ble_eq_true rfl) (Nat.le_of_ble_eq_true rfl) (Nat.le_of_ble_eq_true rfl) (Nat.le_of_ble_eq_true rfl) (Nat.le_of_ble_eq_true rfl) (s_X1_strength hst hX g4 (fun L5 g5 => ?_))
      refine g_lmul hx dX3_isSeenThrough_121 (nx := 122) rfl ?_
      refine g_lloadG hx dX3_isSeenThrough_122 (nx := 124) rfl rfl ?_
      refine g_lcmp hx dX3_isSeenThrough_124 (nx := 125) rfl ?_
      refine g_if_lt hx dX3_isSeenThrough_125 (tg := 132) (by decide) (nx := 128) rfl (fun c125 => ?_) (fun c125 => ?_)
      · refine g_iconst hx dX3_isSeenThrough_132 (nx := 133) rfl (v := 0) (by decide) ?_
        refine g_iret hx dX3_isSeenThrough_133 rfl rfl (Nat.le_of_ble_eq_true rfl) (Nat.le_of_ble_eq_true rfl) ?_
        subst hbe
        have hf : ∀ a c, a ≠ 7 → a ≠ 8 → a ≠ 9 → L5 a c = L a c := fun a c k1 k2 k3 => (g5 a c k1).trans ((g3 a c k3).trans ((g2 a c k1).trans ((g1 a c k1).trans (h2 a c k1 k2 k3))))
        first
          | exact hk 0 (Or.inr ⟨rfl, fun q => absurd ((lg_cmp_ge _ _).mpr q.2) (Int32.not_le.mpr c125)⟩) I' L5 h1 hf
          | exact hk 1 (Or.inl ⟨rfl, (lg_cmp_gt _ _).mp c73, (lg_cmp_ge _ _).mp (Int32.not_lt.mp c125)⟩) I' L5 h1 hf
      · refine g_iconst hx dX3_isSeenThrough_128 (nx := 129) rfl (v := 1) (by decide) ?_
        refine g_goto hx dX3_isSeenThrough_129 (tg := 133) (by decide) ?_
        refine g_iret hx dX3_isSeenThrough_133 rfl rfl (Nat.le_of_ble_eq_true rfl) (Nat.le_of_ble_eq_true rfl) ?_
        subst hbe
        have hf : ∀ a c, a ≠ 7 → a ≠ 8 → a ≠ 9 → L5 a c = L a c := fun a c k1 k2 k3 => (g5 a c k1).trans ((g3 a c k3).trans ((g2 a c k1).trans ((g1 a c k1).trans (h2 a c k1 k2 k3))))
        first
          | exact hk 0 (Or.inr ⟨rfl, fun q => absurd ((lg_cmp_ge _ _).mpr q.2) (Int32.not_le.mpr c125)⟩) I' L5 h1 hf
          | exact hk 1 (Or.inl ⟨rfl, (lg_cmp_gt _ _).mp c73, (lg_cmp_ge _ _).mp (Int32.not_lt.mp c125)⟩) I' L5 h1 hf
    · refine g_iconst hx dX3_isSeenThrough_76 (nx := 77) rfl (v := 0) (by decide) ?_
      refine g_iret hx dX3_isSeenThrough_77 rfl rfl (Nat.le_of_ble_eq_true rfl) (Nat.le_of_ble_eq_true rfl) ?_
      subst hbe
      exact hk 0 (Or.inr ⟨rfl, fun q => absurd ((lg_cmp_gt _ _).mpr q.1) c73⟩) I' L3 h1 (fun a c k1 k2 k3 => (g2 a c k1).trans ((g1 a c k1).trans (h2 a c k1 k2 k3)))
  · exact absurd (nI_inj (by omega) (by omega) c23) htu

