/-! the class: stars, light -/
abbrev rmX3_shell : Room := { frames := 6, cells := 2, slots := 12, locals := 90 }
set_option maxHeartbeats 4000000 in
set_option maxRecDepth 100000 in
theorem s_X3_shell {l : Launch} {E : aE} {S : aS} {I : aI} {L : aL} {Rf : aR} {Kr : aK} {Kx : aX} (hst : l.stackTraces = false) {n nc sh : Nat} {x y w : Int32} (hC : lyC S Rf I n nc) (hsh : I (200 + 8 * n) 3 = nI sh) (h8 : sh ≤ 8) (hx1 : ¬ (rgN x 1 99 ∧ rgN y 1 99 ∧ rgN w 0 9) → Kx eIA S I L Rf) (hx2 : (rgN x 1 99 ∧ rgN y 1 99 ∧ rgN w 0 9) → sh = 8 → Kx eIS S I L Rf) (hk : ∀ x1 y1 z1 : Nat, 1 ≤ x1 → x1 ≤ 99 → 1 ≤ y1 → y1 ≤ 99 → z1 ≤ 9 → x = nI x1 → y = nI y1 → w = nI z1 → sh < 8 → Kr (some (.int (nI (sh + 1)))) S (au2 (au2 (au2 (au2 I (200 + 8 * n + 1) sh (nI x1)) (200 + 8 * n + 2) sh (nI y1)) (200 + 8 * n + 3) sh (nI z1)) (200 + 8 * n) 3 (nI (sh + 1))) L Rf) : aMet l E yX3_shell cX3_shell 4 (some .int) rmX3_shell [.ref 3, .int x, .int y, .int w] (S) (I) (L) (Rf) Kr Kx := by
  refine aMet.of (lv0 := [.ref 3, .int x, .int y, .int w]) (z := 0) (by decide +kernel) hst rfl (Nat.le_of_ble_eq_true rfl) ?_
  intro p e s m args below meth c io0 hx hin hno
  have hx : aCx p l s m args meth c RX3 cX3_shell 4 (some .int) E := hx
  obtain ⟨b, hbe⟩ : ∃ b, b = 200 + 8 * n := ⟨_, rfl⟩
  have hB : lyS S Rf b := by rw [hbe]; exact hC.star (Nat.le_refl n)
  have hb := hB.2.2
  have hbu : Rf 3 2 = some b := by rw [hbe]; exact hC.2.2.2.2.2.1
  have hX := hC.1
  rw [← hbe] at hsh
  have k3 : ∀ (v : Int32), (1 : Int32) = nI 1 := fun _ => rfl
  refine g_iloadG_n hx dX3_shell_0 rfl (nx := 1) rfl rfl ?_
  refine g_iconst hx dX3_shell_1 (nx := 2) rfl (v := 1) (by decide) ?_
  refine g_bipush hx dX3_shell_2 (nx := 4) rfl (v := 99) (by decide) ?_
  refine g_callS_X hx [_, _, _] (k' := 0) (n' := 0) dX3_shell_4 (nx := 7) rfl lk_X3_41 rfl (Nat.le_of_ble_eq_true rfl) (Nat.le_of_ble_eq_true rfl) (Nat.le_of_ble_eq_true rfl) (Nat.le_of_ble_eq_true rfl) (Nat.le_of_ble_eq_true rfl) (Nat.le_of_ble_eq_true rfl) (Nat.le_of_ble_eq_true rfl) hno (Nat.le_of_ble_eq_true rfl) (Nat.le_of_ble_eq_true rfl) (s_X3_isOutside hst ?_)
  refine g_if_ne hx dX3_shell_7 (tg := 30) (by decide) (nx := 10) rfl (fun c7 => ?_) (fun c7 => ?_)
  · refine g_throw hx th_X3_45_47_49 dX3_shell_30 dX3_shell_33 dX3_shell_34 dX3_shell_36 dX3_shell_39 hno (Nat.le_of_ble_eq_true rfl) (Nat.le_of_ble_eq_true rfl) (Nat.le_of_ble_eq_true rfl) (Nat.le_of_ble_eq_true rfl) (Nat.le_of_ble_eq_true rfl) (Nat.le_of_ble_eq_true rfl) ?_
    first
      | exact hx1 (fun q => c7 ((iout_z (x := x) (lo := 1) (hi := 99) (by decide) (by decide)).mpr q.1))
      | exact hx1 (fun q => c17 ((iout_z (x := y) (lo := 1) (hi := 99) (by decide) (by decide)).mpr q.2.1))
      | exact hx1 (fun q => c27 ((iout_z (x := w) (lo := 0) (hi := 9) (by decide) (by decide)).mpr q.2.2))
  · refine g_iloadG_n hx dX3_shell_10 rfl (nx := 11) rfl rfl ?_
    refine g_iconst hx dX3_shell_11 (nx := 12) rfl (v := 1) (by decide) ?_
    refine g_bipush hx dX3_shell_12 (nx := 14) rfl (v := 99) (by decide) ?_
    refine g_callS_X hx [_, _, _] (k' := 0) (n' := 0) dX3_shell_14 (nx := 17) rfl lk_X3_41 rfl (Nat.le_of_ble_eq_true rfl) (Nat.le_of_ble_eq_true rfl) (Nat.le_of_ble_eq_true rfl) (Nat.le_of_ble_eq_true rfl) (Nat.le_of_ble_eq_true rfl) (Nat.le_of_ble_eq_true rfl) (Nat.le_of_ble_eq_true rfl) hno (Nat.le_of_ble_eq_true rfl) (Nat.le_of_ble_eq_true rfl) (s_X3_isOutside hst ?_)
    refine g_if_ne hx dX3_shell_17 (tg := 30) (by decide) (nx := 20) rfl (fun c17 => ?_) (fun c17 => ?_)
    · refine g_throw hx th_X3_45_47_49 dX3_shell_30 dX3_shell_33 dX3_shell_34 dX3_shell_36 dX3_shell_39 hno (Nat.le_of_ble_eq_true rfl) (Nat.le_of_ble_eq_true rfl) (Nat.le_of_ble_eq_true rfl) (Nat.le_of_ble_eq_true rfl) (Nat.le_of_ble_eq_true rfl) (Nat.le_of_ble_eq_true rfl) ?_
      first
        | exact hx1 (fun q => c7 ((iout_z (x := x) (lo := 1) (hi := 99) (by decide) (by decide)).mpr q.1))
        | exact hx1 (fun q => c17 ((iout_z (x := y) (lo := 1) (hi := 99) (by decide) (by decide)).mpr q.2.1))
        | exact hx1 (fun q => c27 ((iout_z (x := w) (lo := 0) (hi := 9) (by decide) (by decide)).mpr q.2.2))
    · refine g_iloadG_n hx dX3_shell_20 rfl (nx := 21) rfl rfl ?_
      refine g_iconst hx dX3_shell_21 (nx := 22) rfl (v := 0) (by decide) ?_
      refine g_bipush hx dX3_shell_22 (nx := 24) rfl (v := 9) (by decide) ?_
      refine g_callS_X hx [_, _, _] (k' := 0) (n' := 0) dX3_shell_24 (nx := 27) rfl lk_X3_41 rfl (Nat.le_of_ble_eq_true rfl) (Nat.le_of_ble_eq_true rfl) (Nat.le_of_ble_eq_true rfl) (Nat.le_of_ble_eq_true rfl) (Nat.le_of_ble_eq_true rfl) (Nat.le_of_ble_eq_true rfl) (Nat.le_of_ble_eq_true rfl) hno (Nat.le_of_ble_eq_true rfl) (Nat.le_of_ble_eq_true rfl) (s_X3_isOutside hst ?_)
      refine g_if_eq hx dX3_shell_27 (tg := 40) (by decide) (nx := 30) rfl (fun c27 => ?_) (fun c27 => ?_)
      · refine g_aloadG_n hx dX3_shell_40 rfl (nx := 41) rfl rfl ?_
        refine g_getfo_R hx dX3_shell_41 (nx := 44) rfl fa_X3_16 rfl (r9 := b) hbu (hX.1 0 _ rfl) (by decide) ?_
        refine g_getfn_i hx dX3_shell_44 (nx := 47) rfl fa_X3_52 rfl (lyS.ob hB) (by omega) ?_
        refine g_bipush hx dX3_shell_47 (nx := 49) rfl (v := 8) (by decide) ?_
        refine g_icmp_lt hx dX3_shell_49 (tg := 62) (by decide) (nx := 52) rfl (fun c49 => ?_) (fun c49 => ?_)
        · have hlt : sh < 8 := by
            rw [hsh] at c49
            exact (nI_ltI (by omega) (by decide : 8 < 2 ^ 31)).mp c49
          obtain ⟨x1, hx1a, hx1b, rfl⟩ := (iout_z (x := x) (lo := 1) (hi := 99) (by decide) (by decide)).mp c7
          obtain ⟨y1, hy1a, hy1b, rfl⟩ := (iout_z (x := y) (lo := 1) (hi := 99) (by decide) (by decide)).mp c17
          obtain ⟨z1, hz1a, hz1b, rfl⟩ := (iout_z (x := w) (lo := 0) (hi := 9) (by decide) (by decide)).mp c27
          refine g_aloadG_n hx dX3_shell_62 rfl (nx := 63) rfl rfl ?_
          refine g_getfo_R hx dX3_shell_63 (nx := 66) rfl fa_X3_16 rfl (r9 := b) hbu (hX.1 0 _ rfl) (by decide) ?_
          refine g_iloadG_n hx dX3_shell_66 rfl (nx := 67) rfl rfl ?_
          refine g_iloadG_n hx dX3_shell_67 rfl (nx := 68) rfl rfl ?_
          refine g_iloadG_n hx dX3_shell_68 rfl (nx := 69) rfl rfl ?_
          refine g_callNV_M hx [_, _, _] (k' := 0) (n' := 0) dX3_shell_69 (nx := 72) rfl lk_X3_60 (lyS.ob hB) (by omega) rfl rfl (Nat.le_of_ble_eq_true rfl) (Nat.le_of_ble_eq_true rfl) (Nat.le_of_ble_eq_true rfl) (Nat.le_of_ble_eq_true rfl) (Nat.le_of_ble_eq_true rfl) (Nat.le_of_ble_eq_true rfl) (Nat.le_of_ble_eq_true rfl) (s_X2_addShell hst hB hsh (by omega) ?_)
          refine g_aloadG_n hx dX3_shell_72 rfl (nx := 73) rfl rfl ?_
          refine g_getfo_R hx dX3_shell_73 (nx := 76) rfl fa_X3_16 rfl (r9 := b) hbu (hX.1 0 _ rfl) (by decide) ?_
          refine g_getfn_i hx dX3_shell_76 (nx := 79) rfl fa_X3_52 rfl (lyS.ob hB) (by omega) ?_
          refine g_iret hx dX3_shell_79 rfl rfl (Nat.le_of_ble_eq_true rfl) (Nat.le_of_ble_eq_true rfl) ?_
          rw [au2_s]
          subst hbe
          exact hk x1 y1 z1 hx1a hx1b hy1a hy1b hz1b rfl rfl rfl hlt
        · refine g_throw hx th_X3_55_57_59 dX3_shell_52 dX3_shell_55 dX3_shell_56 dX3_shell_58 dX3_shell_61 hno (Nat.le_of_ble_eq_true rfl) (Nat.le_of_ble_eq_true rfl) (Nat.le_of_ble_eq_true rfl) (Nat.le_of_ble_eq_true rfl) (Nat.le_of_ble_eq_true rfl) (Nat.le_of_ble_eq_true rfl) ?_
          exact hx2 ⟨(iout_z (x := x) (lo := 1) (hi := 99) (by decide) (by decide)).mp c7, (iout_z (x := y) (lo := 1) (hi := 99) (by decide) (by decide)).mp c17, (iout_z (x := w) (lo := 0) (hi := 9) (by decide) (by decide)).mp c27⟩ (Nat.le_antisymm h8 (Nat.not_lt.mp (fun q => c49 (by rw [hsh]; exact nI_lt (b := 8) q (by decide)))))
      · refine g_throw hx th_X3_45_47_49 dX3_shell_30 dX3_shell_33 dX3_shell_34 dX3_shell_36 dX3_shell_39 hno (Nat.le_of_ble_eq_true rfl) (Nat.le_of_ble_eq_true rfl) (Nat.le_of_ble_eq_true rfl) (Nat.le_of_ble_eq_true rfl) (Nat.le_of_ble_eq_true rfl) (Nat.le_of_ble_eq_true rfl) ?_
        first
          | exact hx1 (fun q => c7 ((iout_z (x := x) (lo := 1) (hi := 99) (by decide) (by decide)).mpr q.1))
          | exact hx1 (fun q => c17 ((iout_z (x := y) (lo := 1) (hi := 99) (by decide) (by decide)).mpr q.2.1))
          | exact hx1 (fun q => c27 ((iout_z (x := w) (lo := 0) (hi := 9) (by decide) (by decide)).mpr q.2.2))

abbrev rmX3_frame : Room := { frames := 7, cells := 4, slots := 24, locals := 111 }
set_option maxHeartbeats 4000000 in
set_option maxRecDepth 100000 in
theorem s_X3_frame {l : Launch} {E : aE} {S : aS} {I : aI} {L : aL} {Rf : aR} {Kr : aK} {Kx : aX} (hst : l.stackTraces = false) {n nc : Nat} {x y w v : Int32} (hC : lyC S Rf I n nc) (hx1 : ¬ (inN x n ∧ inN y 4) → Kx eIO S I L Rf) (hx2 : (inN x n ∧ inN y 4) → ¬ (inN w 256 ∧ inN v 10000) → Kx eIA S I L Rf) (hk : ∀ k j t v1 : Nat, k < n → j < 4 → t < 256 → v1 < 10000 → x = nI k → y = nI j → w = nI t → v = nI v1 → Kr (some (.int (I (200 + 8 * k + 4) t))) S (au2 (au2 I (200 + 8 * k + 4) t (nI v1)) (200 + 8 * k + 5) t (nI j)) L Rf) : aMet l E yX3_frame cX3_frame 7 (some .int) rmX3_frame [.ref 3, .int x, .int y, .int w, .int v] (S) (I) (L) (Rf) Kr Kx := by
  refine aMet.of (lv0 := [.ref 3, .int x, .int y, .int w, .int v, aU, aU]) (z := 2) (by decide +kernel) hst rfl (Nat.le_of_ble_eq_true rfl) ?_
  intro p e s m args below meth c io0 hx hin hno
  have hx : aCx p l s m args meth c RX3 cX3_frame 7 (some .int) E := hx
  have hX := hC.1
  refine g_aloadG_n hx dX3_frame_0 rfl (nx := 1) rfl rfl ?_
  refine g_iloadG_n hx dX3_frame_1 rfl (nx := 2) rfl rfl ?_
  refine g_callV_X hx [_] (k' := 1) (n' := 6) dX3_frame_2 (nx := 5) rfl lk_X3_75 (hX.1 0 _ rfl) (by decide) rfl rfl (Nat.le_of_ble_eq_true rfl) (Nat.le_of_ble_eq_true rfl) (Nat.le_of_ble_eq_true rfl) (Nat.le_of_ble_eq_true rfl) (Nat.le_of_ble_eq_true rfl) (Nat.le_of_ble_eq_true rfl) (Nat.le_of_ble_eq_true rfl) hno (Nat.le_of_ble_eq_true rfl) (Nat.le_of_ble_eq_true rfl) (s_X3_starAt hst hC (fun k hk9 ek => ?_) (fun q => ?_))
  · subst ek
    obtain ⟨b, hbe⟩ : ∃ b, b = 200 + 8 * k := ⟨_, rfl⟩
    rw [← hbe]
    have hB : lyS S Rf b := by rw [hbe]; exact hC.star (Nat.le_of_lt hk9)
    have hb := hB.2.2
    refine g_astore_5 hx dX3_frame_5 (nx := 7) rfl (by decide) rfl ?_
    refine g_iloadG_n hx dX3_frame_7 rfl (nx := 8) rfl rfl ?_
    refine g_callS_X hx [_] (k' := 2) (n' := 12) dX3_frame_8 (nx := 11) rfl lk_X3_79 rfl (Nat.le_of_ble_eq_true rfl) (Nat.le_of_ble_eq_true rfl) (Nat.le_of_ble_eq_true rfl) (Nat.le_of_ble_eq_true rfl) (Nat.le_of_ble_eq_true rfl) (Nat.le_of_ble_eq_true rfl) (Nat.le_of_ble_eq_true rfl) hno (Nat.le_of_ble_eq_true rfl) (Nat.le_of_ble_eq_true rfl) (s_X3_lookForSite hst (fun j hj9 ej => ?_) (fun q => ?_))
    · subst ej
      refine g_iloadG_n hx dX3_frame_11 rfl (nx := 12) rfl rfl ?_
      refine g_callS_X hx [_] (k' := 3) (n' := 18) dX3_frame_12 (nx := 15) rfl lk_X3_82 rfl (Nat.le_of_ble_eq_true rfl) (Nat.le_of_ble_eq_true rfl) (Nat.le_of_ble_eq_true rfl) (Nat.le_of_ble_eq_true rfl) (Nat.le_of_ble_eq_true rfl) (Nat.le_of_ble_eq_true rfl) (Nat.le_of_ble_eq_true rfl) hno (Nat.le_of_ble_eq_true rfl) (Nat.le_of_ble_eq_true rfl) (s_X3_lookAtTime hst (fun t ht9 et => ?_) (fun q => ?_))
      · subst et
        refine g_iloadG hx dX3_frame_15 (nx := 17) rfl rfl ?_
        refine g_iconst hx dX3_frame_17 (nx := 18) rfl (v := 0) (by decide) ?_
        refine g_sipush hx dX3_frame_18 (nx := 21) rfl (v := 9999) (by decide) ?_
        refine g_callS_X hx [_, _, _] (k' := 3) (n' := 18) dX3_frame_21 (nx := 24) rfl lk_X3_41 rfl (Nat.le_of_ble_eq_true rfl) (Nat.le_of_ble_eq_true rfl) (Nat.le_of_ble_eq_true rfl) (Nat.le_of_ble_eq_true rfl) (Nat.le_of_ble_eq_true rfl) (Nat.le_of_ble_eq_true rfl) (Nat.le_of_ble_eq_true rfl) hno (Nat.le_of_ble_eq_true rfl) (Nat.le_of_ble_eq_true rfl) (s_X3_isOutside hst ?_)
        refine g_if_eq hx dX3_frame_24 (tg := 37) (by decide) (nx := 27) rfl (fun c24 => ?_) (fun c24 => ?_)
        · obtain ⟨v1, hv9, rfl⟩ := rgN_in.mp ((iout_z (x := v) (lo := 0) (hi := 9999) (by decide) (by decide)).mp c24)
          have hin9 : vp_in (nI t) 256 := vp_in_nI ht9 (by decide)
          have htc : (nI t).toNatClampNeg = t := nI_clamp (by omega)
          refine g_aloadG hx dX3_frame_37 (nx := 39) rfl rfl ?_
          refine g_getfn_R hx dX3_frame_39 (nx := 42) rfl fa_X3_87 rfl (r9 := b + 4) (hB.2.1 10 4 rfl) (lyS.ob hB) (by omega) ?_
          refine g_iloadG_n hx dX3_frame_42 rfl (nx := 43) rfl rfl ?_
          refine g_iaload hx dX3_frame_43 (nx := 44) rfl (hB.1 4 _ rfl) (by omega) hin9 ?_
          refine g_istore_6 hx dX3_frame_44 (nx := 46) rfl (by decide) rfl ?_
          refine g_aloadG hx dX3_frame_46 (nx := 48) rfl rfl ?_
          refine g_getfn_R hx dX3_frame_48 (nx := 51) rfl fa_X3_87 rfl (r9 := b + 4) (hB.2.1 10 4 rfl) (lyS.ob hB) (by omega) ?_
          refine g_iloadG_n hx dX3_frame_51 rfl (nx := 52) rfl rfl ?_
          refine g_iloadG hx dX3_frame_52 (nx := 54) rfl rfl ?_
          refine g_iastore hx dX3_frame_54 (nx := 55) rfl (hB.1 4 _ rfl) (by omega) hin9 ?_
          refine g_aloadG hx dX3_frame_55 (nx := 57) rfl rfl ?_
          refine g_getfn_R hx dX3_frame_57 (nx := 60) rfl fa_X3_91 rfl (r9 := b + 5) (hB.2.1 11 5 rfl) (lyS.ob hB) (by omega) ?_
          refine g_iloadG_n hx dX3_frame_60 rfl (nx := 61) rfl rfl ?_
          refine g_iloadG_n hx dX3_frame_61 rfl (nx := 62) rfl rfl ?_
          refine g_iastore hx dX3_frame_62 (nx := 63) rfl (hB.1 5 _ rfl) (by omega) hin9 ?_
          refine g_iloadG hx dX3_frame_63 (nx := 65) rfl rfl ?_
          refine g_iret hx dX3_frame_65 rfl rfl (Nat.le_of_ble_eq_true rfl) (Nat.le_of_ble_eq_true rfl) ?_
          rw [htc]
          subst hbe
          exact hk k j t v1 hk9 hj9 ht9 hv9 rfl rfl rfl rfl
        · refine g_throw hx th_X3_45_85_49 dX3_frame_27 dX3_frame_30 dX3_frame_31 dX3_frame_33 dX3_frame_36 hno (Nat.le_of_ble_eq_true rfl) (Nat.le_of_ble_eq_true rfl) (Nat.le_of_ble_eq_true rfl) (Nat.le_of_ble_eq_true rfl) (Nat.le_of_ble_eq_true rfl) (Nat.le_of_ble_eq_true rfl) ?_
          exact hx2 ⟨⟨k, hk9, rfl⟩, ⟨j, hj9, rfl⟩⟩ (fun h => c24 ((iout_z (x := v) (lo := 0) (hi := 9999) (by decide) (by decide)).mpr (rgN_in.mpr h.2)))
      · exact hx2 ⟨⟨k, hk9, rfl⟩, ⟨j, hj9, rfl⟩⟩ (fun h => q h.1)
    · exact hx1 (fun h => q h.2)
  · exact hx1 (fun h => q h.1)

abbrev rmX3_drop : Room := { frames := 7, cells := 3, slots := 18, locals := 111 }
set_option maxHeartbeats 4000000 in
set_option maxRecDepth 100000 in
theorem s_X3_drop {l : Launch} {E : aE} {S : aS} {I : aI} {L : aL} {Rf : aR} {Kr : aK} {Kx : aX} (hst : l.stackTraces = false) {n nc : Nat} {x y : Int32} (hC : lyC S Rf I n nc) (hx1 : ¬ inN x n → Kx eIO S I L Rf) (hx2 : inN x n → ¬ inN y 256 → Kx eIA S I L Rf) (hx3 : ∀ k t : Nat, k < n → t < 256 → x = nI k → y = nI t → I (200 + 8 * k + 4) t = -1 → Kx eIS S I L Rf) (hk : ∀ k t : Nat, k < n → t < 256 → x = nI k → y = nI t → I (200 + 8 * k + 4) t ≠ -1 → Kr (some (.int (I (200 + 8 * k + 4) t))) S (au2 I (200 + 8 * k + 4) t (-1)) L Rf) : aMet l E yX3_drop cX3_drop 5 (some .int) rmX3_drop [.ref 3, .int x, .int y] (S) (I) (L) (Rf) Kr Kx := by
  refine aMet.of (lv0 := [.ref 3, .int x, .int y, aU, aU]) (z := 2) (by decide +kernel) hst rfl (Nat.le_of_ble_eq_true rfl) ?_
  intro p e s m args below meth c io0 hx hin hno
  have hx : aCx p l s m args meth c RX3 cX3_drop 5 (some .int) E := hx
  have hX := hC.1
  refine g_aloadG_n hx dX3_drop_0 rfl (nx := 1) rfl rfl ?_
  refine g_iloadG_n hx dX3_drop_1 rfl (nx := 2) rfl rfl ?_
  refine g_callV_X hx [_] (k' := 1) (n' := 6) dX3_drop_2 (nx := 5) rfl lk_X3_75 (hX.1 0 _ rfl) (by decide) rfl rfl (Nat.le_of_ble_eq_true rfl) (Nat.le_of_ble_eq_true rfl) (Nat.le_of_ble_eq_true rfl) (Nat.le_of_ble_eq_true rfl) (Nat.le_of_ble_eq_true rfl) (Nat.le_of_ble_eq_true rfl) (Nat.le_of_ble_eq_true rfl) hno (Nat.le_of_ble_eq_true rfl) (Nat.le_of_ble_eq_true rfl) (s_X3_starAt hst hC (fun k hk9 ek => ?_) (fun q => ?_))
  · subst ek
    obtain ⟨b, hbe⟩ : ∃ b, b = 200 + 8 * k := ⟨_, rfl⟩
    rw [← hbe]
    have hB : lyS S Rf b := by rw [hbe]; exact hC.star (Nat.le_of_lt hk9)
    have hb := hB.2.2
    refine g_astore_3 hx dX3_drop_5 (nx := 6) rfl (by decide) rfl ?_
    refine g_iloadG_n hx dX3_drop_6 rfl (nx := 7) rfl rfl ?_
    refine g_callS_X hx [_] (k' := 2) (n' := 12) dX3_drop_7 (nx := 10) rfl lk_X3_82 rfl (Nat.le_of_ble_eq_true rfl) (Nat.le_of_ble_eq_true rfl) (Nat.le_of_ble_eq_true rfl) (Nat.le_of_ble_eq_true rfl) (Nat.le_of_ble_eq_true rfl) (Nat.le_of_ble_eq_true rfl) (Nat.le_of_ble_eq_true rfl) hno (Nat.le_of_ble_eq_true rfl) (Nat.le_of_ble_eq_true rfl) (s_X3_lookAtTime hst (fun t ht9 et => ?_) (fun q => ?_))
    · subst et
      have hin9 : vp_in (nI t) 256 := vp_in_nI ht9 (by decide)
      have htc : (nI t).toNatClampNeg = t := nI_clamp (by omega)
      refine g_aloadG_n hx dX3_drop_10 rfl (nx := 11) rfl rfl ?_
      refine g_getfn_R hx dX3_drop_11 (nx := 14) rfl fa_X3_87 rfl (r9 := b + 4) (hB.2.1 10 4 rfl) (lyS.ob hB) (by omega) ?_
      refine g_iloadG_n hx dX3_drop_14 rfl (nx := 15) rfl rfl ?_
      refine g_iaload hx dX3_drop_15 (nx := 16) rfl (hB.1 4 _ rfl) (by omega) hin9 ?_
      refine g_istore_4 hx dX3_drop_16 (nx := 18) rfl (by decide) rfl ?_
      refine g_iloadG hx dX3_drop_18 (nx := 20) rfl rfl ?_
      refine g_iconst hx dX3_drop_20 (nx := 21) rfl (v := (-1)) (by decide) ?_
      refine g_icmp_ne hx dX3_drop_21 (tg := 34) (by decide) (nx := 24) rfl (fun c21 => ?_) (fun c21 => ?_)
      · refine g_aloadG_n hx dX3_drop_34 rfl (nx := 35) rfl rfl ?_
        refine g_getfn_R hx dX3_drop_35 (nx := 38) rfl fa_X3_87 rfl (r9 := b + 4) (hB.2.1 10 4 rfl) (lyS.ob hB) (by omega) ?_
        refine g_iloadG_n hx dX3_drop_38 rfl (nx := 39) rfl rfl ?_
        refine g_iconst hx dX3_drop_39 (nx := 40) rfl (v := (-1)) (by decide) ?_
        refine g_iastore hx dX3_drop_40 (nx := 41) rfl (hB.1 4 _ rfl) (by omega) hin9 ?_
        refine g_iloadG hx dX3_drop_41 (nx := 43) rfl rfl ?_
        refine g_iret hx dX3_drop_43 rfl rfl (Nat.le_of_ble_eq_true rfl) (Nat.le_of_ble_eq_true rfl) ?_
        rw [htc] at c21 ⊢
        subst hbe
        exact hk k t hk9 ht9 rfl rfl c21
      · refine g_throw hx th_X3_55_94_59 dX3_drop_24 dX3_drop_27 dX3_drop_28 dX3_drop_30 dX3_drop_33 hno (Nat.le_of_ble_eq_true rfl) (Nat.le_of_ble_eq_true rfl) (Nat.le_of_ble_eq_true rfl) (Nat.le_of_ble_eq_true rfl) (Nat.le_of_ble_eq_true rfl) (Nat.le_of_ble_eq_true rfl) ?_
        rw [htc] at c21
        subst hbe
        exact hx3 k t hk9 ht9 rfl rfl c21
    · exact hx2 ⟨k, hk9, rfl⟩ q
  · exact hx1 q

abbrev rmX3_mask : Room := { frames := 7, cells := 1, slots := 6, locals := 110 }
set_option maxHeartbeats 4000000 in
set_option maxRecDepth 100000 in
theorem s_X3_mask {l : Launch} {E : aE} {S : aS} {I : aI} {L : aL} {Rf : aR} {Kr : aK} {Kx : aX} (hst : l.stackTraces = false) {n nc : Nat} {x y : Int32} (hC : lyC S Rf I n nc) (hy : narrow .boolean (.int y) = .int y) (hm : ∀ j, j < 4 → narrow .boolean (.int (I 5 j)) = .int (I 5 j)) (hx1 : ¬ inN x 4 → Kx eIO S I L Rf) (hk : ∀ j : Nat, j < 4 → x = nI j → Kr (some (.int (I 5 j))) S (au2 I 5 j y) L Rf) : aMet l E yX3_mask cX3_mask 4 (some .boolean) rmX3_mask [.ref 3, .int x, .int y] (S) (I) (L) (Rf) Kr Kx := by
  refine aMet.of (lv0 := [.ref 3, .int x, .int y, aU]) (z := 1) (by decide +kernel) hst rfl (Nat.le_of_ble_eq_true rfl) ?_
  intro p e s m args below meth c io0 hx hin hno
  have hx : aCx p l s m args meth c RX3 cX3_mask 4 (some .boolean) E := hx
  have hX := hC.1
  refine g_iloadG_n hx dX3_mask_0 rfl (nx := 1) rfl rfl ?_
  refine g_callS_X hx [_] (k' := 1) (n' := 6) dX3_mask_1 (nx := 4) rfl lk_X3_79 rfl (Nat.le_of_ble_eq_true rfl) (Nat.le_of_ble_eq_true rfl) (Nat.le_of_ble_eq_true rfl) (Nat.le_of_ble_eq_true rfl) (Nat.le_of_ble_eq_true rfl) (Nat.le_of_ble_eq_true rfl) (Nat.le_of_ble_eq_true rfl) hno (Nat.le_of_ble_eq_true rfl) (Nat.le_of_ble_eq_true rfl) (s_X3_lookForSite hst (fun j hj9 ej => ?_) (fun q => ?_))
  · subst ej
    have hin9 : vp_in (nI j) 4 := vp_in_nI hj9 (by decide)
    have hjc : (nI j).toNatClampNeg = j := nI_clamp (by omega)
    refine g_aloadG_n hx dX3_mask_4 rfl (nx := 5) rfl rfl ?_
    refine g_getfo_R hx dX3_mask_5 (nx := 8) rfl fa_X3_20 rfl (r9 := 5) hX.2.2.1 (hX.1 0 _ rfl) (by decide) ?_
    refine g_iloadG_n hx dX3_mask_8 rfl (nx := 9) rfl rfl ?_
    refine g_baload hx dX3_mask_9 (nx := 10) rfl (hX.1 2 _ rfl) (by decide) hin9 ?_
    refine g_istore_3 hx dX3_mask_10 (nx := 11) rfl (by decide) rfl ?_
    refine g_aloadG_n hx dX3_mask_11 rfl (nx := 12) rfl rfl ?_
    refine g_getfo_R hx dX3_mask_12 (nx := 15) rfl fa_X3_20 rfl (r9 := 5) hX.2.2.1 (hX.1 0 _ rfl) (by decide) ?_
    refine g_iloadG_n hx dX3_mask_15 rfl (nx := 16) rfl rfl ?_
    refine g_iloadG_n hx dX3_mask_16 rfl (nx := 17) rfl rfl ?_
    refine g_bastore hx dX3_mask_17 (nx := 18) rfl (hX.1 2 _ rfl) (by decide) hin9 hy ?_
    refine g_iloadG_n hx dX3_mask_18 rfl (nx := 19) rfl rfl ?_
    refine g_iret hx dX3_mask_19 rfl (by rw [hjc]; exact hm j hj9) (Nat.le_of_ble_eq_true rfl) (Nat.le_of_ble_eq_true rfl) ?_
    rw [hjc]
    exact hk j hj9 rfl
  · exact hx1 q

abbrev rmX3_threshold : Room := { frames := 6, cells := 1, slots := 6, locals := 90 }
set_option maxHeartbeats 4000000 in
set_option maxRecDepth 100000 in
theorem s_X3_threshold {l : Launch} {E : aE} {S : aS} {I : aI} {L : aL} {Rf : aR} {Kr : aK} {Kx : aX} (hst : l.stackTraces = false) {n nc : Nat} {x : Int32} (hC : lyC S Rf I n nc) (hx1 : ¬ rgN x 1 1000000000 → Kx eIA S I L Rf) (hk : rgN x 1 1000000000 → Kr (some (.int (I 3 4))) S (au2 I 3 4 x) L Rf) : aMet l E yX3_threshold cX3_threshold 3 (some .int) rmX3_threshold [.ref 3, .int x] (S) (I) (L) (Rf) Kr Kx := by
  refine aMet.of (lv0 := [.ref 3, .int x, aU]) (z := 1) (by decide +kernel) hst rfl (Nat.le_of_ble_eq_true rfl) ?_
  intro p e s m args below meth c io0 hx hin hno
  have hx : aCx p l s m args meth c RX3 cX3_threshold 3 (some .int) E := hx
  have hX := hC.1
  refine g_iloadG_n hx dX3_threshold_0 rfl (nx := 1) rfl rfl ?_
  refine g_iconst hx dX3_threshold_1 (nx := 2) rfl (v := 1) (by decide) ?_
  refine g_ldc hx dX3_threshold_2 (nx := 4) rfl kc_X3_96 ?_
  refine g_callS_X hx [_, _, _] (k' := 0) (n' := 0) dX3_threshold_4 (nx := 7) rfl lk_X3_41 rfl (Nat.le_of_ble_eq_true rfl) (Nat.le_of_ble_eq_true rfl) (Nat.le_of_ble_eq_true rfl) (Nat.le_of_ble_eq_true rfl) (Nat.le_of_ble_eq_true rfl) (Nat.le_of_ble_eq_true rfl) (Nat.le_of_ble_eq_true rfl) hno (Nat.le_of_ble_eq_true rfl) (Nat.le_of_ble_eq_true rfl) (s_X3_isOutside hst ?_)
  refine g_if_eq hx dX3_threshold_7 (tg := 20) (by decide) (nx := 10) rfl (fun c7 => ?_) (fun c7 => ?_)
  · refine g_aloadG_n hx dX3_threshold_20 rfl (nx := 21) rfl rfl ?_
    refine g_getfo_i hx dX3_threshold_21 (nx := 24) rfl fa_X3_24 rfl (hX.1 0 _ rfl) (by decide) ?_
    refine g_istore_2 hx dX3_threshold_24 (nx := 25) rfl (by decide) rfl ?_
    refine g_aloadG_n hx dX3_threshold_25 rfl (nx := 26) rfl rfl ?_
    refine g_iloadG_n hx dX3_threshold_26 rfl (nx := 27) rfl rfl ?_
    refine g_putfo_i hx dX3_threshold_27 (nx := 30) rfl fa_X3_24 rfl rfl rfl (fun r h => by cases h; rfl) (hX.1 0 _ rfl) (by decide) ?_
    refine g_iloadG_n hx dX3_threshold_30 rfl (nx := 31) rfl rfl ?_
    refine g_iret hx dX3_threshold_31 rfl rfl (Nat.le_of_ble_eq_true rfl) (Nat.le_of_ble_eq_true rfl) ?_
    exact hk ((iout_z (x := x) (lo := 1) (hi := 1000000000) (by decide) (by decide)).mp c7)
  · refine g_throw hx th_X3_45_97_49 dX3_threshold_10 dX3_threshold_13 dX3_threshold_14 dX3_threshold_16 dX3_threshold_19 hno (Nat.le_of_ble_eq_true rfl) (Nat.le_of_ble_eq_true rfl) (Nat.le_of_ble_eq_true rfl) (Nat.le_of_ble_eq_true rfl) (Nat.le_of_ble_eq_true rfl) (Nat.le_of_ble_eq_true rfl) ?_
    exact hx1 (fun q => c7 ((iout_z (x := x) (lo := 1) (hi := 1000000000) (by decide) (by decide)).mpr q))

abbrev rmX3_takeOut : Room := { frames := 7, cells := 3, slots := 18, locals := 111 }
set_option maxHeartbeats 4000000 in
set_option maxRecDepth 100000 in
theorem s_X3_takeOut {l : Launch} {E : aE} {S : aS} {I : aI} {L : aL} {Rf : aR} {Kr : aK} {Kx : aX} (hst : l.stackTraces = false) {n nc : Nat} {oo : Nat → Nat} {x y : Int32} (hC : lyC S Rf I n nc) (hoo : ∀ k, k < n → I (200 + 8 * k) 13 = nI (oo k) ∧ oo k ≤ 6) (hx1 : ¬ inN x n → Kx eIO S I L Rf) (hx2 : inN x n → ¬ rgN y 1 31 → Kx eIA S I L Rf) (hx3 : ∀ k : Nat, k < n → x = nI k → rgN y 1 31 → oo k = 6 → Kx eIS S I L Rf) (hk : ∀ k : Nat, k < n → x = nI k → rgN y 1 31 → oo k < 6 → Kr (some (.int (nI (oo k + 1)))) S (au2 (au2 I (200 + 8 * k + 6) (oo k) y) (200 + 8 * k) 13 (nI (oo k + 1))) L Rf) : aMet l E yX3_takeOut cX3_takeOut 4 (some .int) rmX3_takeOut [.ref 3, .int x, .int y] (S) (I) (L) (Rf) Kr Kx := by
  refine aMet.of (lv0 := [.ref 3, .int x, .int y, aU]) (z := 1) (by decide +kernel) hst rfl (Nat.le_of_ble_eq_true rfl) ?_
  intro p e s m args below meth c io0 hx hin hno
  have hx : aCx p l s m args meth c RX3 cX3_takeOut 4 (some .int) E := hx
  have hX := hC.1
  refine g_aloadG_n hx dX3_takeOut_0 rfl (nx := 1) rfl rfl ?_
  refine g_iloadG_n hx dX3_takeOut_1 rfl (nx := 2) rfl rfl ?_
  refine g_callV_X hx [_] (k' := 1) (n' := 6) dX3_takeOut_2 (nx := 5) rfl lk_X3_75 (hX.1 0 _ rfl) (by decide) rfl rfl (Nat.le_of_ble_eq_true rfl) (Nat.le_of_ble_eq_true rfl) (Nat.le_of_ble_eq_true rfl) (Nat.le_of_ble_eq_true rfl) (Nat.le_of_ble_eq_true rfl) (Nat.le_of_ble_eq_true rfl) (Nat.le_of_ble_eq_true rfl) hno (Nat.le_of_ble_eq_true rfl) (Nat.le_of_ble_eq_true rfl) (s_X3_starAt hst hC (fun k hk9 ek => ?_) (fun q => ?_))
  · subst ek
    obtain ⟨b, hbe⟩ : ∃ b, b = 200 + 8 * k := ⟨_, rfl⟩
    rw [← hbe]
    have hB : lyS S Rf b := by rw [hbe]; exact hC.star (Nat.le_of_lt hk9)
    have hb := hB.2.2
    refine g_astore_3 hx dX3_takeOut_5 (nx := 6) rfl (by decide) rfl ?_
    refine g_iloadG_n hx dX3_takeOut_6 rfl (nx := 7) rfl rfl ?_
    refine g_iconst hx dX3_takeOut_7 (nx := 8) rfl (v := 1) (by decide) ?_
    refine g_bipush hx dX3_takeOut_8 (nx := 10) rfl (v := 31) (by decide) ?_
    refine g_callS_X hx [_, _, _] (k' := 1) (n' := 6) dX3_takeOut_10 (nx := 13) rfl lk_X3_41 rfl (Nat.le_of_ble_eq_true rfl) (Nat.le_of_ble_eq_true rfl) (Nat.le_of_ble_eq_true rfl) (Nat.le_of_ble_eq_true rfl) (Nat.le_of_ble_eq_true rfl) (Nat.le_of_ble_eq_true rfl) (Nat.le_of_ble_eq_true rfl) hno (Nat.le_of_ble_eq_true rfl) (Nat.le_of_ble_eq_true rfl) (s_X3_isOutside hst ?_)
    refine g_if_eq hx dX3_takeOut_13 (tg := 26) (by decide) (nx := 16) rfl (fun c13 => ?_) (fun c13 => ?_)
    · obtain ⟨ho, ho9⟩ := hoo k hk9
      rw [← hbe] at ho
      refine g_aloadG_n hx dX3_takeOut_26 rfl (nx := 27) rfl rfl ?_
      refine g_getfn_i hx dX3_takeOut_27 (nx := 30) rfl fa_X3_101 rfl (lyS.ob hB) (by omega) ?_
      refine g_bipush hx dX3_takeOut_30 (nx := 32) rfl (v := 6) (by decide) ?_
      refine g_icmp_lt hx dX3_takeOut_32 (tg := 45) (by decide) (nx := 35) rfl (fun c32 => ?_) (fun c32 => ?_)
      · have hlt : oo k < 6 := by
          rw [ho] at c32
          exact (nI_ltI (by omega) (by decide : 6 < 2 ^ 31)).mp c32
        have hoc : (nI (oo k)).toNatClampNeg = oo k := nI_clamp (by omega)
        refine g_aloadG_n hx dX3_takeOut_45 rfl (nx := 46) rfl rfl ?_
        refine g_getfn_R hx dX3_takeOut_46 (nx := 49) rfl fa_X3_106 rfl (r9 := b + 6) (hB.2.1 12 6 rfl) (lyS.ob hB) (by omega) ?_
        refine g_aloadG_n hx dX3_takeOut_49 rfl (nx := 50) rfl rfl ?_
        refine g_getfn_i hx dX3_takeOut_50 (nx := 53) rfl fa_X3_101 rfl (lyS.ob hB) (by omega) ?_
        refine g_iloadG_n hx dX3_takeOut_53 rfl (nx := 54) rfl rfl ?_
        refine g_iastore hx dX3_takeOut_54 (nx := 55) rfl (hB.1 6 _ rfl) (by omega) (by rw [ho]; exact vp_in_nI hlt (by decide)) ?_
        refine g_aloadG_n hx dX3_takeOut_55 rfl (nx := 56) rfl rfl ?_
        refine g_dup hx dX3_takeOut_56 (nx := 57) rfl rfl ?_
        refine g_getfn_i hx dX3_takeOut_57 (nx := 60) rfl fa_X3_101 rfl (lyS.ob hB) (by omega) ?_
        refine g_iconst hx dX3_takeOut_60 (nx := 61) rfl (v := 1) (by decide) ?_
        refine g_iadd hx dX3_takeOut_61 (nx := 62) rfl ?_
        refine g_putfn_i hx dX3_takeOut_62 (nx := 65) rfl fa_X3_101 rfl rfl rfl (fun r h => by cases h; rfl) (lyS.ob hB) (by omega) ?_
        refine g_aloadG_n hx dX3_takeOut_65 rfl (nx := 66) rfl rfl ?_
        refine g_getfn_i hx dX3_takeOut_66 (nx := 69) rfl fa_X3_101 rfl (lyS.ob hB) (by omega) ?_
        refine g_iret hx dX3_takeOut_69 rfl rfl (Nat.le_of_ble_eq_true rfl) (Nat.le_of_ble_eq_true rfl) ?_
        rw [au2_s, au2_n (by omega), ho, hoc, ← nI_succ]
        subst hbe
        exact hk k hk9 rfl ((iout_z (x := y) (lo := 1) (hi := 31) (by decide) (by decide)).mp c13) hlt
      · refine g_throw hx th_X3_55_104_59 dX3_takeOut_35 dX3_takeOut_38 dX3_takeOut_39 dX3_takeOut_41 dX3_takeOut_44 hno (Nat.le_of_ble_eq_true rfl) (Nat.le_of_ble_eq_true rfl) (Nat.le_of_ble_eq_true rfl) (Nat.le_of_ble_eq_true rfl) (Nat.le_of_ble_eq_true rfl) (Nat.le_of_ble_eq_true rfl) ?_
        subst hbe
        exact hx3 k hk9 rfl ((iout_z (x := y) (lo := 1) (hi := 31) (by decide) (by decide)).mp c13) (Nat.le_antisymm ho9 (Nat.not_lt.mp (fun q => c32 (by rw [ho]; exact nI_lt (b := 6) q (by decide)))))
    · refine g_throw hx th_X3_45_99_49 dX3_takeOut_16 dX3_takeOut_19 dX3_takeOut_20 dX3_takeOut_22 dX3_takeOut_25 hno (Nat.le_of_ble_eq_true rfl) (Nat.le_of_ble_eq_true rfl) (Nat.le_of_ble_eq_true rfl) (Nat.le_of_ble_eq_true rfl) (Nat.le_of_ble_eq_true rfl) (Nat.le_of_ble_eq_true rfl) ?_
      exact hx2 ⟨k, hk9, rfl⟩ (fun q => c13 ((iout_z (x := y) (lo := 1) (hi := 31) (by decide) (by decide)).mpr q))
  · exact hx1 q

abbrev rmX3_putBack : Room := { frames := 7, cells := 1, slots := 6, locals := 111 }
set_option maxHeartbeats 4000000 in
set_option maxRecDepth 100000 in
theorem s_X3_putBack {l : Launch} {E : aE} {S : aS} {I : aI} {L : aL} {Rf : aR} {Kr : aK} {Kx : aX} (hst : l.stackTraces = false) {n nc : Nat} {x : Int32} (hC : lyC S Rf I n nc) (hx1 : ¬ inN x n → Kx eIO S I L Rf) (hk : ∀ k : Nat, k < n → x = nI k → Kr (some (.int (I (200 + 8 * k) 13))) S (au2 I (200 + 8 * k) 13 0) L Rf) : aMet l E yX3_putBack cX3_putBack 4 (some .int) rmX3_putBack [.ref 3, .int x] (S) (I) (L) (Rf) Kr Kx := by
  refine aMet.of (lv0 := [.ref 3, .int x, aU, aU]) (z := 2) (by decide +kernel) hst rfl (Nat.le_of_ble_eq_true rfl) ?_
  intro p e s m args below meth c io0 hx hin hno
  have hx : aCx p l s m args meth c RX3 cX3_putBack 4 (some .int) E := hx
  have hX := hC.1
  refine g_aloadG_n hx dX3_putBack_0 rfl (nx := 1) rfl rfl ?_
  refine g_iloadG_n hx dX3_putBack_1 rfl (nx := 2) rfl rfl ?_
  refine g_callV_X hx [_] (k' := 1) (n' := 6) dX3_putBack_2 (nx := 5) rfl lk_X3_75 (hX.1 0 _ rfl) (by decide) rfl rfl (Nat.le_of_ble_eq_true rfl) (Nat.le_of_ble_eq_true rfl) (Nat.le_of_ble_eq_true rfl) (Nat.le_of_ble_eq_true rfl) (Nat.le_of_ble_eq_true rfl) (Nat.le_of_ble_eq_true rfl) (Nat.le_of_ble_eq_true rfl) hno (Nat.le_of_ble_eq_true rfl) (Nat.le_of_ble_eq_true rfl) (s_X3_starAt hst hC (fun k hk9 ek => ?_) (fun q => ?_))
  · subst ek
    obtain ⟨b, hbe⟩ : ∃ b, b = 200 + 8 * k := ⟨_, rfl⟩
    rw [← hbe]
    have hB : lyS S Rf b := by rw [hbe]; exact hC.star (Nat.le_of_lt hk9)
    have hb := hB.2.2
    refine g_astore_2 hx dX3_putBack_5 (nx := 6) rfl (by decide) rfl ?_
    refine g_aloadG_n hx dX3_putBack_6 rfl (nx := 7) rfl rfl ?_
    refine g_getfn_i hx dX3_putBack_7 (nx := 10) rfl fa_X3_101 rfl (lyS.ob hB) (by omega) ?_
    refine g_istore_3 hx dX3_putBack_10 (nx := 11) rfl (by decide) rfl ?_
    refine g_aloadG_n hx dX3_putBack_11 rfl (nx := 12) rfl rfl ?_
    refine g_iconst hx dX3_putBack_12 (nx := 13) rfl (v := 0) (by decide) ?_
    refine g_putfn_i hx dX3_putBack_13 (nx := 16) rfl fa_X3_101 rfl rfl rfl (fun r h => by cases h; rfl) (lyS.ob hB) (by omega) ?_
    refine g_iloadG_n hx dX3_putBack_16 rfl (nx := 17) rfl rfl ?_
    refine g_iret hx dX3_putBack_17 rfl rfl (Nat.le_of_ble_eq_true rfl) (Nat.le_of_ble_eq_true rfl) ?_
    subst hbe
    exact hk k hk9 rfl
  · exact hx1 q

abbrev rmX3_ofStar : Room := { frames := 7, cells := 2, slots := 12, locals := 111 }
set_option maxHeartbeats 4000000 in
set_option maxRecDepth 100000 in
theorem s_X3_ofStar {l : Launch} {E : aE} {S : aS} {I : aI} {L : aL} {Rf : aR} {Kr : aK} {Kx : aX} (hst : l.stackTraces = false) {n nc : Nat} {x y : Int32} (hC : lyC S Rf I n nc) (hx1 : ¬ inN x n → Kx eIO S I L Rf) (hx2 : inN x n → ¬ inN y 6 → Kx eIA S I L Rf) (hk : ∀ k j : Nat, k < n → j < 6 → x = nI k → y = nI j → Kr (some (.int (I (200 + 8 * k) (4 + j)))) S I L Rf) : aMet l E yX3_ofStar cX3_ofStar 4 (some .int) rmX3_ofStar [.ref 3, .int x, .int y] (S) (I) (L) (Rf) Kr Kx := by
  refine aMet.of (lv0 := [.ref 3, .int x, .int y, aU]) (z := 1) (by decide +kernel) hst rfl (Nat.le_of_ble_eq_true rfl) ?_
  intro p e s m args below meth c io0 hx hin hno
  have hx : aCx p l s m args meth c RX3 cX3_ofStar 4 (some .int) E := hx
  have hX := hC.1
  refine g_aloadG_n hx dX3_ofStar_0 rfl (nx := 1) rfl rfl ?_
  refine g_iloadG_n hx dX3_ofStar_1 rfl (nx := 2) rfl rfl ?_
  refine g_callV_X hx [_] (k' := 1) (n' := 6) dX3_ofStar_2 (nx := 5) rfl lk_X3_75 (hX.1 0 _ rfl) (by decide) rfl rfl (Nat.le_of_ble_eq_true rfl) (Nat.le_of_ble_eq_true rfl) (Nat.le_of_ble_eq_true rfl) (Nat.le_of_ble_eq_true rfl) (Nat.le_of_ble_eq_true rfl) (Nat.le_of_ble_eq_true rfl) (Nat.le_of_ble_eq_true rfl) hno (Nat.le_of_ble_eq_true rfl) (Nat.le_of_ble_eq_true rfl) (s_X3_starAt hst hC (fun k hk9 ek => ?_) (fun q => ?_))
  · subst ek
    obtain ⟨b, hbe⟩ : ∃ b, b = 200 + 8 * k := ⟨_, rfl⟩
    rw [← hbe]
    have hB : lyS S Rf b := by rw [hbe]; exact hC.star (Nat.le_of_lt hk9)
    have hb := hB.2.2
    refine g_astore_3 hx dX3_ofStar_5 (nx := 6) rfl (by decide) rfl ?_
    refine g_iloadG_n hx dX3_ofStar_6 rfl (nx := 7) rfl rfl ?_
    by_cases hw9 : inN y 6
    · obtain ⟨w9, hw8, rfl⟩ := hw9
      match w9, hw8 with
      | 0, _ =>
        refine g_tabIn hx dX3_ofStar_7 (off := 37) (tg := 44) (by decide) (by decide) (by decide) (by decide) ?_
        refine g_aloadG_n hx dX3_ofStar_44 rfl (nx := 45) rfl rfl ?_
        refine g_getfn_i hx dX3_ofStar_45 (nx := 48) rfl fa_X3_205 rfl (lyS.ob hB) (by omega) ?_
        refine g_iret hx dX3_ofStar_48 rfl rfl (Nat.le_of_ble_eq_true rfl) (Nat.le_of_ble_eq_true rfl) ?_
        subst hbe
        exact hk k 0 hk9 (by decide) rfl rfl
      | 1, _ =>
        refine g_tabIn hx dX3_ofStar_7 (off := 42) (tg := 49) (by decide) (by decide) (by decide) (by decide) ?_
        refine g_aloadG_n hx dX3_ofStar_49 rfl (nx := 50) rfl rfl ?_
        refine g_getfn_i hx dX3_ofStar_50 (nx := 53) rfl fa_X3_206 rfl (lyS.ob hB) (by omega) ?_
        refine g_iret hx dX3_ofStar_53 rfl rfl (Nat.le_of_ble_eq_true rfl) (Nat.le_of_ble_eq_true rfl) ?_
        subst hbe
        exact hk k 1 hk9 (by decide) rfl rfl
      | 2, _ =>
        refine g_tabIn hx dX3_ofStar_7 (off := 47) (tg := 54) (by decide) (by decide) (by decide) (by decide) ?_
        refine g_aloadG_n hx dX3_ofStar_54 rfl (nx := 55) rfl rfl ?_
        refine g_getfn_i hx dX3_ofStar_55 (nx := 58) rfl fa_X3_209 rfl (lyS.ob hB) (by omega) ?_
        refine g_iret hx dX3_ofStar_58 rfl rfl (Nat.le_of_ble_eq_true rfl) (Nat.le_of_ble_eq_true rfl) ?_
        subst hbe
        exact hk k 2 hk9 (by decide) rfl rfl
      | 3, _ =>
        refine g_tabIn hx dX3_ofStar_7 (off := 52) (tg := 59) (by decide) (by decide) (by decide) (by decide) ?_
        refine g_aloadG_n hx dX3_ofStar_59 rfl (nx := 60) rfl rfl ?_
        refine g_getfn_i hx dX3_ofStar_60 (nx := 63) rfl fa_X3_212 rfl (lyS.ob hB) (by omega) ?_
        refine g_iret hx dX3_ofStar_63 rfl rfl (Nat.le_of_ble_eq_true rfl) (Nat.le_of_ble_eq_true rfl) ?_
        subst hbe
        exact hk k 3 hk9 (by decide) rfl rfl
      | 4, _ =>
        refine g_tabIn hx dX3_ofStar_7 (off := 57) (tg := 64) (by decide) (by decide) (by decide) (by decide) ?_
        refine g_aloadG_n hx dX3_ofStar_64 rfl (nx := 65) rfl rfl ?_
        refine g_getfn_i hx dX3_ofStar_65 (nx := 68) rfl fa_X3_215 rfl (lyS.ob hB) (by omega) ?_
        refine g_iret hx dX3_ofStar_68 rfl rfl (Nat.le_of_ble_eq_true rfl) (Nat.le_of_ble_eq_true rfl) ?_
        subst hbe
        exact hk k 4 hk9 (by decide) rfl rfl
      | 5, _ =>
        refine g_tabIn hx dX3_ofStar_7 (off := 62) (tg := 69) (by decide) (by decide) (by decide) (by decide) ?_
        refine g_aloadG_n hx dX3_ofStar_69 rfl (nx := 70) rfl rfl ?_
        refine g_getfn_i hx dX3_ofStar_70 (nx := 73) rfl fa_X3_218 rfl (lyS.ob hB) (by omega) ?_
        refine g_iret hx dX3_ofStar_73 rfl rfl (Nat.le_of_ble_eq_true rfl) (Nat.le_of_ble_eq_true rfl) ?_
        subst hbe
        exact hk k 5 hk9 (by decide) rfl rfl
      | w9 + 6, hw8 => exact absurd hw8 (by omega)
    · refine g_tabOut hx dX3_ofStar_7 (tg := 74) (Decidable.byContradiction fun q => hw9 ?_) (by decide) ?_
      · rw [not_or] at q
        have q1 : ¬ y < 0 := fun z => by have := Int32.lt_iff_toInt_lt.mp z; rw [Int32.toInt_zero] at this; omega
        obtain ⟨j, hj, rfl⟩ := nI_of q1
        rw [nI_toInt hj] at q
        exact ⟨j, by omega, rfl⟩
      · refine g_throw hx th_X3_45_221_49 dX3_ofStar_74 dX3_ofStar_77 dX3_ofStar_78 dX3_ofStar_80 dX3_ofStar_83 hno (Nat.le_of_ble_eq_true rfl) (Nat.le_of_ble_eq_true rfl) (Nat.le_of_ble_eq_true rfl) (Nat.le_of_ble_eq_true rfl) (Nat.le_of_ble_eq_true rfl) (Nat.le_of_ble_eq_true rfl) ?_
        exact hx2 ⟨k, hk9, rfl⟩ hw9
  · exact hx1 q

abbrev rmX3_crossingAnew : Room := { frames := 7, cells := 1, slots := 6, locals := 111 }
set_option maxHeartbeats 4000000 in
set_option maxRecDepth 100000 in
theorem s_X3_crossingAnew {l : Launch} {E : aE} {S : aS} {I : aI} {L : aL} {Rf : aR} {Kr : aK} {Kx : aX} (hst : l.stackTraces = false) {n nc : Nat} {x : Int32} {ss : Nat → Nat} {ff gg : Nat → Nat → Nat} (hC : lyC S Rf I n nc) (hss : ∀ k, k < n → I (200 + 8 * k) 3 = nI (ss k) ∧ ss k ≤ 8 ∧ ∀ i, i < ss k → I (200 + 8 * k + 1) i = nI (ff k i) ∧ I (200 + 8 * k + 2) i = nI (gg k i) ∧ ff k i ≤ 99 ∧ 1 ≤ gg k i ∧ gg k i ≤ 99) (hx1 : ¬ inN x n → Kx eIO S I L Rf) (hk : ∀ k : Nat, k < n → x = nI k → Kr (some (.int (crS (fun i => I (200 + 8 * k + 1) i) (fun i => I (200 + 8 * k + 2) i) (ss k)))) S I L Rf) : aMet l E yX3_crossingAnew cX3_crossingAnew 2 (some .int) rmX3_crossingAnew [.ref 3, .int x] (S) (I) (L) (Rf) Kr Kx := by
  refine aMet.of (lv0 := [.ref 3, .int x]) (z := 0) (by decide +kernel) hst rfl (Nat.le_of_ble_eq_true rfl) ?_
  intro p e s m args below meth c io0 hx hin hno
  have hx : aCx p l s m args meth c RX3 cX3_crossingAnew 2 (some .int) E := hx
  have hX := hC.1
  refine g_aloadG_n hx dX3_crossingAnew_0 rfl (nx := 1) rfl rfl ?_
  refine g_iloadG_n hx dX3_crossingAnew_1 rfl (nx := 2) rfl rfl ?_
  refine g_callV_X hx [_] (k' := 1) (n' := 6) dX3_crossingAnew_2 (nx := 5) rfl lk_X3_75 (hX.1 0 _ rfl) (by decide) rfl rfl (Nat.le_of_ble_eq_true rfl) (Nat.le_of_ble_eq_true rfl) (Nat.le_of_ble_eq_true rfl) (Nat.le_of_ble_eq_true rfl) (Nat.le_of_ble_eq_true rfl) (Nat.le_of_ble_eq_true rfl) (Nat.le_of_ble_eq_true rfl) hno (Nat.le_of_ble_eq_true rfl) (Nat.le_of_ble_eq_true rfl) (s_X3_starAt hst hC (fun k hk9 ek => ?_) (fun q => ?_))
  · subst ek
    obtain ⟨b, hbe⟩ : ∃ b, b = 200 + 8 * k := ⟨_, rfl⟩
    rw [← hbe]
    have hB : lyS S Rf b := by rw [hbe]; exact hC.star (Nat.le_of_lt hk9)
    have hb := hB.2.2
    refine g_callNV_M hx [] (k' := 1) (n' := 6) dX3_crossingAnew_5 (nx := 8) rfl lk_X3_223 (lyS.ob hB) (by omega) rfl rfl (Nat.le_of_ble_eq_true rfl) (Nat.le_of_ble_eq_true rfl) (Nat.le_of_ble_eq_true rfl) (Nat.le_of_ble_eq_true rfl) (Nat.le_of_ble_eq_true rfl) (Nat.le_of_ble_eq_true rfl) (Nat.le_of_ble_eq_true rfl) (s_X2_crossedByUnits (n := ss k) (f := ff k) (g := gg k) hst hB ?_ (hss k hk9).2.1 ?_ ?_)
    · rw [hbe]; exact (hss k hk9).1
    · rw [hbe]; exact (hss k hk9).2.2
    · subst hbe
      refine g_iret hx dX3_crossingAnew_8 rfl rfl (Nat.le_of_ble_eq_true rfl) (Nat.le_of_ble_eq_true rfl) ?_
      exact hk k hk9 rfl
  · exact hx1 q

abbrev rmX3_tone : Room := { frames := 7, cells := 2, slots := 12, locals := 111 }
set_option maxHeartbeats 4000000 in
set_option maxRecDepth 100000 in
theorem s_X3_tone {l : Launch} {E : aE} {S : aS} {I : aI} {L : aL} {Rf : aR} {Kr : aK} {Kx : aX} (hst : l.stackTraces = false) {n nc : Nat} {x y w v : Int32} (hC : lyC S Rf I n nc) (hx1 : ¬ inN x n → Kx eIO S I L Rf) (hx2 : inN x n → ¬ (rgN y 1 12 ∧ rgN w 0 3 ∧ iout v (-w) w = 0) → Kx eIA S I L Rf) (hk : ∀ k : Nat, k < n → x = nI k → (rgN y 1 12 ∧ rgN w 0 3 ∧ iout v (-w) w = 0) → Kr (some (.int (rgS I (200 + 8 * k) y w v))) S I L Rf) : aMet l E yX3_tone cX3_tone 6 (some .int) rmX3_tone [.ref 3, .int x, .int y, .int w, .int v] (S) (I) (L) (Rf) Kr Kx := by
  refine aMet.of (lv0 := [.ref 3, .int x, .int y, .int w, .int v, aU]) (z := 1) (by decide +kernel) hst rfl (Nat.le_of_ble_eq_true rfl) ?_
  intro p e s m args below meth c io0 hx hin hno
  have hx : aCx p l s m args meth c RX3 cX3_tone 6 (some .int) E := hx
  have hX := hC.1
  refine g_aloadG_n hx dX3_tone_0 rfl (nx := 1) rfl rfl ?_
  refine g_iloadG_n hx dX3_tone_1 rfl (nx := 2) rfl rfl ?_
  refine g_callV_X hx [_] (k' := 1) (n' := 6) dX3_tone_2 (nx := 5) rfl lk_X3_75 (hX.1 0 _ rfl) (by decide) rfl rfl (Nat.le_of_ble_eq_true rfl) (Nat.le_of_ble_eq_true rfl) (Nat.le_of_ble_eq_true rfl) (Nat.le_of_ble_eq_true rfl) (Nat.le_of_ble_eq_true rfl) (Nat.le_of_ble_eq_true rfl) (Nat.le_of_ble_eq_true rfl) hno (Nat.le_of_ble_eq_true rfl) (Nat.le_of_ble_eq_true rfl) (s_X3_starAt hst hC (fun k hk9 ek => ?_) (fun q => ?_))
  · subst ek
    obtain ⟨b, hbe⟩ : ∃ b, b = 200 + 8 * k := ⟨_, rfl⟩
    rw [← hbe]
    have hB : lyS S Rf b := by rw [hbe]; exact hC.star (Nat.le_of_lt hk9)
    have hb := hB.2.2
    refine g_astore_5 hx dX3_tone_5 (nx := 7) rfl (by decide) rfl ?_
    refine g_iloadG_n hx dX3_tone_7 rfl (nx := 8) rfl rfl ?_
    refine g_iconst hx dX3_tone_8 (nx := 9) rfl (v := 1) (by decide) ?_
    refine g_bipush hx dX3_tone_9 (nx := 11) rfl (v := 12) (by decide) ?_
    refine g_callS_X hx [_, _, _] (k' := 1) (n' := 6) dX3_tone_11 (nx := 14) rfl lk_X3_41 rfl (Nat.le_of_ble_eq_true rfl) (Nat.le_of_ble_eq_true rfl) (Nat.le_of_ble_eq_true rfl) (Nat.le_of_ble_eq_true rfl) (Nat.le_of_ble_eq_true rfl) (Nat.le_of_ble_eq_true rfl) (Nat.le_of_ble_eq_true rfl) hno (Nat.le_of_ble_eq_true rfl) (Nat.le_of_ble_eq_true rfl) (s_X3_isOutside hst ?_)
    refine g_if_ne hx dX3_tone_14 (tg := 37) (by decide) (nx := 17) rfl (fun c14 => ?_) (fun c14 => ?_)
    · refine g_throw hx th_X3_45_227_49 dX3_tone_37 dX3_tone_40 dX3_tone_41 dX3_tone_43 dX3_tone_46 hno (Nat.le_of_ble_eq_true rfl) (Nat.le_of_ble_eq_true rfl) (Nat.le_of_ble_eq_true rfl) (Nat.le_of_ble_eq_true rfl) (Nat.le_of_ble_eq_true rfl) (Nat.le_of_ble_eq_true rfl) ?_
      first
        | exact hx2 ⟨k, hk9, rfl⟩ (fun q => c14 ((iout_z (x := y) (lo := 1) (hi := 12) (by decide) (by decide)).mpr q.1))
        | exact hx2 ⟨k, hk9, rfl⟩ (fun q => c23 ((iout_z (x := w) (lo := 0) (hi := 3) (by decide) (by decide)).mpr q.2.1))
        | exact hx2 ⟨k, hk9, rfl⟩ (fun q => c34 q.2.2)
    · refine g_iloadG_n hx dX3_tone_17 rfl (nx := 18) rfl rfl ?_
      refine g_iconst hx dX3_tone_18 (nx := 19) rfl (v := 0) (by decide) ?_
      refine g_iconst hx dX3_tone_19 (nx := 20) rfl (v := 3) (by decide) ?_
      refine g_callS_X hx [_, _, _] (k' := 1) (n' := 6) dX3_tone_20 (nx := 23) rfl lk_X3_41 rfl (Nat.le_of_ble_eq_true rfl) (Nat.le_of_ble_eq_true rfl) (Nat.le_of_ble_eq_true rfl) (Nat.le_of_ble_eq_true rfl) (Nat.le_of_ble_eq_true rfl) (Nat.le_of_ble_eq_true rfl) (Nat.le_of_ble_eq_true rfl) hno (Nat.le_of_ble_eq_true rfl) (Nat.le_of_ble_eq_true rfl) (s_X3_isOutside hst ?_)
      refine g_if_ne hx dX3_tone_23 (tg := 37) (by decide) (nx := 26) rfl (fun c23 => ?_) (fun c23 => ?_)
      · refine g_throw hx th_X3_45_227_49 dX3_tone_37 dX3_tone_40 dX3_tone_41 dX3_tone_43 dX3_tone_46 hno (Nat.le_of_ble_eq_true rfl) (Nat.le_of_ble_eq_true rfl) (Nat.le_of_ble_eq_true rfl) (Nat.le_of_ble_eq_true rfl) (Nat.le_of_ble_eq_true rfl) (Nat.le_of_ble_eq_true rfl) ?_
        first
          | exact hx2 ⟨k, hk9, rfl⟩ (fun q => c14 ((iout_z (x := y) (lo := 1) (hi := 12) (by decide) (by decide)).mpr q.1))
          | exact hx2 ⟨k, hk9, rfl⟩ (fun q => c23 ((iout_z (x := w) (lo := 0) (hi := 3) (by decide) (by decide)).mpr q.2.1))
          | exact hx2 ⟨k, hk9, rfl⟩ (fun q => c34 q.2.2)
      · refine g_iloadG hx dX3_tone_26 (nx := 28) rfl rfl ?_
        refine g_iloadG_n hx dX3_tone_28 rfl (nx := 29) rfl rfl ?_
        refine g_ineg hx dX3_tone_29 (nx := 30) rfl ?_
        refine g_iloadG_n hx dX3_tone_30 rfl (nx := 31) rfl rfl ?_
        refine g_callS_X hx [_, _, _] (k' := 1) (n' := 6) dX3_tone_31 (nx := 34) rfl lk_X3_41 rfl (Nat.le_of_ble_eq_true rfl) (Nat.le_of_ble_eq_true rfl) (Nat.le_of_ble_eq_true rfl) (Nat.le_of_ble_eq_true rfl) (Nat.le_of_ble_eq_true rfl) (Nat.le_of_ble_eq_true rfl) (Nat.le_of_ble_eq_true rfl) hno (Nat.le_of_ble_eq_true rfl) (Nat.le_of_ble_eq_true rfl) (s_X3_isOutside hst ?_)
        refine g_if_eq hx dX3_tone_34 (tg := 47) (by decide) (nx := 37) rfl (fun c34 => ?_) (fun c34 => ?_)
        · refine g_aloadG hx dX3_tone_47 (nx := 49) rfl rfl ?_
          refine g_iloadG_n hx dX3_tone_49 rfl (nx := 50) rfl rfl ?_
          refine g_iloadG_n hx dX3_tone_50 rfl (nx := 51) rfl rfl ?_
          refine g_iloadG hx dX3_tone_51 (nx := 53) rfl rfl ?_
          refine g_callNV_M hx [_, _, _] (k' := 1) (n' := 6) dX3_tone_53 (nx := 56) rfl lk_X3_229 (lyS.ob hB) (by omega) rfl rfl (Nat.le_of_ble_eq_true rfl) (Nat.le_of_ble_eq_true rfl) (Nat.le_of_ble_eq_true rfl) (Nat.le_of_ble_eq_true rfl) (Nat.le_of_ble_eq_true rfl) (Nat.le_of_ble_eq_true rfl) (Nat.le_of_ble_eq_true rfl) (s_X2_ring hst hB ?_)
          refine g_iret hx dX3_tone_56 rfl rfl (Nat.le_of_ble_eq_true rfl) (Nat.le_of_ble_eq_true rfl) ?_
          subst hbe
          exact hk k hk9 rfl ⟨(iout_z (x := y) (lo := 1) (hi := 12) (by decide) (by decide)).mp c14, (iout_z (x := w) (lo := 0) (hi := 3) (by decide) (by decide)).mp c23, c34⟩
        · refine g_throw hx th_X3_45_227_49 dX3_tone_37 dX3_tone_40 dX3_tone_41 dX3_tone_43 dX3_tone_46 hno (Nat.le_of_ble_eq_true rfl) (Nat.le_of_ble_eq_true rfl) (Nat.le_of_ble_eq_true rfl) (Nat.le_of_ble_eq_true rfl) (Nat.le_of_ble_eq_true rfl) (Nat.le_of_ble_eq_true rfl) ?_
          first
            | exact hx2 ⟨k, hk9, rfl⟩ (fun q => c14 ((iout_z (x := y) (lo := 1) (hi := 12) (by decide) (by decide)).mpr q.1))
            | exact hx2 ⟨k, hk9, rfl⟩ (fun q => c23 ((iout_z (x := w) (lo := 0) (hi := 3) (by decide) (by decide)).mpr q.2.1))
            | exact hx2 ⟨k, hk9, rfl⟩ (fun q => c34 q.2.2)
  · exact hx1 q

abbrev rmX3_frames : Room := { frames := 7, cells := 1, slots := 6, locals := 111 }
set_option maxHeartbeats 4000000 in
set_option maxRecDepth 100000 in
theorem s_X3_frames {l : Launch} {E : aE} {S : aS} {I : aI} {L : aL} {Rf : aR} {Kr : aK} {Kx : aX} (hst : l.stackTraces = false) {n nc : Nat} {x : Int32} (hC : lyC S Rf I n nc) (hsi : ∀ k, k < n → ∀ t, t < 256 → vp_in (I (200 + 8 * k + 5) t) 4) (hx1 : ¬ inN x n → Kx eIO S I L Rf) (hk : ∀ k : Nat, k < n → x = nI k → ∀ I' L', eqX I' I → eqX L' L → Kr (some (.int (nI (aT (prs I (200 + 8 * k))).length))) S I' L' Rf) : aMet l E yX3_frames cX3_frames 2 (some .int) rmX3_frames [.ref 3, .int x] (S) (I) (L) (Rf) Kr Kx := by
  refine aMet.of (lv0 := [.ref 3, .int x]) (z := 0) (by decide +kernel) hst rfl (Nat.le_of_ble_eq_true rfl) ?_
  intro p e s m args below meth c io0 hx hin hno
  have hx : aCx p l s m args meth c RX3 cX3_frames 2 (some .int) E := hx
  have hX := hC.1
  refine g_aloadG_n hx dX3_frames_0 rfl (nx := 1) rfl rfl ?_
  refine g_getfo_R hx dX3_frames_1 (nx := 4) rfl fa_X3_37 rfl (r9 := 7) hX.2.2.2.2.1 (hX.1 0 _ rfl) (by decide) ?_
  refine g_aloadG_n hx dX3_frames_4 rfl (nx := 5) rfl rfl ?_
  refine g_iloadG_n hx dX3_frames_5 rfl (nx := 6) rfl rfl ?_
  refine g_callV_X hx [_] (k' := 1) (n' := 6) dX3_frames_6 (nx := 9) rfl lk_X3_75 (hX.1 0 _ rfl) (by decide) rfl rfl (Nat.le_of_ble_eq_true rfl) (Nat.le_of_ble_eq_true rfl) (Nat.le_of_ble_eq_true rfl) (Nat.le_of_ble_eq_true rfl) (Nat.le_of_ble_eq_true rfl) (Nat.le_of_ble_eq_true rfl) (Nat.le_of_ble_eq_true rfl) hno (Nat.le_of_ble_eq_true rfl) (Nat.le_of_ble_eq_true rfl) (s_X3_starAt hst hC (fun k hk9 ek => ?_) (fun q => ?_))
  · subst ek
    obtain ⟨b, hbe⟩ : ∃ b, b = 200 + 8 * k := ⟨_, rfl⟩
    rw [← hbe]
    have hB : lyS S Rf b := by rw [hbe]; exact hC.star (Nat.le_of_lt hk9)
    have hb := hB.2.2
    refine g_aloadG_n hx dX3_frames_9 rfl (nx := 10) rfl rfl ?_
    refine g_getfo_R hx dX3_frames_10 (nx := 13) rfl fa_X3_20 rfl (r9 := 5) hX.2.2.1 (hX.1 0 _ rfl) (by decide) ?_
    refine g_callNV_M hx [_, _] (k' := 1) (n' := 6) dX3_frames_13 (nx := 16) rfl lk_X3_233 (hX.1 4 _ rfl) (by decide) rfl rfl (Nat.le_of_ble_eq_true rfl) (Nat.le_of_ble_eq_true rfl) (Nat.le_of_ble_eq_true rfl) (Nat.le_of_ble_eq_true rfl) (Nat.le_of_ble_eq_true rfl) (Nat.le_of_ble_eq_true rfl) (Nat.le_of_ble_eq_true rfl) (s_X1_gather hst hX hB (by rw [hbe]; exact hsi k hk9) rfl (fun I' L' h1 h2 h3 => ?_))
    refine g_aloadG_n hx dX3_frames_16 rfl (nx := 17) rfl rfl ?_
    refine g_getfo_R hx dX3_frames_17 (nx := 20) rfl fa_X3_37 rfl (r9 := 7) hX.2.2.2.2.1 (hX.1 0 _ rfl) (by decide) ?_
    refine g_getfn_i hx dX3_frames_20 (nx := 23) rfl fa_X3_237 rfl (hX.1 4 _ rfl) (by decide) ?_
    refine g_iret hx dX3_frames_23 rfl rfl (Nat.le_of_ble_eq_true rfl) (Nat.le_of_ble_eq_true rfl) ?_
    rw [h3.1]
    subst hbe
    exact hk k hk9 rfl I' L' h1 (fun a c _ _ h => h2 a c h)
  · exact hx1 q

abbrev rmX3_value : Room := { frames := 7, cells := 3, slots := 18, locals := 117 }
set_option maxHeartbeats 4000000 in
set_option maxRecDepth 100000 in
theorem s_X3_value {l : Launch} {E : aE} {S : aS} {I : aI} {L : aL} {Rf : aR} {Kr : aK} {Kx : aX} (hst : l.stackTraces = false) {n nc : Nat} {oo : Nat → Nat} {x y w : Int32} (hC : lyC S Rf I n nc) (hsi : ∀ k, k < n → ∀ t, t < 256 → vp_in (I (200 + 8 * k + 5) t) 4) (hoo : ∀ k, k < n → I (200 + 8 * k) 13 = nI (oo k) ∧ oo k ≤ 6) (hx1 : ¬ (inN x n ∧ inN y 3) → Kx eIO S I L Rf) (hx2 : (inN x n ∧ inN y 3) → ¬ inN w 256 → Kx eIA S I L Rf) (hk : ∀ k j t : Nat, k < n → j < 3 → t < 256 → x = nI k → y = nI j → w = nI t → ∀ I' L', eqX I' I → eqX L' L → Kr (some (.int (if prs I (200 + 8 * k) t = true then laid I (200 + 8 * k) (nI j) (oo k) t else 0).toInt32)) S I' L' Rf) : aMet l E yX3_value cX3_value 5 (some .int) rmX3_value [.ref 3, .int x, .int y, .int w] (S) (I) (L) (Rf) Kr Kx := by
  refine aMet.of (lv0 := [.ref 3, .int x, .int y, .int w, aU]) (z := 1) (by decide +kernel) hst rfl (Nat.le_of_ble_eq_true rfl) ?_
  intro p e s m args below meth c io0 hx hin hno
  have hx : aCx p l s m args meth c RX3 cX3_value 5 (some .int) E := hx
  have hX := hC.1
  refine g_aloadG_n hx dX3_value_0 rfl (nx := 1) rfl rfl ?_
  refine g_iloadG_n hx dX3_value_1 rfl (nx := 2) rfl rfl ?_
  refine g_callV_X hx [_] (k' := 1) (n' := 6) dX3_value_2 (nx := 5) rfl lk_X3_75 (hX.1 0 _ rfl) (by decide) rfl rfl (Nat.le_of_ble_eq_true rfl) (Nat.le_of_ble_eq_true rfl) (Nat.le_of_ble_eq_true rfl) (Nat.le_of_ble_eq_true rfl) (Nat.le_of_ble_eq_true rfl) (Nat.le_of_ble_eq_true rfl) (Nat.le_of_ble_eq_true rfl) hno (Nat.le_of_ble_eq_true rfl) (Nat.le_of_ble_eq_true rfl) (s_X3_starAt hst hC (fun k hk9 ek => ?_) (fun q => ?_))
  · subst ek
    obtain ⟨b, hbe⟩ : ∃ b, b = 200 + 8 * k := ⟨_, rfl⟩
    rw [← hbe]
    have hB : lyS S Rf b := by rw [hbe]; exact hC.star (Nat.le_of_lt hk9)
    have hb := hB.2.2
    refine g_astore_4 hx dX3_value_5 (nx := 7) rfl (by decide) rfl ?_
    refine g_iloadG_n hx dX3_value_7 rfl (nx := 8) rfl rfl ?_
    refine g_callS_X hx [_] (k' := 2) (n' := 12) dX3_value_8 (nx := 11) rfl lk_X3_109 rfl (Nat.le_of_ble_eq_true rfl) (Nat.le_of_ble_eq_true rfl) (Nat.le_of_ble_eq_true rfl) (Nat.le_of_ble_eq_true rfl) (Nat.le_of_ble_eq_true rfl) (Nat.le_of_ble_eq_true rfl) (Nat.le_of_ble_eq_true rfl) hno (Nat.le_of_ble_eq_true rfl) (Nat.le_of_ble_eq_true rfl) (s_X3_lookForFilter hst (fun j hj9 ej => ?_) (fun q => ?_))
    · subst ej
      refine g_iloadG_n hx dX3_value_11 rfl (nx := 12) rfl rfl ?_
      refine g_callS_X hx [_] (k' := 3) (n' := 18) dX3_value_12 (nx := 15) rfl lk_X3_82 rfl (Nat.le_of_ble_eq_true rfl) (Nat.le_of_ble_eq_true rfl) (Nat.le_of_ble_eq_true rfl) (Nat.le_of_ble_eq_true rfl) (Nat.le_of_ble_eq_true rfl) (Nat.le_of_ble_eq_true rfl) (Nat.le_of_ble_eq_true rfl) hno (Nat.le_of_ble_eq_true rfl) (Nat.le_of_ble_eq_true rfl) (s_X3_lookAtTime hst (fun t ht9 et => ?_) (fun q => ?_))
      · subst et
        have ho : I b 13 = nI (oo k) := by rw [hbe]; exact (hoo k hk9).1
        refine g_aloadG_n hx dX3_value_15 rfl (nx := 16) rfl rfl ?_
        refine g_getfo_R hx dX3_value_16 (nx := 19) rfl fa_X3_37 rfl (r9 := 7) hX.2.2.2.2.1 (hX.1 0 _ rfl) (by decide) ?_
        refine g_aloadG hx dX3_value_19 (nx := 21) rfl rfl ?_
        refine g_aloadG_n hx dX3_value_21 rfl (nx := 22) rfl rfl ?_
        refine g_getfo_R hx dX3_value_22 (nx := 25) rfl fa_X3_20 rfl (r9 := 5) hX.2.2.1 (hX.1 0 _ rfl) (by decide) ?_
        refine g_iloadG_n hx dX3_value_25 rfl (nx := 26) rfl rfl ?_
        refine g_aloadG hx dX3_value_26 (nx := 28) rfl rfl ?_
        refine g_getfn_i hx dX3_value_28 (nx := 31) rfl fa_X3_101 rfl (lyS.ob hB) (by omega) ?_
        rw [ho]
        refine g_callNV_M hx [_, _, _, _] (k' := 3) (n' := 18) dX3_value_31 (nx := 34) rfl lk_X3_240 (hX.1 4 _ rfl) (by decide) rfl rfl (Nat.le_of_ble_eq_true rfl) (Nat.le_of_ble_eq_true rfl) (Nat.le_of_ble_eq_true rfl) (Nat.le_of_ble_eq_true rfl) (Nat.le_of_ble_eq_true rfl) (Nat.le_of_ble_eq_true rfl) (Nat.le_of_ble_eq_true rfl) (s_X1_look (k := oo k) hst hX hB (by rw [hbe]; exact hsi k hk9) (hoo k hk9).2 (fun I' L' h1 h2 h3 => ?_))
        refine g_aloadG_n hx dX3_value_34 rfl (nx := 35) rfl rfl ?_
        refine g_getfo_R hx dX3_value_35 (nx := 38) rfl fa_X3_37 rfl (r9 := 7) hX.2.2.2.2.1 (hX.1 0 _ rfl) (by decide) ?_
        refine g_iloadG_n hx dX3_value_38 rfl (nx := 39) rfl rfl ?_
        refine g_callNV_M hx [_] (k' := 3) (n' := 18) dX3_value_39 (nx := 42) rfl lk_X3_244 (hX.1 4 _ rfl) (by decide) rfl rfl (Nat.le_of_ble_eq_true rfl) (Nat.le_of_ble_eq_true rfl) (Nat.le_of_ble_eq_true rfl) (Nat.le_of_ble_eq_true rfl) (Nat.le_of_ble_eq_true rfl) (Nat.le_of_ble_eq_true rfl) (Nat.le_of_ble_eq_true rfl) (s_X1_valueAt hst hX h3 ht9 ?_)
        refine g_l2i hx dX3_value_42 (nx := 43) rfl ?_
        refine g_iret hx dX3_value_43 rfl rfl (Nat.le_of_ble_eq_true rfl) (Nat.le_of_ble_eq_true rfl) ?_
        subst hbe
        exact hk k j t hk9 hj9 ht9 rfl rfl rfl I' L' h1 h2
      · exact hx2 ⟨⟨k, hk9, rfl⟩, ⟨j, hj9, rfl⟩⟩ q
    · exact hx1 (fun h => q h.2)
  · exact hx1 (fun h => q h.1)

abbrev rmX3_power : Room := { frames := 7, cells := 3, slots := 18, locals := 117 }
set_option maxHeartbeats 4000000 in
set_option maxRecDepth 100000 in
theorem s_X3_power {l : Launch} {E : aE} {S : aS} {I : aI} {L : aL} {Rf : aR} {Kr : aK} {Kx : aX} (hst : l.stackTraces = false) {n nc : Nat} {oo : Nat → Nat} {x y w : Int32} (hC : lyC S Rf I n nc) (hsi : ∀ k, k < n → ∀ t, t < 256 → vp_in (I (200 + 8 * k + 5) t) 4) (hoo : ∀ k, k < n → I (200 + 8 * k) 13 = nI (oo k) ∧ oo k ≤ 6) (hx1 : ¬ (inN x n ∧ inN y 3) → Kx eIO S I L Rf) (hx2 : (inN x n ∧ inN y 3) → ¬ inN w 32 → Kx eIA S I L Rf) (hk : ∀ k j t : Nat, k < n → j < 3 → t < 32 → x = nI k → y = nI j → w = nI t → ∀ I' L', eqX I' I → eqX L' L → Kr (some (.long (pw (prs I (200 + 8 * k)) (laid I (200 + 8 * k) (nI j) (oo k)) (nI t)))) S I' L' Rf) : aMet l E yX3_power cX3_power 5 (some .long) rmX3_power [.ref 3, .int x, .int y, .int w] (S) (I) (L) (Rf) Kr Kx := by
  refine aMet.of (lv0 := [.ref 3, .int x, .int y, .int w, aU]) (z := 1) (by decide +kernel) hst rfl (Nat.le_of_ble_eq_true rfl) ?_
  intro p e s m args below meth c io0 hx hin hno
  have hx : aCx p l s m args meth c RX3 cX3_power 5 (some .long) E := hx
  have hX := hC.1
  refine g_aloadG_n hx dX3_power_0 rfl (nx := 1) rfl rfl ?_
  refine g_iloadG_n hx dX3_power_1 rfl (nx := 2) rfl rfl ?_
  refine g_callV_X hx [_] (k' := 1) (n' := 6) dX3_power_2 (nx := 5) rfl lk_X3_75 (hX.1 0 _ rfl) (by decide) rfl rfl (Nat.le_of_ble_eq_true rfl) (Nat.le_of_ble_eq_true rfl) (Nat.le_of_ble_eq_true rfl) (Nat.le_of_ble_eq_true rfl) (Nat.le_of_ble_eq_true rfl) (Nat.le_of_ble_eq_true rfl) (Nat.le_of_ble_eq_true rfl) hno (Nat.le_of_ble_eq_true rfl) (Nat.le_of_ble_eq_true rfl) (s_X3_starAt hst hC (fun k hk9 ek => ?_) (fun q => ?_))
  · subst ek
    obtain ⟨b, hbe⟩ : ∃ b, b = 200 + 8 * k := ⟨_, rfl⟩
    rw [← hbe]
    have hB : lyS S Rf b := by rw [hbe]; exact hC.star (Nat.le_of_lt hk9)
    have hb := hB.2.2
    refine g_astore_4 hx dX3_power_5 (nx := 7) rfl (by decide) rfl ?_
    refine g_iloadG_n hx dX3_power_7 rfl (nx := 8) rfl rfl ?_
    refine g_callS_X hx [_] (k' := 2) (n' := 12) dX3_power_8 (nx := 11) rfl lk_X3_109 rfl (Nat.le_of_ble_eq_true rfl) (Nat.le_of_ble_eq_true rfl) (Nat.le_of_ble_eq_true rfl) (Nat.le_of_ble_eq_true rfl) (Nat.le_of_ble_eq_true rfl) (Nat.le_of_ble_eq_true rfl) (Nat.le_of_ble_eq_true rfl) hno (Nat.le_of_ble_eq_true rfl) (Nat.le_of_ble_eq_true rfl) (s_X3_lookForFilter hst (fun j hj9 ej => ?_) (fun q => ?_))
    · subst ej
      refine g_iloadG_n hx dX3_power_11 rfl (nx := 12) rfl rfl ?_
      refine g_callS_X hx [_] (k' := 3) (n' := 18) dX3_power_12 (nx := 15) rfl lk_X3_247 rfl (Nat.le_of_ble_eq_true rfl) (Nat.le_of_ble_eq_true rfl) (Nat.le_of_ble_eq_true rfl) (Nat.le_of_ble_eq_true rfl) (Nat.le_of_ble_eq_true rfl) (Nat.le_of_ble_eq_true rfl) (Nat.le_of_ble_eq_true rfl) hno (Nat.le_of_ble_eq_true rfl) (Nat.le_of_ble_eq_true rfl) (s_X3_lookAtLine hst (fun t ht9 et => ?_) (fun q => ?_))
      · subst et
        have ho : I b 13 = nI (oo k) := by rw [hbe]; exact (hoo k hk9).1
        refine g_aloadG_n hx dX3_power_15 rfl (nx := 16) rfl rfl ?_
        refine g_getfo_R hx dX3_power_16 (nx := 19) rfl fa_X3_37 rfl (r9 := 7) hX.2.2.2.2.1 (hX.1 0 _ rfl) (by decide) ?_
        refine g_aloadG hx dX3_power_19 (nx := 21) rfl rfl ?_
        refine g_aloadG_n hx dX3_power_21 rfl (nx := 22) rfl rfl ?_
        refine g_getfo_R hx dX3_power_22 (nx := 25) rfl fa_X3_20 rfl (r9 := 5) hX.2.2.1 (hX.1 0 _ rfl) (by decide) ?_
        refine g_iloadG_n hx dX3_power_25 rfl (nx := 26) rfl rfl ?_
        refine g_aloadG hx dX3_power_26 (nx := 28) rfl rfl ?_
        refine g_getfn_i hx dX3_power_28 (nx := 31) rfl fa_X3_101 rfl (lyS.ob hB) (by omega) ?_
        rw [ho]
        refine g_callNV_M hx [_, _, _, _] (k' := 3) (n' := 18) dX3_power_31 (nx := 34) rfl lk_X3_240 (hX.1 4 _ rfl) (by decide) rfl rfl (Nat.le_of_ble_eq_true rfl) (Nat.le_of_ble_eq_true rfl) (Nat.le_of_ble_eq_true rfl) (Nat.le_of_ble_eq_true rfl) (Nat.le_of_ble_eq_true rfl) (Nat.le_of_ble_eq_true rfl) (Nat.le_of_ble_eq_true rfl) (s_X1_look (k := oo k) hst hX hB (by rw [hbe]; exact hsi k hk9) (hoo k hk9).2 (fun I' L' h1 h2 h3 => ?_))
        refine g_aloadG_n hx dX3_power_34 rfl (nx := 35) rfl rfl ?_
        refine g_getfo_R hx dX3_power_35 (nx := 38) rfl fa_X3_37 rfl (r9 := 7) hX.2.2.2.2.1 (hX.1 0 _ rfl) (by decide) ?_
        refine g_iloadG_n hx dX3_power_38 rfl (nx := 39) rfl rfl ?_
        refine g_callNV_M hx [_] (k' := 3) (n' := 18) dX3_power_39 (nx := 42) rfl lk_X3_127 (hX.1 4 _ rfl) (by decide) rfl rfl (Nat.le_of_ble_eq_true rfl) (Nat.le_of_ble_eq_true rfl) (Nat.le_of_ble_eq_true rfl) (Nat.le_of_ble_eq_true rfl) (Nat.le_of_ble_eq_true rfl) (Nat.le_of_ble_eq_true rfl) (Nat.le_of_ble_eq_true rfl) (s_X1_strength hst hX h3 (fun L2 g1 => ?_))
        refine g_lret hx dX3_power_42 rfl (Nat.le_of_ble_eq_true rfl) (Nat.le_of_ble_eq_true rfl) ?_
        subst hbe
        exact hk k j t hk9 hj9 ht9 rfl rfl rfl I' L2 h1 (fun a c k1 k2 k3 => (g1 a c k1).trans (h2 a c k1 k2 k3))
      · exact hx2 ⟨⟨k, hk9, rfl⟩, ⟨j, hj9, rfl⟩⟩ q
    · exact hx1 (fun h => q h.2)
  · exact hx1 (fun h => q h.1)

abbrev rmX3_window : Room := { frames := 7, cells := 2, slots := 12, locals := 111 }
set_option maxHeartbeats 4000000 in
set_option maxRecDepth 100000 in
theorem s_X3_window {l : Launch} {E : aE} {S : aS} {I : aI} {L : aL} {Rf : aR} {Kr : aK} {Kx : aX} (hst : l.stackTraces = false) {n nc : Nat} {x w : Int32} (hC : lyC S Rf I n nc) (hsi : ∀ k, k < n → ∀ t, t < 256 → vp_in (I (200 + 8 * k + 5) t) 4) (hx1 : ¬ inN x n → Kx eIO S I L Rf) (hx2 : inN x n → ¬ inN w 32 → Kx eIA S I L Rf) (hk : ∀ k t : Nat, k < n → t < 32 → x = nI k → w = nI t → ∀ I' L', eqX I' I → eqX L' L → Kr (some (.long (pw (prs I (200 + 8 * k)) (fun _ => 1) (nI t)))) S I' L' Rf) : aMet l E yX3_window cX3_window 4 (some .long) rmX3_window [.ref 3, .int x, .int w] (S) (I) (L) (Rf) Kr Kx := by
  refine aMet.of (lv0 := [.ref 3, .int x, .int w, aU]) (z := 1) (by decide +kernel) hst rfl (Nat.le_of_ble_eq_true rfl) ?_
  intro p e s m args below meth c io0 hx hin hno
  have hx : aCx p l s m args meth c RX3 cX3_window 4 (some .long) E := hx
  have hX := hC.1
  refine g_aloadG_n hx dX3_window_0 rfl (nx := 1) rfl rfl ?_
  refine g_iloadG_n hx dX3_window_1 rfl (nx := 2) rfl rfl ?_
  refine g_callV_X hx [_] (k' := 1) (n' := 6) dX3_window_2 (nx := 5) rfl lk_X3_75 (hX.1 0 _ rfl) (by decide) rfl rfl (Nat.le_of_ble_eq_true rfl) (Nat.le_of_ble_eq_true rfl) (Nat.le_of_ble_eq_true rfl) (Nat.le_of_ble_eq_true rfl) (Nat.le_of_ble_eq_true rfl) (Nat.le_of_ble_eq_true rfl) (Nat.le_of_ble_eq_true rfl) hno (Nat.le_of_ble_eq_true rfl) (Nat.le_of_ble_eq_true rfl) (s_X3_starAt hst hC (fun k hk9 ek => ?_) (fun q => ?_))
  · subst ek
    obtain ⟨b, hbe⟩ : ∃ b, b = 200 + 8 * k := ⟨_, rfl⟩
    rw [← hbe]
    have hB : lyS S Rf b := by rw [hbe]; exact hC.star (Nat.le_of_lt hk9)
    have hb := hB.2.2
    refine g_astore_3 hx dX3_window_5 (nx := 6) rfl (by decide) rfl ?_
    refine g_iloadG_n hx dX3_window_6 rfl (nx := 7) rfl rfl ?_
    refine g_callS_X hx [_] (k' := 2) (n' := 12) dX3_window_7 (nx := 10) rfl lk_X3_247 rfl (Nat.le_of_ble_eq_true rfl) (Nat.le_of_ble_eq_true rfl) (Nat.le_of_ble_eq_true rfl) (Nat.le_of_ble_eq_true rfl) (Nat.le_of_ble_eq_true rfl) (Nat.le_of_ble_eq_true rfl) (Nat.le_of_ble_eq_true rfl) hno (Nat.le_of_ble_eq_true rfl) (Nat.le_of_ble_eq_true rfl) (s_X3_lookAtLine hst (fun t ht9 et => ?_) (fun q => ?_))
    · subst et
      refine g_aloadG_n hx dX3_window_10 rfl (nx := 11) rfl rfl ?_
      refine g_getfo_R hx dX3_window_11 (nx := 14) rfl fa_X3_37 rfl (r9 := 7) hX.2.2.2.2.1 (hX.1 0 _ rfl) (by decide) ?_
      refine g_aloadG_n hx dX3_window_14 rfl (nx := 15) rfl rfl ?_
      refine g_aloadG_n hx dX3_window_15 rfl (nx := 16) rfl rfl ?_
      refine g_getfo_R hx dX3_window_16 (nx := 19) rfl fa_X3_20 rfl (r9 := 5) hX.2.2.1 (hX.1 0 _ rfl) (by decide) ?_
      refine g_callNV_M hx [_, _] (k' := 2) (n' := 12) dX3_window_19 (nx := 22) rfl lk_X3_233 (hX.1 4 _ rfl) (by decide) rfl rfl (Nat.le_of_ble_eq_true rfl) (Nat.le_of_ble_eq_true rfl) (Nat.le_of_ble_eq_true rfl) (Nat.le_of_ble_eq_true rfl) (Nat.le_of_ble_eq_true rfl) (Nat.le_of_ble_eq_true rfl) (Nat.le_of_ble_eq_true rfl) (s_X1_gather hst hX hB (by rw [hbe]; exact hsi k hk9) rfl (fun I' L' h1 h2 h3 => ?_))
      refine g_aloadG_n hx dX3_window_22 rfl (nx := 23) rfl rfl ?_
      refine g_getfo_R hx dX3_window_23 (nx := 26) rfl fa_X3_37 rfl (r9 := 7) hX.2.2.2.2.1 (hX.1 0 _ rfl) (by decide) ?_
      refine g_callNV_M hx [] (k' := 2) (n' := 12) dX3_window_26 (nx := 29) rfl lk_X3_250 (hX.1 4 _ rfl) (by decide) rfl rfl (Nat.le_of_ble_eq_true rfl) (Nat.le_of_ble_eq_true rfl) (Nat.le_of_ble_eq_true rfl) (Nat.le_of_ble_eq_true rfl) (Nat.le_of_ble_eq_true rfl) (Nat.le_of_ble_eq_true rfl) (Nat.le_of_ble_eq_true rfl) (s_X1_flatten hst hX h3 (fun L2 g1 g2 => ?_))
      refine g_aloadG_n hx dX3_window_29 rfl (nx := 30) rfl rfl ?_
      refine g_getfo_R hx dX3_window_30 (nx := 33) rfl fa_X3_37 rfl (r9 := 7) hX.2.2.2.2.1 (hX.1 0 _ rfl) (by decide) ?_
      refine g_iloadG_n hx dX3_window_33 rfl (nx := 34) rfl rfl ?_
      refine g_callNV_M hx [_] (k' := 2) (n' := 12) dX3_window_34 (nx := 37) rfl lk_X3_127 (hX.1 4 _ rfl) (by decide) rfl rfl (Nat.le_of_ble_eq_true rfl) (Nat.le_of_ble_eq_true rfl) (Nat.le_of_ble_eq_true rfl) (Nat.le_of_ble_eq_true rfl) (Nat.le_of_ble_eq_true rfl) (Nat.le_of_ble_eq_true rfl) (Nat.le_of_ble_eq_true rfl) (s_X1_strength hst hX g2 (fun L3 g3 => ?_))
      refine g_lret hx dX3_window_37 rfl (Nat.le_of_ble_eq_true rfl) (Nat.le_of_ble_eq_true rfl) ?_
      subst hbe
      exact hk k t hk9 ht9 rfl rfl I' L3 h1 (fun a c k1 k2 k3 => (g3 a c k1).trans ((g1 a c k3).trans (h2 a c k3)))
    · exact hx2 ⟨k, hk9, rfl⟩ q
  · exact hx1 q

/-- a peak: the line is from 1 to 30, and its power .. -/
def pkP (I : aI) (b : Nat) (x : Int32) (o : Nat) (y : Int32) : Prop := (I 3 4).toInt64 ≤ pw (prs I b) (laid I b x o) y ∧ pw (prs I b) (laid I b x o) (y - 1) < pw (prs I b) (laid I b x o) y ∧ pw (prs I b) (laid I b x o) (y + 1) < pw (prs I b) (laid I b x o) y
abbrev rmX3_standsOut : Room := { frames := 5, cells := 0, slots := 0, locals := 117 }
set_option maxHeartbeats 4000000 in
set_option maxRecDepth 100000 in
theorem s_X3_standsOut {l : Launch} {E : aE} {S : aS} {I : aI} {L : aL} {Rf : aR} {Kr : aK} {Kx : aX} (hst : l.stackTraces = false) {n nc b ok : Nat} {x y : Int32} (hC : lyC S Rf I n nc) (hB : lyS S Rf b) (hsi : ∀ t, t < 256 → vp_in (I (b + 5) t) 4) (ho : I b 13 = nI ok) (ho9 : ok ≤ 6) (hk0 : ¬ rgN y 1 30 → Kr (some (.int 0)) S I L Rf) (hk2 : rgN y 1 30 → ¬ pkP I b x ok y → ∀ I' L', eqX I' I → eqX L' L → Kr (some (.int 0)) S I' L' Rf) (hk1 : rgN y 1 30 → pkP I b x ok y → ∀ I' L', eqX I' I → eqX L' L → Lrep I' L' (prs I b) (laid I b x ok) → Kr (some (.int 1)) S I' L' Rf) : aMet l E yX3_standsOut cX3_standsOut 6 (some .boolean) rmX3_standsOut [.ref 3, .ref b, .int x, .int y] (S) (I) (L) (Rf) Kr Kx := by
  refine aMet.of (lv0 := [.ref 3, .ref b, .int x, .int y, aU, aU]) (z := 2) (by decide +kernel) hst rfl (Nat.le_of_ble_eq_true rfl) ?_
  intro p e s m args below meth c io0 hx hin hno
  have hx : aCx p l s m args meth c RX3 cX3_standsOut 6 (some .boolean) E := hx
  have hX := hC.1
  have hb := hB.2.2
  refine g_iloadG_n hx dX3_standsOut_0 rfl (nx := 1) rfl rfl ?_
  refine g_iconst hx dX3_standsOut_1 (nx := 2) rfl (v := 1) (by decide) ?_
  refine g_bipush hx dX3_standsOut_2 (nx := 4) rfl (v := 30) (by decide) ?_
  refine g_callS_X hx [_, _, _] (k' := 0) (n' := 0) dX3_standsOut_4 (nx := 7) rfl lk_X3_41 rfl (Nat.le_of_ble_eq_true rfl) (Nat.le_of_ble_eq_true rfl) (Nat.le_of_ble_eq_true rfl) (Nat.le_of_ble_eq_true rfl) (Nat.le_of_ble_eq_true rfl) (Nat.le_of_ble_eq_true rfl) (Nat.le_of_ble_eq_true rfl) hno (Nat.le_of_ble_eq_true rfl) (Nat.le_of_ble_eq_true rfl) (s_X3_isOutside hst ?_)
  refine g_if_eq hx dX3_standsOut_7 (tg := 12) (by decide) (nx := 10) rfl (fun c7 => ?_) (fun c7 => ?_)
  · refine g_aloadG_n hx dX3_standsOut_12 rfl (nx := 13) rfl rfl ?_
    refine g_getfo_R hx dX3_standsOut_13 (nx := 16) rfl fa_X3_37 rfl (r9 := 7) hX.2.2.2.2.1 (hX.1 0 _ rfl) (by decide) ?_
    refine g_aloadG_n hx dX3_standsOut_16 rfl (nx := 17) rfl rfl ?_
    refine g_aloadG_n hx dX3_standsOut_17 rfl (nx := 18) rfl rfl ?_
    refine g_getfo_R hx dX3_standsOut_18 (nx := 21) rfl fa_X3_20 rfl (r9 := 5) hX.2.2.1 (hX.1 0 _ rfl) (by decide) ?_
    refine g_iloadG_n hx dX3_standsOut_21 rfl (nx := 22) rfl rfl ?_
    refine g_aloadG_n hx dX3_standsOut_22 rfl (nx := 23) rfl rfl ?_
    refine g_getfn_i hx dX3_standsOut_23 (nx := 26) rfl fa_X3_101 rfl (lyS.ob hB) (by omega) ?_
    rw [ho]
    refine g_callNV_M hx [_, _, _, _] (k' := 0) (n' := 0) dX3_standsOut_26 (nx := 29) rfl lk_X3_240 (hX.1 4 _ rfl) (by decide) rfl rfl (Nat.le_of_ble_eq_true rfl) (Nat.le_of_ble_eq_true rfl) (Nat.le_of_ble_eq_true rfl) (Nat.le_of_ble_eq_true rfl) (Nat.le_of_ble_eq_true rfl) (Nat.le_of_ble_eq_true rfl) (Nat.le_of_ble_eq_true rfl) (s_X1_look (k := ok) hst hX hB hsi ho9 (fun I' L' h1 h2 h3 => ?_))
    refine g_aloadG_n hx dX3_standsOut_29 rfl (nx := 30) rfl rfl ?_
    refine g_getfo_R hx dX3_standsOut_30 (nx := 33) rfl fa_X3_37 rfl (r9 := 7) hX.2.2.2.2.1 (hX.1 0 _ rfl) (by decide) ?_
    refine g_iloadG_n hx dX3_standsOut_33 rfl (nx := 34) rfl rfl ?_
    refine g_callNV_M hx [_] (k' := 0) (n' := 0) dX3_standsOut_34 (nx := 37) rfl lk_X3_127 (hX.1 4 _ rfl) (by decide) rfl rfl (Nat.le_of_ble_eq_true rfl) (Nat.le_of_ble_eq_true rfl) (Nat.le_of_ble_eq_true rfl) (Nat.le_of_ble_eq_true rfl) (Nat.le_of_ble_eq_true rfl) (Nat.le_of_ble_eq_true rfl) (Nat.le_of_ble_eq_true rfl) (s_X1_strength hst hX h3 (fun L2 g1 => ?_))
    refine g_lstore_4 hx dX3_standsOut_37 (nx := 39) rfl (by decide) rfl ?_
    refine g_lloadG hx dX3_standsOut_39 (nx := 41) rfl rfl ?_
    refine g_aloadG_n hx dX3_standsOut_41 rfl (nx := 42) rfl rfl ?_
    refine g_getfo_i hx dX3_standsOut_42 (nx := 45) rfl fa_X3_24 rfl (hX.1 0 _ rfl) (by decide) ?_
    refine g_i2l hx dX3_standsOut_45 (nx := 46) rfl ?_
    rw [h1 3 4 (by decide) (by decide) (by decide)]
    refine g_lcmp hx dX3_standsOut_46 (nx := 47) rfl ?_
    refine g_if_lt hx dX3_standsOut_47 (tg := 86) (by decide) (nx := 50) rfl (fun c47 => ?_) (fun c47 => ?_)
    · refine g_iconst hx dX3_standsOut_86 (nx := 87) rfl (v := 0) (by decide) ?_
      refine g_iret hx dX3_standsOut_87 rfl rfl (Nat.le_of_ble_eq_true rfl) (Nat.le_of_ble_eq_true rfl) ?_
      first
        | (refine hk2 ((iout_z (x := y) (lo := 1) (hi := 30) (by decide) (by decide)).mp c7) (fun q => absurd ((lg_cmp_ge _ _).mpr q.1) (Int32.not_le.mpr c47)) I' L2 h1 (fun a c k1 k2 k3 => (g1 a c k1).trans (h2 a c k1 k2 k3)); done)
        | (refine hk2 ((iout_z (x := y) (lo := 1) (hi := 30) (by decide) (by decide)).mp c7) (fun q => absurd ((lg_cmp_gt _ _).mpr q.2.1) (Int32.not_lt.mpr c63)) I' L3 h1 (fun a c k1 k2 k3 => (g2 a c k1).trans ((g1 a c k1).trans (h2 a c k1 k2 k3))); done)
        | (refine hk2 ((iout_z (x := y) (lo := 1) (hi := 30) (by decide) (by decide)).mp c7) (fun q => absurd ((lg_cmp_gt _ _).mpr q.2.2) (Int32.not_lt.mpr c79)) I' L4 h1 (fun a c k1 k2 k3 => (g3 a c k1).trans ((g2 a c k1).trans ((g1 a c k1).trans (h2 a c k1 k2 k3)))); done)
        | (refine hk1 ((iout_z (x := y) (lo := 1) (hi := 30) (by decide) (by decide)).mp c7) ⟨(lg_cmp_ge _ _).mp (Int32.not_lt.mp c47), (lg_cmp_gt _ _).mp (Int32.not_le.mp c63), (lg_cmp_gt _ _).mp (Int32.not_le.mp c79)⟩ I' L4 h1 (fun a c k1 k2 k3 => (g3 a c k1).trans ((g2 a c k1).trans ((g1 a c k1).trans (h2 a c k1 k2 k3)))) ⟨h3.1, fun i t h => ⟨(h3.2 i t h).1, ((g3 9 i (by decide)).trans ((g2 9 i (by decide)).trans (g1 9 i (by decide)))).trans (h3.2 i t h).2⟩⟩; done)
    · refine g_lloadG hx dX3_standsOut_50 (nx := 52) rfl rfl ?_
      refine g_aloadG_n hx dX3_standsOut_52 rfl (nx := 53) rfl rfl ?_
      refine g_getfo_R hx dX3_standsOut_53 (nx := 56) rfl fa_X3_37 rfl (r9 := 7) hX.2.2.2.2.1 (hX.1 0 _ rfl) (by decide) ?_
      refine g_iloadG_n hx dX3_standsOut_56 rfl (nx := 57) rfl rfl ?_
      refine g_iconst hx dX3_standsOut_57 (nx := 58) rfl (v := 1) (by decide) ?_
      refine g_isub hx dX3_standsOut_58 (nx := 59) rfl ?_
      refine g_callNV_M hx [_] (k' := 0) (n' := 0) dX3_standsOut_59 (nx := 62) rfl lk_X3_127 (hX.1 4 _ rfl) (by decide) rfl rfl (Nat.le_of_ble_eq_true rfl) (Nat.le_of_ble_eq_true rfl) (Nat.le_of_ble_eq_true rfl) (Nat.le_of_ble_eq_true rfl) (Nat.le_of_ble_eq_true rfl) (Nat.le_of_ble_eq_true rfl) (Nat.le_of_ble_eq_true rfl) (s_X1_strength hst hX (q := prs I b) (V := laid I b x ok) ⟨h3.1, fun i t h => ⟨(h3.2 i t h).1, (g1 9 i (by decide)).trans (h3.2 i t h).2⟩⟩ (fun L3 g2 => ?_))
      refine g_lcmp hx dX3_standsOut_62 (nx := 63) rfl ?_
      refine g_if_le hx dX3_standsOut_63 (tg := 86) (by decide) (nx := 66) rfl (fun c63 => ?_) (fun c63 => ?_)
      · refine g_iconst hx dX3_standsOut_86 (nx := 87) rfl (v := 0) (by decide) ?_
        refine g_iret hx dX3_standsOut_87 rfl rfl (Nat.le_of_ble_eq_true rfl) (Nat.le_of_ble_eq_true rfl) ?_
        first
          | (refine hk2 ((iout_z (x := y) (lo := 1) (hi := 30) (by decide) (by decide)).mp c7) (fun q => absurd ((lg_cmp_ge _ _).mpr q.1) (Int32.not_le.mpr c47)) I' L2 h1 (fun a c k1 k2 k3 => (g1 a c k1).trans (h2 a c k1 k2 k3)); done)
          | (refine hk2 ((iout_z (x := y) (lo := 1) (hi := 30) (by decide) (by decide)).mp c7) (fun q => absurd ((lg_cmp_gt _ _).mpr q.2.1) (Int32.not_lt.mpr c63)) I' L3 h1 (fun a c k1 k2 k3 => (g2 a c k1).trans ((g1 a c k1).trans (h2 a c k1 k2 k3))); done)
          | (refine hk2 ((iout_z (x := y) (lo := 1) (hi := 30) (by decide) (by decide)).mp c7) (fun q => absurd ((lg_cmp_gt _ _).mpr q.2.2) (Int32.not_lt.mpr c79)) I' L4 h1 (fun a c k1 k2 k3 => (g3 a c k1).trans ((g2 a c k1).trans ((g1 a c k1).trans (h2 a c k1 k2 k3)))); done)
          | (refine hk1 ((iout_z (x := y) (lo := 1) (hi := 30) (by decide) (by decide)).mp c7) ⟨(lg_cmp_ge _ _).mp (Int32.not_lt.mp c47), (lg_cmp_gt _ _).mp (Int32.not_le.mp c63), (lg_cmp_gt _ _).mp (Int32.not_le.mp c79)⟩ I' L4 h1 (fun a c k1 k2 k3 => (g3 a c k1).trans ((g2 a c k1).trans ((g1 a c k1).trans (h2 a c k1 k2 k3)))) ⟨h3.1, fun i t h => ⟨(h3.2 i t h).1, ((g3 9 i (by decide)).trans ((g2 9 i (by decide)).trans (g1 9 i (by decide)))).trans (h3.2 i t h).2⟩⟩; done)
      · refine g_lloadG hx dX3_standsOut_66 (nx := 68) rfl rfl ?_
        refine g_aloadG_n hx dX3_standsOut_68 rfl (nx := 69) rfl rfl ?_
        refine g_getfo_R hx dX3_standsOut_69 (nx := 72) rfl fa_X3_37 rfl (r9 := 7) hX.2.2.2.2.1 (hX.1 0 _ rfl) (by decide) ?_
        refine g_iloadG_n hx dX3_standsOut_72 rfl (nx := 73) rfl rfl ?_
        refine g_iconst hx dX3_standsOut_73 (nx := 74) rfl (v := 1) (by decide) ?_
        refine g_iadd hx dX3_standsOut_74 (nx := 75) rfl ?_
        refine g_callNV_M hx [_] (k' := 0) (n' := 0) dX3_standsOut_75 (nx := 78) rfl lk_X3_127 (hX.1 4 _ rfl) (by decide) rfl rfl (Nat.le_of_ble_eq_true rfl) (Nat.le_of_ble_eq_true rfl) (Nat.le_of_ble_eq_true rfl) (Nat.le_of_ble_eq_true rfl) (Nat.le_of_ble_eq_true rfl) (Nat.le_of_ble_eq_true rfl) (Nat.le_of_ble_eq_true rfl) (s_X1_strength hst hX (q := prs I b) (V := laid I b x ok) ⟨h3.1, fun i t h => ⟨(h3.2 i t h).1, ((g2 9 i (by decide)).trans (g1 9 i (by decide))).trans (h3.2 i t h).2⟩⟩ (fun L4 g3 => ?_))
        refine g_lcmp hx dX3_standsOut_78 (nx := 79) rfl ?_
        refine g_if_le hx dX3_standsOut_79 (tg := 86) (by decide) (nx := 82) rfl (fun c79 => ?_) (fun c79 => ?_)
        · refine g_iconst hx dX3_standsOut_86 (nx := 87) rfl (v := 0) (by decide) ?_
          refine g_iret hx dX3_standsOut_87 rfl rfl (Nat.le_of_ble_eq_true rfl) (Nat.le_of_ble_eq_true rfl) ?_
          first
            | (refine hk2 ((iout_z (x := y) (lo := 1) (hi := 30) (by decide) (by decide)).mp c7) (fun q => absurd ((lg_cmp_ge _ _).mpr q.1) (Int32.not_le.mpr c47)) I' L2 h1 (fun a c k1 k2 k3 => (g1 a c k1).trans (h2 a c k1 k2 k3)); done)
            | (refine hk2 ((iout_z (x := y) (lo := 1) (hi := 30) (by decide) (by decide)).mp c7) (fun q => absurd ((lg_cmp_gt _ _).mpr q.2.1) (Int32.not_lt.mpr c63)) I' L3 h1 (fun a c k1 k2 k3 => (g2 a c k1).trans ((g1 a c k1).trans (h2 a c k1 k2 k3))); done)
            | (refine hk2 ((iout_z (x := y) (lo := 1) (hi := 30) (by decide) (by decide)).mp c7) (fun q => absurd ((lg_cmp_gt _ _).mpr q.2.2) (Int32.not_lt.mpr c79)) I' L4 h1 (fun a c k1 k2 k3 => (g3 a c k1).trans ((g2 a c k1).trans ((g1 a c k1).trans (h2 a c k1 k2 k3)))); done)
            | (refine hk1 ((iout_z (x := y) (lo := 1) (hi := 30) (by decide) (by decide)).mp c7) ⟨(lg_cmp_ge _ _).mp (Int32.not_lt.mp c47), (lg_cmp_gt _ _).mp (Int32.not_le.mp c63), (lg_cmp_gt _ _).mp (Int32.not_le.mp c79)⟩ I' L4 h1 (fun a c k1 k2 k3 => (g3 a c k1).trans ((g2 a c k1).trans ((g1 a c k1).trans (h2 a c k1 k2 k3)))) ⟨h3.1, fun i t h => ⟨(h3.2 i t h).1, ((g3 9 i (by decide)).trans ((g2 9 i (by decide)).trans (g1 9 i (by decide)))).trans (h3.2 i t h).2⟩⟩; done)
        · refine g_iconst hx dX3_standsOut_82 (nx := 83) rfl (v := 1) (by decide) ?_
          refine g_goto hx dX3_standsOut_83 (tg := 87) (by decide) ?_
          refine g_iret hx dX3_standsOut_87 rfl rfl (Nat.le_of_ble_eq_true rfl) (Nat.le_of_ble_eq_true rfl) ?_
          first
            | (refine hk2 ((iout_z (x := y) (lo := 1) (hi := 30) (by decide) (by decide)).mp c7) (fun q => absurd ((lg_cmp_ge _ _).mpr q.1) (Int32.not_le.mpr c47)) I' L2 h1 (fun a c k1 k2 k3 => (g1 a c k1).trans (h2 a c k1 k2 k3)); done)
            | (refine hk2 ((iout_z (x := y) (lo := 1) (hi := 30) (by decide) (by decide)).mp c7) (fun q => absurd ((lg_cmp_gt _ _).mpr q.2.1) (Int32.not_lt.mpr c63)) I' L3 h1 (fun a c k1 k2 k3 => (g2 a c k1).trans ((g1 a c k1).trans (h2 a c k1 k2 k3))); done)
            | (refine hk2 ((iout_z (x := y) (lo := 1) (hi := 30) (by decide) (by decide)).mp c7) (fun q => absurd ((lg_cmp_gt _ _).mpr q.2.2) (Int32.not_lt.mpr c79)) I' L4 h1 (fun a c k1 k2 k3 => (g3 a c k1).trans ((g2 a c k1).trans ((g1 a c k1).trans (h2 a c k1 k2 k3)))); done)
            | (refine hk1 ((iout_z (x := y) (lo := 1) (hi := 30) (by decide) (by decide)).mp c7) ⟨(lg_cmp_ge _ _).mp (Int32.not_lt.mp c47), (lg_cmp_gt _ _).mp (Int32.not_le.mp c63), (lg_cmp_gt _ _).mp (Int32.not_le.mp c79)⟩ I' L4 h1 (fun a c k1 k2 k3 => (g3 a c k1).trans ((g2 a c k1).trans ((g1 a c k1).trans (h2 a c k1 k2 k3)))) ⟨h3.1, fun i t h => ⟨(h3.2 i t h).1, ((g3 9 i (by decide)).trans ((g2 9 i (by decide)).trans (g1 9 i (by decide)))).trans (h3.2 i t h).2⟩⟩; done)
  · refine g_iconst hx dX3_standsOut_10 (nx := 11) rfl (v := 0) (by decide) ?_
    refine g_iret hx dX3_standsOut_11 rfl rfl (Nat.le_of_ble_eq_true rfl) (Nat.le_of_ble_eq_true rfl) ?_
    refine hk0 (fun q => c7 ((iout_z (x := y) (lo := 1) (hi := 30) (by decide) (by decide)).mpr q))

abbrev rmX3_isPeak : Room := { frames := 7, cells := 2, slots := 12, locals := 142 }
set_option maxHeartbeats 4000000 in
set_option maxRecDepth 100000 in
theorem s_X3_isPeak {l : Launch} {E : aE} {S : aS} {I : aI} {L : aL} {Rf : aR} {Kr : aK} {Kx : aX} (hst : l.stackTraces = false) {n nc : Nat} {oo : Nat → Nat} {x y w : Int32} (hC : lyC S Rf I n nc) (hsi : ∀ k, k < n → ∀ t, t < 256 → vp_in (I (200 + 8 * k + 5) t) 4) (hoo : ∀ k, k < n → I (200 + 8 * k) 13 = nI (oo k) ∧ oo k ≤ 6) (hx1 : ¬ (inN x n ∧ inN y 3) → Kx eIO S I L Rf) (hk : ∀ k j : Nat, k < n → j < 3 → x = nI k → y = nI j → ∀ r : Int32, (r = 1 ∧ rgN w 1 30 ∧ pkP I (200 + 8 * k) (nI j) (oo k) w) ∨ (r = 0 ∧ ¬ (rgN w 1 30 ∧ pkP I (200 + 8 * k) (nI j) (oo k) w)) → ∀ I' L', eqX I' I → eqX L' L → Kr (some (.int r)) S I' L' Rf) : aMet l E yX3_isPeak cX3_isPeak 5 (some .boolean) rmX3_isPeak [.ref 3, .int x, .int y, .int w] (S) (I) (L) (Rf) Kr Kx := by
  refine aMet.of (lv0 := [.ref 3, .int x, .int y, .int w, aU]) (z := 1) (by decide +kernel) hst rfl (Nat.le_of_ble_eq_true rfl) ?_
  intro p e s m args below meth c io0 hx hin hno
  have hx : aCx p l s m args meth c RX3 cX3_isPeak 5 (some .boolean) E := hx
  have hX := hC.1
  refine g_aloadG_n hx dX3_isPeak_0 rfl (nx := 1) rfl rfl ?_
  refine g_iloadG_n hx dX3_isPeak_1 rfl (nx := 2) rfl rfl ?_
  refine g_callV_X hx [_] (k' := 1) (n' := 6) dX3_isPeak_2 (nx := 5) rfl lk_X3_75 (hX.1 0 _ rfl) (by decide) rfl rfl (Nat.le_of_ble_eq_true rfl) (Nat.le_of_ble_eq_true rfl) (Nat.le_of_ble_eq_true rfl) (Nat.le_of_ble_eq_true rfl) (Nat.le_of_ble_eq_true rfl) (Nat.le_of_ble_eq_true rfl) (Nat.le_of_ble_eq_true rfl) hno (Nat.le_of_ble_eq_true rfl) (Nat.le_of_ble_eq_true rfl) (s_X3_starAt hst hC (fun k hk9 ek => ?_) (fun q => ?_))
  · subst ek
    obtain ⟨b, hbe⟩ : ∃ b, b = 200 + 8 * k := ⟨_, rfl⟩
    rw [← hbe]
    have hB : lyS S Rf b := by rw [hbe]; exact hC.star (Nat.le_of_lt hk9)
    have hb := hB.2.2
    refine g_astore_4 hx dX3_isPeak_5 (nx := 7) rfl (by decide) rfl ?_
    refine g_iloadG_n hx dX3_isPeak_7 rfl (nx := 8) rfl rfl ?_
    refine g_callS_X hx [_] (k' := 2) (n' := 12) dX3_isPeak_8 (nx := 11) rfl lk_X3_109 rfl (Nat.le_of_ble_eq_true rfl) (Nat.le_of_ble_eq_true rfl) (Nat.le_of_ble_eq_true rfl) (Nat.le_of_ble_eq_true rfl) (Nat.le_of_ble_eq_true rfl) (Nat.le_of_ble_eq_true rfl) (Nat.le_of_ble_eq_true rfl) hno (Nat.le_of_ble_eq_true rfl) (Nat.le_of_ble_eq_true rfl) (s_X3_lookForFilter hst (fun j hj9 ej => ?_) (fun q => ?_))
    · subst ej
      refine g_aloadG_n hx dX3_isPeak_11 rfl (nx := 12) rfl rfl ?_
      refine g_aloadG hx dX3_isPeak_12 (nx := 14) rfl rfl ?_
      refine g_iloadG_n hx dX3_isPeak_14 rfl (nx := 15) rfl rfl ?_
      refine g_iloadG_n hx dX3_isPeak_15 rfl (nx := 16) rfl rfl ?_
      refine g_callV_X hx [_, _, _] (k' := 2) (n' := 12) dX3_isPeak_16 (nx := 19) rfl lk_X3_115 (hX.1 0 _ rfl) (by decide) rfl rfl (Nat.le_of_ble_eq_true rfl) (Nat.le_of_ble_eq_true rfl) (Nat.le_of_ble_eq_true rfl) (Nat.le_of_ble_eq_true rfl) (Nat.le_of_ble_eq_true rfl) (Nat.le_of_ble_eq_true rfl) (Nat.le_of_ble_eq_true rfl) hno (Nat.le_of_ble_eq_true rfl) (Nat.le_of_ble_eq_true rfl) (s_X3_standsOut (ok := oo k) hst hC hB (by rw [hbe]; exact hsi k hk9) (by rw [hbe]; exact (hoo k hk9).1) (hoo k hk9).2 (fun q => ?_) (fun q1 q2 I' L' h1 h2 => ?_) (fun q1 q2 I' L' h1 h2 h3 => ?_))
      · have hq := hk k j hk9 hj9 rfl rfl 0 (Or.inr ⟨rfl, fun z => q z.1⟩) I L (eqX.refl I) (eqX.refl L)
        refine g_iret hx dX3_isPeak_19 rfl rfl (Nat.le_of_ble_eq_true rfl) (Nat.le_of_ble_eq_true rfl) ?_
        exact hq
      · have hq := hk k j hk9 hj9 rfl rfl 0 (Or.inr ⟨rfl, fun z => q2 (by rw [hbe]; exact z.2)⟩) I' L' h1 h2
        refine g_iret hx dX3_isPeak_19 rfl rfl (Nat.le_of_ble_eq_true rfl) (Nat.le_of_ble_eq_true rfl) ?_
        exact hq
      · have hq := hk k j hk9 hj9 rfl rfl 1 (Or.inl ⟨rfl, q1, by rw [← hbe]; exact q2⟩) I' L' h1 h2
        refine g_iret hx dX3_isPeak_19 rfl rfl (Nat.le_of_ble_eq_true rfl) (Nat.le_of_ble_eq_true rfl) ?_
        exact hq
    · exact hx1 (fun h => q h.2)
  · exact hx1 (fun h => q h.1)

