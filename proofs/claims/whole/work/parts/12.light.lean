/-! the class's light -/
abbrev rmX1_sumUp : Room := { frames := 2, cells := 0, slots := 0, locals := 40 }
set_option maxHeartbeats 4000000 in
set_option maxRecDepth 100000 in
theorem s_X1_sumUp {l : Launch} {E : aE} {S : aS} {I : aI} {L : aL} {Rf : aR} {Kr : aK} {Kx : aX} (hst : l.stackTraces = false) {x : Int32} {q : Nat → Bool} {V : Nat → Int64} (hX : lyX S Rf) (hL : Lrep I L q V) (hk : ∀ L', (∀ a b, a ≠ 7 → L' a b = L a b) → L' 7 3 = sC q V x → L' 7 4 = sS q V x → Kr none S I L' Rf) : aMet l E yX1_sumUp cX1_sumUp 4 none rmX1_sumUp [.ref 7, .int x] (S) (I) (L) (Rf) Kr Kx := by
  refine aMet.of (lv0 := [.ref 7, .int x, aU, aU]) (z := 2) (by decide +kernel) hst rfl (Nat.le_of_ble_eq_true rfl) ?_
  intro p e s m args below meth c io0 hx hin hno
  have hx : aCx p l s m args meth c RX1 cX1_sumUp 4 none E := hx
  have hlen := aT_len q
  have loop : ∀ (r i : Nat) (L' : aL) (w : Value), i + r = (aT q).length → (∀ a b, a ≠ 7 → L' a b = L a b) → L' 7 3 = lsum ((aT q).take i) (fun t => V t * cosL x t) → L' 7 4 = lsum ((aT q).take i) (fun t => V t * sinL x t) → aG p l e rmX1_sumUp s m args below meth c E io0 S 4 (vx_MQ below (aQc E io0 S Kr) (aXC E io0 S Kx) args s rmX1_sumUp.cells rmX1_sumUp.slots (aW E)) 12 [.ref 7, .int x, .int (nI i), w] [] (S) (I) (L') (Rf) 0 0 := by
    intro r
    induction r with
    | zero =>
      intro i L' w hi h1 h2 h3
      have hi : i = (aT q).length := by omega
      refine g_iloadG_n hx dX1_sumUp_12 rfl (nx := 13) rfl rfl ?_
      refine g_aloadG_n hx dX1_sumUp_13 rfl (nx := 14) rfl rfl ?_
      refine g_getfo_i hx dX1_sumUp_14 (nx := 17) rfl fa_X1_38 rfl (hX.1 4 _ rfl) (by decide) ?_
      refine g_icmp_ge hx dX1_sumUp_17 (tg := 77) (by decide) (nx := 20) rfl (fun c17 => ?_) (fun c17 => ?_)
      · refine g_vret hx dX1_sumUp_77 rfl (Nat.le_of_ble_eq_true rfl) (Nat.le_of_ble_eq_true rfl) ?_
        exact hk L' h1 (by rw [h2, hi, List.take_length]; rfl) (by rw [h3, hi, List.take_length]; rfl)
      · exact absurd (by rw [hL.1, hi]; exact Int32.le_refl _) c17
    | succ r ih =>
      intro i L' w hi h1 h2 h3
      have hlt : i < (aT q).length := by omega
      obtain ⟨t, ht⟩ : ∃ t, (aT q)[i]? = some t := ⟨_, List.getElem?_eq_getElem hlt⟩
      have ha := hL.2 i t ht
      have hn : (nI i).toNatClampNeg = i := nI_clamp (by omega)
      have hin : vp_in (nI i) 256 := vp_in_nI (by omega) (by omega)
      refine g_iloadG_n hx dX1_sumUp_12 rfl (nx := 13) rfl rfl ?_
      refine g_aloadG_n hx dX1_sumUp_13 rfl (nx := 14) rfl rfl ?_
      refine g_getfo_i hx dX1_sumUp_14 (nx := 17) rfl fa_X1_38 rfl (hX.1 4 _ rfl) (by decide) ?_
      refine g_icmp_ge hx dX1_sumUp_17 (tg := 77) (by decide) (nx := 20) rfl (fun c17 => ?_) (fun c17 => ?_)
      · exact absurd c17 (by rw [hL.1]; exact nI_ge hlt (by omega))
      · refine g_iloadG_n hx dX1_sumUp_20 rfl (nx := 21) rfl rfl ?_
        refine g_aloadG_n hx dX1_sumUp_21 rfl (nx := 22) rfl rfl ?_
        refine g_getfo_R hx dX1_sumUp_22 (nx := 25) rfl fa_X1_9 rfl (r9 := 8) hX.2.2.2.2.2.1 (hX.1 4 _ rfl) (by decide) ?_
        refine g_iloadG_n hx dX1_sumUp_25 rfl (nx := 26) rfl rfl ?_
        refine g_iaload hx dX1_sumUp_26 (nx := 27) rfl (hX.1 5 _ rfl) (by decide) hin ?_
        refine g_imul hx dX1_sumUp_27 (nx := 28) rfl ?_
        refine g_istore_3 hx dX1_sumUp_28 (nx := 29) rfl (by decide) rfl ?_
        refine g_aloadG_n hx dX1_sumUp_29 rfl (nx := 30) rfl rfl ?_
        refine g_dup hx dX1_sumUp_30 (nx := 31) rfl rfl ?_
        refine g_getfo_l hx dX1_sumUp_31 (nx := 34) rfl fa_X1_67 rfl (hX.1 4 _ rfl) (by decide) ?_
        refine g_aloadG_n hx dX1_sumUp_34 rfl (nx := 35) rfl rfl ?_
        refine g_getfo_R hx dX1_sumUp_35 (nx := 38) rfl fa_X1_15 rfl (r9 := 9) hX.2.2.2.2.2.2.1 (hX.1 4 _ rfl) (by decide) ?_
        refine g_iloadG_n hx dX1_sumUp_38 rfl (nx := 39) rfl rfl ?_
        refine g_laload hx dX1_sumUp_39 (nx := 40) rfl (hX.1 6 _ rfl) (by decide) hin ?_
        refine g_iloadG_n hx dX1_sumUp_40 rfl (nx := 41) rfl rfl ?_
        refine g_callNS_M hx [_] (k' := 0) (n' := 0) dX1_sumUp_41 (nx := 44) rfl lk_X1_74 rfl (Nat.le_of_ble_eq_true rfl) (Nat.le_of_ble_eq_true rfl) (Nat.le_of_ble_eq_true rfl) (Nat.le_of_ble_eq_true rfl) (Nat.le_of_ble_eq_true rfl) (Nat.le_of_ble_eq_true rfl) (Nat.le_of_ble_eq_true rfl) (s_X3_cosine hst hX ?_)
        refine g_i2l hx dX1_sumUp_44 (nx := 45) rfl ?_
        refine g_lmul hx dX1_sumUp_45 (nx := 46) rfl ?_
        refine g_ladd hx dX1_sumUp_46 (nx := 47) rfl ?_
        refine g_putfo_l hx dX1_sumUp_47 (nx := 50) rfl fa_X1_67 rfl (fun r h => by cases h; rfl) (hX.1 4 _ rfl) (by decide) ?_
        refine g_aloadG_n hx dX1_sumUp_50 rfl (nx := 51) rfl rfl ?_
        refine g_dup hx dX1_sumUp_51 (nx := 52) rfl rfl ?_
        refine g_getfo_l hx dX1_sumUp_52 (nx := 55) rfl fa_X1_71 rfl (hX.1 4 _ rfl) (by decide) ?_
        refine g_aloadG_n hx dX1_sumUp_55 rfl (nx := 56) rfl rfl ?_
        refine g_getfo_R hx dX1_sumUp_56 (nx := 59) rfl fa_X1_15 rfl (r9 := 9) hX.2.2.2.2.2.2.1 (hX.1 4 _ rfl) (by decide) ?_
        refine g_iloadG_n hx dX1_sumUp_59 rfl (nx := 60) rfl rfl ?_
        refine g_laload hx dX1_sumUp_60 (nx := 61) rfl (hX.1 6 _ rfl) (by decide) hin ?_
        refine g_iloadG_n hx dX1_sumUp_61 rfl (nx := 62) rfl rfl ?_
        refine g_callNS_M hx [_] (k' := 0) (n' := 0) dX1_sumUp_62 (nx := 65) rfl lk_X1_78 rfl (Nat.le_of_ble_eq_true rfl) (Nat.le_of_ble_eq_true rfl) (Nat.le_of_ble_eq_true rfl) (Nat.le_of_ble_eq_true rfl) (Nat.le_of_ble_eq_true rfl) (Nat.le_of_ble_eq_true rfl) (Nat.le_of_ble_eq_true rfl) (s_X3_sine hst hX ?_)
        refine g_i2l hx dX1_sumUp_65 (nx := 66) rfl ?_
        refine g_lmul hx dX1_sumUp_66 (nx := 67) rfl ?_
        refine g_ladd hx dX1_sumUp_67 (nx := 68) rfl ?_
        refine g_putfo_l hx dX1_sumUp_68 (nx := 71) rfl fa_X1_71 rfl (fun r h => by cases h; rfl) (hX.1 4 _ rfl) (by decide) ?_
        refine g_iinc_2 hx dX1_sumUp_71 (nx := 74) rfl (by decide) (v := 1) (by decide) rfl ?_
        refine g_goto hx dX1_sumUp_74 (tg := 12) (by decide) ?_
        rw [← nI_succ]
        refine ih (i + 1) _ _ (by omega) (fun a b h => ?_) ?_ ?_
        · rw [au2_n (fun z => h z.1), au2_n (fun z => h z.1)]; exact h1 a b h
        · rw [au2_n (by omega), au2_s, take_snoc ht, lsum_snoc, h2, hn, ha.1, h1 9 i (by decide), ha.2]; rfl
        · rw [au2_s, au2_n (by omega), take_snoc ht, lsum_snoc, h3, hn, ha.1, au2_n (by omega), h1 9 i (by decide), ha.2]; rfl
  refine g_aloadG_n hx dX1_sumUp_0 rfl (nx := 1) rfl rfl ?_
  refine g_lconst hx dX1_sumUp_1 (nx := 2) rfl (v := 0) (by decide) ?_
  refine g_putfo_l hx dX1_sumUp_2 (nx := 5) rfl fa_X1_67 rfl (fun r h => by cases h; rfl) (hX.1 4 _ rfl) (by decide) ?_
  refine g_aloadG_n hx dX1_sumUp_5 rfl (nx := 6) rfl rfl ?_
  refine g_lconst hx dX1_sumUp_6 (nx := 7) rfl (v := 0) (by decide) ?_
  refine g_putfo_l hx dX1_sumUp_7 (nx := 10) rfl fa_X1_71 rfl (fun r h => by cases h; rfl) (hX.1 4 _ rfl) (by decide) ?_
  refine g_iconst hx dX1_sumUp_10 (nx := 11) rfl (v := 0) (by decide) ?_
  refine g_istore_2 hx dX1_sumUp_11 (nx := 12) rfl (by decide) rfl ?_
  exact loop _ 0 _ _ (Nat.zero_add _) (fun a b h => by rw [au2_n (fun z => h z.1), au2_n (fun z => h z.1)]) (by rw [au2_n (by omega), au2_s]; rfl) (by rw [au2_s]; rfl)

abbrev rmX1_strength : Room := { frames := 3, cells := 0, slots := 0, locals := 63 }
set_option maxHeartbeats 4000000 in
set_option maxRecDepth 100000 in
theorem s_X1_strength {l : Launch} {E : aE} {S : aS} {I : aI} {L : aL} {Rf : aR} {Kr : aK} {Kx : aX} (hst : l.stackTraces = false) {x : Int32} {q : Nat → Bool} {V : Nat → Int64} (hX : lyX S Rf) (hL : Lrep I L q V) (hk : ∀ L', (∀ a b, a ≠ 7 → L' a b = L a b) → Kr (some (.long (pw q V x))) S I L' Rf) : aMet l E yX1_strength cX1_strength 6 (some .long) rmX1_strength [.ref 7, .int x] (S) (I) (L) (Rf) Kr Kx := by
  refine aMet.of (lv0 := [.ref 7, .int x, aU, aU, aU, aU]) (z := 4) (by decide +kernel) hst rfl (Nat.le_of_ble_eq_true rfl) ?_
  intro p e s m args below meth c io0 hx hin hno
  have hx : aCx p l s m args meth c RX1 cX1_strength 6 (some .long) E := hx
  refine g_aloadG_n hx dX1_strength_0 rfl (nx := 1) rfl rfl ?_
  refine g_iloadG_n hx dX1_strength_1 rfl (nx := 2) rfl rfl ?_
  refine g_callV_M hx [_] (k' := 0) (n' := 0) dX1_strength_2 (nx := 5) rfl lk_X1_60 (hX.1 4 _ rfl) (by decide) rfl rfl (Nat.le_of_ble_eq_true rfl) (Nat.le_of_ble_eq_true rfl) (Nat.le_of_ble_eq_true rfl) (Nat.le_of_ble_eq_true rfl) (Nat.le_of_ble_eq_true rfl) (Nat.le_of_ble_eq_true rfl) (Nat.le_of_ble_eq_true rfl) (s_X1_sumUp hst hX hL (fun L' h1 h2 h3 => ?_))
  refine g_aloadG_n hx dX1_strength_5 rfl (nx := 6) rfl rfl ?_
  refine g_getfo_l hx dX1_strength_6 (nx := 9) rfl fa_X1_67 rfl (hX.1 4 _ rfl) (by decide) ?_
  refine g_ldc2 hx dX1_strength_9 (nx := 12) rfl kl_X1_63 ?_
  refine g_ldiv hx dX1_strength_12 (nx := 13) rfl (by decide) ?_
  refine g_lstore_2 hx dX1_strength_13 (nx := 14) rfl (by decide) rfl ?_
  refine g_aloadG_n hx dX1_strength_14 rfl (nx := 15) rfl rfl ?_
  refine g_getfo_l hx dX1_strength_15 (nx := 18) rfl fa_X1_71 rfl (hX.1 4 _ rfl) (by decide) ?_
  refine g_ldc2 hx dX1_strength_18 (nx := 21) rfl kl_X1_63 ?_
  refine g_ldiv hx dX1_strength_21 (nx := 22) rfl (by decide) ?_
  refine g_lstore_4 hx dX1_strength_22 (nx := 24) rfl (by decide) rfl ?_
  refine g_lloadG_n hx dX1_strength_24 rfl (nx := 25) rfl rfl ?_
  refine g_lloadG_n hx dX1_strength_25 rfl (nx := 26) rfl rfl ?_
  refine g_lmul hx dX1_strength_26 (nx := 27) rfl ?_
  refine g_lloadG hx dX1_strength_27 (nx := 29) rfl rfl ?_
  refine g_lloadG hx dX1_strength_29 (nx := 31) rfl rfl ?_
  refine g_lmul hx dX1_strength_31 (nx := 32) rfl ?_
  refine g_ladd hx dX1_strength_32 (nx := 33) rfl ?_
  refine g_lret hx dX1_strength_33 rfl (Nat.le_of_ble_eq_true rfl) (Nat.le_of_ble_eq_true rfl) ?_
  rw [h2, h3]; exact hk L' h1

