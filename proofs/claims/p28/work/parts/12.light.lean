/-! the class's light -/
abbrev rmX1_sumUp : Room := { frames := 2, cells := 0, slots := 0, locals := 40 }
set_option maxHeartbeats 4000000 in
set_option maxRecDepth 100000 in
theorem s_X1_sumUp {l : Launch} {E : aE} {S : aS} {I : aI} {L : aL} {Rf : aR} {Kr : aK} {Kx : aX} (hst : l.stackTraces = false) {x : Int32} {q : Nat → Bool} {V : Nat → Int64} (hX : lyX S Rf) (hL : Lrep I L q V) (hk : ∀ L', (∀ a b, a ≠ 7 → L' a b = L a b) → L' 7 3 = sC q V x → L' 7 4 = sS q V x → Kr none S I L' Rf) : aMet l E yX1_sumUp cX1_sumUp 4 none rmX1_sumUp [.ref 7, .int x] (S) (I) (L) (Rf) Kr Kx := by
  refine aMet.of (lv0 := [.ref 7, .int x, aU, aU]) (z := 2) (by decide +kernel) hst rfl (Nat.le_of_ble_eq_true rfl) ?_
  intro p e s m args below meth c io0 hx hin hno
  have hx : aCx p l s m args meth c RX1 cX1_sumUp 4 none E := hx
  have hlen := aT_len q
  have loop : ∀ (r i : Nat) (L' : aL) (w : Value), i + r = (aT q).length → (∀ a b, a ≠ 7 → L' a b = L a b) → L' 7 3 = lsum ((aT q).take i) (fun t => V t * cosL x t) → L' 7 4 = lsum ((aT q).take i) (fun t => V t * sinL x t) → aG p l e rmX1_sumUp s m args below meth c E io0 S 4 (vx_MQ below (aQc E io0 S Kr) (aXC E io0 S Kx) args s rmX1_sumUp.cells rmX1_sumUp.slots (aW E)) 12 [.ref 7, .int x, .int (nI i), w] [] (S) (I) (L') (Rf) 0 0 := by
    intro r
    induction r with
    | zero =>
      intro i L' w hi h1 h2 h3
      have hi : i = (aT q).length := by omega
      refine g_iloadG_n hx dX1_sumUp_12 rfl (nx := 13) rfl rfl ?_
      refine g_aloadG_n hx dX1_sumUp_13 rfl (nx := 14) rfl rfl ?_
      refine g_getfo_i hx dX1_sumUp_14 (nx := 17) rfl fa_X1_38 rfl (hX.1 4 _ rfl) (by decide) ?_
      refine g_icmp_ge hx dX1_sumUp_17 (tg := 77) (by decide) (nx := 20) rfl (fun c17 => ?_) (fun c17 => ?_)
      · refine g_vret hx dX1_sumUp_77 rfl (Nat.le_of_ble_eq_true rfl) (Nat.le_of_ble_eq_true rfl) ?_
        exact hk L' h1 (by rw [h2, hi, List.take_length]; rfl) (by rw [h3, hi, List.take_length]; rfl)
      · exact absurd (by rw [hL.1, hi]; exact Int32.le_refl _) c17
    | succ r ih =>
      intro i L' w hi h1 h2 h3
      have hlt : i < (aT q).length := by omega
      obtain ⟨t, ht⟩ : ∃ t, (aT q)[i]? = some t := ⟨_, List.getElem?_eq_getElem hlt⟩
      have ha := hL.2 i t ht
      have hn : (nI i).toNatClampNeg = i := nI_clamp (by omega)
      have hin : vp_in (nI i) 256 := vp_in_nI (by omega) (by omega)
      refine g_iloadG_n hx dX1_sumUp_12 rfl (nx := 13) rfl rfl ?_
      refine g_aloadG_n hx dX1_sumUp_13 rfl (nx := 14) rfl rfl ?_
      refine g_getfo_i hx dX1_sumUp_14 (nx := 17) rfl fa_X1_38 rfl (hX.1 4 _ rfl) (by decide) ?_
      refine g_icmp_ge hx dX1_sumUp_17 (tg := 77) (by decide) (nx := 20) rfl (fun c17 => ?_) (fun c17 => ?_)
      · exact absurd c17 (by rw [hL.1]; exact nI_ge hlt (by omega))
      · refine g_iloadG_n hx dX1_sumUp_20 rfl (nx := 21) rfl rfl ?_
        refine g_aloadG_n hx dX1_sumUp_21 rfl (nx := 22) rfl rfl ?_
        refine g_getfo_R hx dX1_sumUp_22 (nx := 25) rfl fa_X1_9 rfl (r9 := 8) hX.2.2.2.2.2.1 (hX.1 4 _ rfl) (by decide) ?_
        refine g_iloadG_n hx dX1_sumUp_25 rfl (nx := 26) rfl rfl ?_
        refine g_iaload hx dX1_sumUp_26 (nx := 27) rfl (hX.1 5 _ rfl) (by decide) hin ?_
        refine g_imul hx dX1_sumUp_27 (nx := 28) rfl ?_
        refine g_istore_3 hx dX1_sumUp_28 (nx := 29) rfl (by decide) rfl ?_
        refine g_aloadG_n hx dX1_sumUp_29 rfl (nx := 30) rfl rfl ?_
        refine g_dup hx dX1_sumUp_30 (nx := 31) rfl rfl ?_
        refine g_getfo_l hx dX1_sumUp_31 (nx := 34) rfl fa_X1_67 rfl (hX.1 4 _ rfl) (by decide) ?_
        refine g_aloadG_n hx dX1_sumUp_34 rfl (nx := 35) rfl rfl ?_
        refine g_getfo_R hx dX1_sumUp_35 (nx := 38) rfl fa_X1_15 rfl (r9 := 9) hX.2.2.2.2.2.2.1 (hX.1 4 _ rfl) (by decide) ?_
        refine g_iloadG_n hx dX1_sumUp_38 rfl (nx := 39) rfl rfl ?_
        refine g_laload hx dX1_sumUp_39 (nx := 40) rfl (hX.1 6 _ rfl) (by decide) hin ?_
        refine g_iloadG_n hx dX1_sumUp_40 rfl (nx := 41) rfl rfl ?_
        refine g_callNS_M hx [_] (k' := 0) (n' := 0) dX1_sumUp_41 (nx := 44) rfl lk_X1_74 rfl (Nat.le_of_ble_eq_true rfl) (Nat.le_of_ble_eq_true rfl) (Nat.le_of_ble_eq_true rfl) (Nat.le_of_ble_eq_true rfl) (Nat.le_of_ble_eq_true rfl) (Nat.le_of_ble_eq_true rfl) (Nat.le_of_ble_eq_true rfl) (s_X3_cosine hst hX ?_)
        refine g_i2l hx dX1_sumUp_44 (nx := 45) rfl ?_
        refine g_lmul hx dX1_sumUp_45 (nx := 46) rfl ?_
        refine g_ladd hx dX1_sumUp_46 (nx := 47) rfl ?_
        refine g_putfo_l hx dX1_sumUp_47 (nx := 50) rfl fa_X1_67 rfl (fun r h => by cases h; rfl) (hX.1 4 _ rfl) (by decide) ?_
        refine g_aloadG_n hx dX1_sumUp_50 rfl (nx := 51) rfl rfl ?_
        refine g_dup hx dX1_sumUp_51 (nx := 52) rfl rfl ?_
        refine g_getfo_l hx dX1_sumUp_52 (nx := 55) rfl fa_X1_71 rfl (hX.1 4 _ rfl) (by decide) ?_
        refine g_aloadG_n hx dX1_sumUp_55 rfl (nx := 56) rfl rfl ?_
        refine g_getfo_R hx dX1_sumUp_56 (nx := 59) rfl fa_X1_15 rfl (r9 := 9) hX.2.2.2.2.2.2.1 (hX.1 4 _ rfl) (by decide) ?_
        refine g_iloadG_n hx dX1_sumUp_59 rfl (nx := 60) rfl rfl ?_
        refine g_laload hx dX1_sumUp_60 (nx := 61) rfl (hX.1 6 _ rfl) (by decide) hin ?_
        refine g_iloadG_n hx dX1_sumUp_61 rfl (nx := 62) rfl rfl ?_
        refine g_callNS_M hx [_] (k' := 0) (n' := 0) dX1_sumUp_62 (nx := 65) rfl lk_X1_78 rfl (Nat.le_of_ble_eq_true rfl) (Nat.le_of_ble_eq_true rfl) (Nat.le_of_ble_eq_true rfl) (Nat.le_of_ble_eq_true rfl) (Nat.le_of_ble_eq_true rfl) (Nat.le_of_ble_eq_true rfl) (Nat.le_of_ble_eq_true rfl) (s_X3_sine hst hX ?_)
        refine g_i2l hx dX1_sumUp_65 (nx := 66) rfl ?_
        refine g_lmul hx dX1_sumUp_66 (nx := 67) rfl ?_
        refine g_ladd hx dX1_sumUp_67 (nx := 68) rfl ?_
        refine g_putfo_l hx dX1_sumUp_68 (nx := 71) rfl fa_X1_71 rfl (fun r h => by cases h; rfl) (hX.1 4 _ rfl) (by decide) ?_
        refine g_iinc_2 hx dX1_sumUp_71 (nx := 74) rfl (by decide) (v := 1) (by decide) rfl ?_
        refine g_goto hx dX1_sumUp_74 (tg := 12) (by decide) ?_
        rw [← nI_succ]
        refine ih (i + 1) _ _ (by omega) (fun a b h => ?_) ?_ ?_
        · rw [au2_n (fun z => h z.1), au2_n (fun z => h z.1)]; exact h1 a b h
        · rw [au2_n (by omega), au2_s, take_snoc ht, lsum_snoc, h2, hn, ha.1, h1 9 i (by decide), ha.2]; rfl
        · rw [au2_s, au2_n (by omega), take_snoc ht, lsum_snoc, h3, hn, ha.1, au2_n (by omega), h1 9 i (by decide), ha.2]; rfl
  refine g_aloadG_n hx dX1_sumUp_0 rfl (nx := 1) rfl rfl ?_
  refine g_lconst hx dX1_sumUp_1 (nx := 2) rfl (v := 0) (by decide) ?_
  refine g_putfo_l hx dX1_sumUp_2 (nx := 5) rfl fa_X1_67 rfl (fun r h => by cases h; rfl) (hX.1 4 _ rfl) (by decide) ?_
  refine g_aloadG_n hx dX1_sumUp_5 rfl (nx := 6) rfl rfl ?_
  refine g_lconst hx dX1_sumUp_6 (nx := 7) rfl (v := 0) (by decide) ?_
  refine g_putfo_l hx dX1_sumUp_7 (nx := 10) rfl fa_X1_71 rfl (fun r h => by cases h; rfl) (hX.1 4 _ rfl) (by decide) ?_
  refine g_iconst hx dX1_sumUp_10 (nx := 11) rfl (v := 0) (by decide) ?_
  refine g_istore_2 hx dX1_sumUp_11 (nx := 12) rfl (by decide) rfl ?_
  exact loop _ 0 _ _ (Nat.zero_add _) (fun a b h => by rw [au2_n (fun z => h z.1), au2_n (fun z => h z.1)]) (by rw [au2_n (by omega), au2_s]; rfl) (by rw [au2_s]; rfl)

abbrev rmX1_strength : Room := { frames := 3, cells := 0, slots := 0, locals := 63 }
set_option maxHeartbeats 4000000 in
set_option maxRecDepth 100000 in
theorem s_X1_strength {l : Launch} {E : aE} {S : aS} {I : aI} {L : aL} {Rf : aR} {Kr : aK} {Kx : aX} (hst : l.stackTraces = false) {x : Int32} {q : Nat → Bool} {V : Nat → Int64} (hX : lyX S Rf) (hL : Lrep I L q V) (hk : ∀ L', (∀ a b, a ≠ 7 → L' a b = L a b) → Kr (some (.long (pw q V x))) S I L' Rf) : aMet l E yX1_strength cX1_strength 6 (some .long) rmX1_strength [.ref 7, .int x] (S) (I) (L) (Rf) Kr Kx := by
  refine aMet.of (lv0 := [.ref 7, .int x, aU, aU, aU, aU]) (z := 4) (by decide +kernel) hst rfl (Nat.le_of_ble_eq_true rfl) ?_
  intro p e s m args below meth c io0 hx hin hno
  have hx : aCx p l s m args meth c RX1 cX1_strength 6 (some .long) E := hx
  refine g_aloadG_n hx dX1_strength_0 rfl (nx := 1) rfl rfl ?_
  refine g_iloadG_n hx dX1_strength_1 rfl (nx := 2) rfl rfl ?_
  refine g_callV_M hx [_] (k' := 0) (n' := 0) dX1_strength_2 (nx := 5) rfl lk_X1_60 (hX.1 4 _ rfl) (by decide) rfl rfl (Nat.le_of_ble_eq_true rfl) (Nat.le_of_ble_eq_true rfl) (Nat.le_of_ble_eq_true rfl) (Nat.le_of_ble_eq_true rfl) (Nat.le_of_ble_eq_true rfl) (Nat.le_of_ble_eq_true rfl) (Nat.le_of_ble_eq_true rfl) (s_X1_sumUp hst hX hL (fun L' h1 h2 h3 => ?_))
  refine g_aloadG_n hx dX1_strength_5 rfl (nx := 6) rfl rfl ?_
  refine g_getfo_l hx dX1_strength_6 (nx := 9) rfl fa_X1_67 rfl (hX.1 4 _ rfl) (by decide) ?_
  refine g_ldc2 hx dX1_strength_9 (nx := 12) rfl kl_X1_63 ?_
  refine g_ldiv hx dX1_strength_12 (nx := 13) rfl (by decide) ?_
  refine g_lstore_2 hx dX1_strength_13 (nx := 14) rfl (by decide) rfl ?_
  refine g_aloadG_n hx dX1_strength_14 rfl (nx := 15) rfl rfl ?_
  refine g_getfo_l hx dX1_strength_15 (nx := 18) rfl fa_X1_71 rfl (hX.1 4 _ rfl) (by decide) ?_
  refine g_ldc2 hx dX1_strength_18 (nx := 21) rfl kl_X1_63 ?_
  refine g_ldiv hx dX1_strength_21 (nx := 22) rfl (by decide) ?_
  refine g_lstore_4 hx dX1_strength_22 (nx := 24) rfl (by decide) rfl ?_
  refine g_lloadG_n hx dX1_strength_24 rfl (nx := 25) rfl rfl ?_
  refine g_lloadG_n hx dX1_strength_25 rfl (nx := 26) rfl rfl ?_
  refine g_lmul hx dX1_strength_26 (nx := 27) rfl ?_
  refine g_lloadG hx dX1_strength_27 (nx := 29) rfl rfl ?_
  refine g_lloadG hx dX1_strength_29 (nx := 31) rfl rfl ?_
  refine g_lmul hx dX1_strength_31 (nx := 32) rfl ?_
  refine g_ladd hx dX1_strength_32 (nx := 33) rfl ?_
  refine g_lret hx dX1_strength_33 rfl (Nat.le_of_ble_eq_true rfl) (Nat.le_of_ble_eq_true rfl) ?_
  rw [h2, h3]; exact hk L' h1

abbrev rmX1_flatten : Room := { frames := 1, cells := 0, slots := 0, locals := 24 }
set_option maxHeartbeats 4000000 in
set_option maxRecDepth 100000 in
theorem s_X1_flatten {l : Launch} {E : aE} {S : aS} {I : aI} {L : aL} {Rf : aR} {Kr : aK} {Kx : aX} (hst : l.stackTraces = false) {q : Nat → Bool} {V : Nat → Int64} (hX : lyX S Rf) (hL : Lrep I L q V) (hk : ∀ L', (∀ a b, a ≠ 9 → L' a b = L a b) → Lrep I L' q (fun _ => 1) → Kr none S I L' Rf) : aMet l E yX1_flatten cX1_flatten 1 none rmX1_flatten [.ref 7] (S) (I) (L) (Rf) Kr Kx := by
  refine aMet.of (lv0 := [.ref 7]) (z := 0) (by decide +kernel) hst rfl (Nat.le_of_ble_eq_true rfl) ?_
  intro p e s m args below meth c io0 hx hin hno
  have hx : aCx p l s m args meth c RX1 cX1_flatten 1 none E := hx
  refine g_aloadG_n hx dX1_flatten_0 rfl (nx := 1) rfl rfl ?_
  refine g_getfo_R hx dX1_flatten_1 (nx := 4) rfl fa_X1_15 rfl (r9 := 9) hX.2.2.2.2.2.2.1 (hX.1 4 _ rfl) (by decide) ?_
  refine g_lconst hx dX1_flatten_4 (nx := 5) rfl (v := 1) (by decide) ?_
  refine g_callS_M hx [_, _] (k' := 0) (n' := 0) dX1_flatten_5 (nx := 8) rfl lk_X1_48 rfl (Nat.le_of_ble_eq_true rfl) (Nat.le_of_ble_eq_true rfl) (Nat.le_of_ble_eq_true rfl) (Nat.le_of_ble_eq_true rfl) (Nat.le_of_ble_eq_true rfl) (Nat.le_of_ble_eq_true rfl) (Nat.le_of_ble_eq_true rfl) (s_J7_fill_d0a16 hst (hX.1 6 _ rfl) (by decide) (by decide) (fun L' h1 h2 => ?_))
  refine g_vret hx dX1_flatten_8 rfl (Nat.le_of_ble_eq_true rfl) (Nat.le_of_ble_eq_true rfl) ?_
  exact hk L' h1 ⟨hL.1, fun i t h => ⟨(hL.2 i t h).1, h2 i (by have := (List.getElem?_eq_some_iff.mp h).1; have := aT_len q; omega)⟩⟩

abbrev rmX1_lessMean : Room := { frames := 1, cells := 0, slots := 0, locals := 25 }
set_option maxHeartbeats 4000000 in
set_option maxRecDepth 100000 in
theorem s_X1_lessMean {l : Launch} {E : aE} {S : aS} {I : aI} {L : aL} {Rf : aR} {Kr : aK} {Kx : aX} (hst : l.stackTraces = false) {q : Nat → Bool} {V : Nat → Int64} (hX : lyX S Rf) (hL : Lrep I L q V) (hk : ∀ L', (∀ a b, a ≠ 9 → L' a b = L a b) → Lrep I L' q (mnV q V) → Kr none S I L' Rf) : aMet l E yX1_lessMean cX1_lessMean 6 none rmX1_lessMean [.ref 7] (S) (I) (L) (Rf) Kr Kx := by
  refine aMet.of (lv0 := [.ref 7, aU, aU, aU, aU, aU]) (z := 5) (by decide +kernel) hst rfl (Nat.le_of_ble_eq_true rfl) ?_
  intro p e s m args below meth c io0 hx hin hno
  have hx : aCx p l s m args meth c RX1 cX1_lessMean 6 none E := hx
  have hlen := aT_len q
  have loop2 : ∀ (r i : Nat) (L' : aL), i + r = (aT q).length → (∀ a b, a ≠ 9 → L' a b = L a b) → (∀ j u, (aT q)[j]? = some u → L' 9 j = if j < i then V u - mnD q V else V u) → ∀ w1 w2, aG p l e rmX1_lessMean s m args below meth c E io0 S 6 (vx_MQ below (aQc E io0 S Kr) (aXC E io0 S Kx) args s rmX1_lessMean.cells rmX1_lessMean.slots (aW E)) 51 [.ref 7, w1, w2, .long (mnD q V), aU, .int (nI i)] [] (S) (I) (L') (Rf) 0 0 := by
    intro r
    induction r with
    | zero =>
      intro i L' hi h1 h2 w1 w2
      have hi : i = (aT q).length := by omega
      refine g_iloadG hx dX1_lessMean_51 (nx := 53) rfl rfl ?_
      refine g_aloadG_n hx dX1_lessMean_53 rfl (nx := 54) rfl rfl ?_
      refine g_getfo_i hx dX1_lessMean_54 (nx := 57) rfl fa_X1_38 rfl (hX.1 4 _ rfl) (by decide) ?_
      refine g_icmp_ge hx dX1_lessMean_57 (tg := 77) (by decide) (nx := 60) rfl (fun c57 => ?_) (fun c57 => ?_)
      · refine g_vret hx dX1_lessMean_77 rfl (Nat.le_of_ble_eq_true rfl) (Nat.le_of_ble_eq_true rfl) ?_
        exact hk L' h1 ⟨hL.1, fun j u h => ⟨(hL.2 j u h).1, (h2 j u h).trans (if_pos (by rw [hi]; exact (List.getElem?_eq_some_iff.mp h).1))⟩⟩
      · exact absurd (by rw [hL.1, hi]; exact Int32.le_refl _) c57
    | succ r ih =>
      intro i L' hi h1 h2 w1 w2
      have hlt : i < (aT q).length := by omega
      obtain ⟨t, ht⟩ : ∃ t, (aT q)[i]? = some t := ⟨_, List.getElem?_eq_getElem hlt⟩
      have ha := hL.2 i t ht
      have hn : (nI i).toNatClampNeg = i := nI_clamp (by omega)
      have hin : vp_in (nI i) 256 := vp_in_nI (by omega) (by omega)
      refine g_iloadG hx dX1_lessMean_51 (nx := 53) rfl rfl ?_
      refine g_aloadG_n hx dX1_lessMean_53 rfl (nx := 54) rfl rfl ?_
      refine g_getfo_i hx dX1_lessMean_54 (nx := 57) rfl fa_X1_38 rfl (hX.1 4 _ rfl) (by decide) ?_
      refine g_icmp_ge hx dX1_lessMean_57 (tg := 77) (by decide) (nx := 60) rfl (fun c57 => ?_) (fun c57 => ?_)
      · exact absurd c57 (by rw [hL.1]; exact nI_ge hlt (by omega))
      · refine g_aloadG_n hx dX1_lessMean_60 rfl (nx := 61) rfl rfl ?_
        refine g_getfo_R hx dX1_lessMean_61 (nx := 64) rfl fa_X1_15 rfl (r9 := 9) hX.2.2.2.2.2.2.1 (hX.1 4 _ rfl) (by decide) ?_
        refine g_iloadG hx dX1_lessMean_64 (nx := 66) rfl rfl ?_
        refine g_dup2i hx dX1_lessMean_66 (nx := 67) rfl rfl rfl ?_
        refine g_laload hx dX1_lessMean_67 (nx := 68) rfl (hX.1 6 _ rfl) (by decide) hin ?_
        refine g_lloadG_n hx dX1_lessMean_68 rfl (nx := 69) rfl rfl ?_
        refine g_lsub hx dX1_lessMean_69 (nx := 70) rfl ?_
        refine g_lastore hx dX1_lessMean_70 (nx := 71) rfl (hX.1 6 _ rfl) (by decide) hin ?_
        refine g_iinc_5 hx dX1_lessMean_71 (nx := 74) rfl (by decide) (v := 1) (by decide) rfl ?_
        refine g_goto hx dX1_lessMean_74 (tg := 51) (by decide) ?_
        rw [← nI_succ, hn]
        refine ih (i + 1) _ (by omega) (fun a b h => ?_) (fun j u hj => ?_) _ _
        · rw [au2_n (fun z => h z.1)]; exact h1 a b h
        · by_cases e : j = i
          · subst e; cases ht.symm.trans hj; rw [au2_s, h2 _ _ hj, if_neg (by omega), if_pos (by omega)]
          · rw [au2_n (fun z => e z.2), h2 j u hj]; by_cases e2 : j < i
            · rw [if_pos e2, if_pos (by omega)]
            · rw [if_neg e2, if_neg (by omega)]
  have loop1 : ∀ (r i : Nat) , i + r = (aT q).length → aG p l e rmX1_lessMean s m args below meth c E io0 S 6 (vx_MQ below (aQc E io0 S Kr) (aXC E io0 S Kx) args s rmX1_lessMean.cells rmX1_lessMean.slots (aW E)) 4 [.ref 7, .long (lsum ((aT q).take i) V), aU, .int (nI i), aU, aU] [] (S) (I) (L) (Rf) 0 0 := by
    intro r
    induction r with
    | zero =>
      intro i hi
      have hi : i = (aT q).length := by omega
      refine g_iloadG_n hx dX1_lessMean_4 rfl (nx := 5) rfl rfl ?_
      refine g_aloadG_n hx dX1_lessMean_5 rfl (nx := 6) rfl rfl ?_
      refine g_getfo_i hx dX1_lessMean_6 (nx := 9) rfl fa_X1_38 rfl (hX.1 4 _ rfl) (by decide) ?_
      refine g_icmp_ge hx dX1_lessMean_9 (tg := 27) (by decide) (nx := 12) rfl (fun c9 => ?_) (fun c9 => ?_)
      · refine g_aloadG_n hx dX1_lessMean_27 rfl (nx := 28) rfl rfl ?_
        refine g_getfo_i hx dX1_lessMean_28 (nx := 31) rfl fa_X1_38 rfl (hX.1 4 _ rfl) (by decide) ?_
        refine g_if_le hx dX1_lessMean_31 (tg := 46) (by decide) (nx := 34) rfl (fun c31 => ?_) (fun c31 => ?_)
        · have c31' : (aT q).length = 0 := by
            rw [hL.1] at c31
            exact Nat.eq_zero_of_not_pos fun z => nI_nle z (by omega) c31
          have e1 : (0 : Int64) = mnD q V := by rw [mnD, if_pos c31']
          refine g_lconst hx dX1_lessMean_46 (nx := 47) rfl (v := 0) (by decide) ?_
          refine g_lstore_3 hx dX1_lessMean_47 (nx := 48) rfl (by decide) rfl ?_
          refine g_iconst hx dX1_lessMean_48 (nx := 49) rfl (v := 0) (by decide) ?_
          refine g_istore_5 hx dX1_lessMean_49 (nx := 51) rfl (by decide) rfl ?_
          rw [e1]
          exact loop2 (aT q).length 0 L (Nat.zero_add _) (fun _ _ _ => rfl) (fun j u h => (hL.2 j u h).2) _ _
        · have c31' : ¬ (aT q).length = 0 := fun z => c31 (by rw [hL.1, z]; exact Int32.le_refl _)
          have e1 : fdL (lsum ((aT q).take i) V) (I 7 2).toInt64 = mnD q V := by rw [mnD, if_neg c31', hL.1, nI_l (by omega), hi, List.take_length]
          refine g_lloadG_n hx dX1_lessMean_34 rfl (nx := 35) rfl rfl ?_
          refine g_aloadG_n hx dX1_lessMean_35 rfl (nx := 36) rfl rfl ?_
          refine g_getfo_i hx dX1_lessMean_36 (nx := 39) rfl fa_X1_38 rfl (hX.1 4 _ rfl) (by decide) ?_
          refine g_i2l hx dX1_lessMean_39 (nx := 40) rfl ?_
          refine g_callS_M hx [_, _] (k' := 0) (n' := 0) dX1_lessMean_40 (nx := 43) rfl lk_X1_54 rfl (Nat.le_of_ble_eq_true rfl) (Nat.le_of_ble_eq_true rfl) (Nat.le_of_ble_eq_true rfl) (Nat.le_of_ble_eq_true rfl) (Nat.le_of_ble_eq_true rfl) (Nat.le_of_ble_eq_true rfl) (Nat.le_of_ble_eq_true rfl) (s_J9_floorDiv_f86c9 hst ?_ ?_)
          · rw [hL.1, nI_l (by omega)]
            intro z
            have z0 : (0 : Int64) = lN 0 := rfl
            rw [z0, lN_eq (by omega) (by omega)] at z
            exact c31 (by rw [hL.1, z]; exact Int32.le_refl _)
          · refine g_goto hx dX1_lessMean_43 (tg := 47) (by decide) ?_
            refine g_lstore_3 hx dX1_lessMean_47 (nx := 48) rfl (by decide) rfl ?_
            refine g_iconst hx dX1_lessMean_48 (nx := 49) rfl (v := 0) (by decide) ?_
            refine g_istore_5 hx dX1_lessMean_49 (nx := 51) rfl (by decide) rfl ?_
            rw [e1]
            exact loop2 (aT q).length 0 L (Nat.zero_add _) (fun _ _ _ => rfl) (fun j u h => (hL.2 j u h).2) _ _
      · exact absurd (by rw [hL.1, hi]; exact Int32.le_refl _) c9
    | succ r ih =>
      intro i hi
      have hlt : i < (aT q).length := by omega
      obtain ⟨t, ht⟩ : ∃ t, (aT q)[i]? = some t := ⟨_, List.getElem?_eq_getElem hlt⟩
      have ha := hL.2 i t ht
      have hn : (nI i).toNatClampNeg = i := nI_clamp (by omega)
      have hin : vp_in (nI i) 256 := vp_in_nI (by omega) (by omega)
      refine g_iloadG_n hx dX1_lessMean_4 rfl (nx := 5) rfl rfl ?_
      refine g_aloadG_n hx dX1_lessMean_5 rfl (nx := 6) rfl rfl ?_
      refine g_getfo_i hx dX1_lessMean_6 (nx := 9) rfl fa_X1_38 rfl (hX.1 4 _ rfl) (by decide) ?_
      refine g_icmp_ge hx dX1_lessMean_9 (tg := 27) (by decide) (nx := 12) rfl (fun c9 => ?_) (fun c9 => ?_)
      · exact absurd c9 (by rw [hL.1]; exact nI_ge hlt (by omega))
      · refine g_lloadG_n hx dX1_lessMean_12 rfl (nx := 13) rfl rfl ?_
        refine g_aloadG_n hx dX1_lessMean_13 rfl (nx := 14) rfl rfl ?_
        refine g_getfo_R hx dX1_lessMean_14 (nx := 17) rfl fa_X1_15 rfl (r9 := 9) hX.2.2.2.2.2.2.1 (hX.1 4 _ rfl) (by decide) ?_
        refine g_iloadG_n hx dX1_lessMean_17 rfl (nx := 18) rfl rfl ?_
        refine g_laload hx dX1_lessMean_18 (nx := 19) rfl (hX.1 6 _ rfl) (by decide) hin ?_
        refine g_ladd hx dX1_lessMean_19 (nx := 20) rfl ?_
        refine g_lstore_1 hx dX1_lessMean_20 (nx := 21) rfl (by decide) rfl ?_
        refine g_iinc_3 hx dX1_lessMean_21 (nx := 24) rfl (by decide) (v := 1) (by decide) rfl ?_
        refine g_goto hx dX1_lessMean_24 (tg := 4) (by decide) ?_
        have K := ih (i + 1) (by omega)
        rw [take_snoc ht, lsum_snoc, ← ha.2, nI_succ] at K
        rw [hn]
        exact K
  refine g_lconst hx dX1_lessMean_0 (nx := 1) rfl (v := 0) (by decide) ?_
  refine g_lstore_1 hx dX1_lessMean_1 (nx := 2) rfl (by decide) rfl ?_
  refine g_iconst hx dX1_lessMean_2 (nx := 3) rfl (v := 0) (by decide) ?_
  refine g_istore_3 hx dX1_lessMean_3 (nx := 4) rfl (by decide) rfl ?_
  exact loop1 (aT q).length 0 (Nat.zero_add _)

abbrev rmX1_lessDrift : Room := { frames := 1, cells := 0, slots := 0, locals := 25 }
set_option maxHeartbeats 4000000 in
set_option maxRecDepth 100000 in
theorem s_X1_lessDrift {l : Launch} {E : aE} {S : aS} {I : aI} {L : aL} {Rf : aR} {Kr : aK} {Kx : aX} (hst : l.stackTraces = false) {q : Nat → Bool} {V : Nat → Int64} (hX : lyX S Rf) (hL : Lrep I L q V) (hk : ∀ L', (∀ a b, a ≠ 9 → L' a b = L a b) → Lrep I L' q (drV q V) → Kr none S I L' Rf) : aMet l E yX1_lessDrift cX1_lessDrift 10 none rmX1_lessDrift [.ref 7] (S) (I) (L) (Rf) Kr Kx := by
  refine aMet.of (lv0 := [.ref 7, aU, aU, aU, aU, aU, aU, aU, aU, aU]) (z := 9) (by decide +kernel) hst rfl (Nat.le_of_ble_eq_true rfl) ?_
  intro p e s m args below meth c io0 hx hin hno
  have hx : aCx p l s m args meth c RX1 cX1_lessDrift 10 none E := hx
  have hlen := aT_len q
  have z0 : (0 : Int32) = nI 0 := rfl
  have loop2 : ∀ (r i : Nat) (L' : aL), i + r = (aT q).length → (∀ a b, a ≠ 9 → L' a b = L a b) → (∀ j u, (aT q)[j]? = some u → L' 9 j = if j < i then V u - drD q V u else V u) → ∀ w1 w2, aG p l e rmX1_lessDrift s m args below meth c E io0 S 10 (vx_MQ below (aQc E io0 S Kr) (aXC E io0 S Kx) args s rmX1_lessDrift.cells rmX1_lessDrift.slots (aW E)) 53 [.ref 7, .long (V (tF q)), aU, .long (V (tZ q) - V (tF q)), aU, .long (drB q), aU, .int (nI i), w1, w2] [] (S) (I) (L') (Rf) 0 0 := by
    intro r
    induction r with
    | zero =>
      intro i L' hi h1 h2 w1 w2
      have hi : i = (aT q).length := by omega
      refine g_iloadG hx dX1_lessDrift_53 (nx := 55) rfl rfl ?_
      refine g_aloadG_n hx dX1_lessDrift_55 rfl (nx := 56) rfl rfl ?_
      refine g_getfo_i hx dX1_lessDrift_56 (nx := 59) rfl fa_X1_38 rfl (hX.1 4 _ rfl) (by decide) ?_
      refine g_icmp_ge hx dX1_lessDrift_59 (tg := 117) (by decide) (nx := 62) rfl (fun c59 => ?_) (fun c59 => ?_)
      · refine g_vret hx dX1_lessDrift_117 rfl (Nat.le_of_ble_eq_true rfl) (Nat.le_of_ble_eq_true rfl) ?_
        exact hk L' h1 ⟨hL.1, fun j u h => ⟨(hL.2 j u h).1, (h2 j u h).trans (if_pos (by rw [hi]; exact (List.getElem?_eq_some_iff.mp h).1))⟩⟩
      · exact absurd (by rw [hL.1, hi]; exact Int32.le_refl _) c59
    | succ r ih =>
      intro i L' hi h1 h2 w1 w2
      have hlt : i < (aT q).length := by omega
      obtain ⟨t, ht⟩ : ∃ t, (aT q)[i]? = some t := ⟨_, List.getElem?_eq_getElem hlt⟩
      have ha := hL.2 i t ht
      have hn : (nI i).toNatClampNeg = i := nI_clamp (by omega)
      have hin : vp_in (nI i) 256 := vp_in_nI (by omega) (by omega)
      have h0 : 0 < (aT q).length := by omega
      have hf := tF_at h0
      have hf1 := (hL.2 0 _ hf).1
      have hin0 : vp_in 0 256 := vin (by decide)
      have hc0 : (0 : Int32).toNatClampNeg = 0 := rfl
      refine g_iloadG hx dX1_lessDrift_53 (nx := 55) rfl rfl ?_
      refine g_aloadG_n hx dX1_lessDrift_55 rfl (nx := 56) rfl rfl ?_
      refine g_getfo_i hx dX1_lessDrift_56 (nx := 59) rfl fa_X1_38 rfl (hX.1 4 _ rfl) (by decide) ?_
      refine g_icmp_ge hx dX1_lessDrift_59 (tg := 117) (by decide) (nx := 62) rfl (fun c59 => ?_) (fun c59 => ?_)
      · exact absurd c59 (by rw [hL.1]; exact nI_ge hlt (by omega))
      · refine g_aloadG_n hx dX1_lessDrift_62 rfl (nx := 63) rfl rfl ?_
        refine g_getfo_R hx dX1_lessDrift_63 (nx := 66) rfl fa_X1_9 rfl (r9 := 8) hX.2.2.2.2.2.1 (hX.1 4 _ rfl) (by decide) ?_
        refine g_iloadG hx dX1_lessDrift_66 (nx := 68) rfl rfl ?_
        refine g_iaload hx dX1_lessDrift_68 (nx := 69) rfl (hX.1 5 _ rfl) (by decide) hin ?_
        refine g_aloadG_n hx dX1_lessDrift_69 rfl (nx := 70) rfl rfl ?_
        refine g_getfo_R hx dX1_lessDrift_70 (nx := 73) rfl fa_X1_9 rfl (r9 := 8) hX.2.2.2.2.2.1 (hX.1 4 _ rfl) (by decide) ?_
        refine g_iconst hx dX1_lessDrift_73 (nx := 74) rfl (v := 0) (by decide) ?_
        refine g_iaload hx dX1_lessDrift_74 (nx := 75) rfl (hX.1 5 _ rfl) (by decide) hin0 ?_
        refine g_isub hx dX1_lessDrift_75 (nx := 76) rfl ?_
        refine g_i2l hx dX1_lessDrift_76 (nx := 77) rfl ?_
        refine g_lstore_8 hx dX1_lessDrift_77 (nx := 79) rfl (by decide) rfl ?_
        refine g_aloadG_n hx dX1_lessDrift_79 rfl (nx := 80) rfl rfl ?_
        refine g_getfo_R hx dX1_lessDrift_80 (nx := 83) rfl fa_X1_15 rfl (r9 := 9) hX.2.2.2.2.2.2.1 (hX.1 4 _ rfl) (by decide) ?_
        refine g_iloadG hx dX1_lessDrift_83 (nx := 85) rfl rfl ?_
        refine g_dup2i hx dX1_lessDrift_85 (nx := 86) rfl rfl rfl ?_
        refine g_laload hx dX1_lessDrift_86 (nx := 87) rfl (hX.1 6 _ rfl) (by decide) hin ?_
        refine g_lloadG_n hx dX1_lessDrift_87 rfl (nx := 88) rfl rfl ?_
        refine g_lloadG hx dX1_lessDrift_88 (nx := 90) rfl rfl ?_
        refine g_lconst hx dX1_lessDrift_90 (nx := 91) rfl (v := 0) (by decide) ?_
        refine g_lcmp hx dX1_lessDrift_91 (nx := 92) rfl ?_
        refine g_if_le hx dX1_lessDrift_92 (tg := 107) (by decide) (nx := 95) rfl (fun c92 => ?_) (fun c92 => ?_)
        · refine g_lconst hx dX1_lessDrift_107 (nx := 108) rfl (v := 0) (by decide) ?_
          refine g_ladd hx dX1_lessDrift_108 (nx := 109) rfl ?_
          refine g_lsub hx dX1_lessDrift_109 (nx := 110) rfl ?_
          refine g_lastore hx dX1_lessDrift_110 (nx := 111) rfl (hX.1 6 _ rfl) (by decide) hin ?_
          refine g_iinc_7 hx dX1_lessDrift_111 (nx := 114) rfl (by decide) (v := 1) (by decide) rfl ?_
          refine g_goto hx dX1_lessDrift_114 (tg := 53) (by decide) ?_
          rw [← nI_succ, hn, hc0, ha.1, hf1]
          refine ih (i + 1) _ (by omega) (fun a b h => ?_) (fun j u hj => ?_) _ _
          · rw [au2_n (fun z => h z.1)]; exact h1 a b h
          · by_cases e : j = i
            · subst e; cases ht.symm.trans hj; rw [au2_s, h2 _ _ hj, if_neg (by omega), if_pos (by omega), drD]; first | (rw [if_pos (show drB q ≤ 0 from (lg_cmp_le _ _).mp c92)]; done) | (rw [if_neg (show ¬ drB q ≤ 0 from fun z => c92 ((lg_cmp_le _ _).mpr z))]; done)
            · rw [au2_n (fun z => e z.2), h2 j u hj]; by_cases e2 : j < i
              · rw [if_pos e2, if_pos (by omega)]
              · rw [if_neg e2, if_neg (by omega)]
        · refine g_lloadG_n hx dX1_lessDrift_95 rfl (nx := 96) rfl rfl ?_
          refine g_lloadG hx dX1_lessDrift_96 (nx := 98) rfl rfl ?_
          refine g_lmul hx dX1_lessDrift_98 (nx := 99) rfl ?_
          refine g_lloadG hx dX1_lessDrift_99 (nx := 101) rfl rfl ?_
          refine g_callS_M hx [_, _] (k' := 0) (n' := 0) dX1_lessDrift_101 (nx := 104) rfl lk_X1_54 rfl (Nat.le_of_ble_eq_true rfl) (Nat.le_of_ble_eq_true rfl) (Nat.le_of_ble_eq_true rfl) (Nat.le_of_ble_eq_true rfl) (Nat.le_of_ble_eq_true rfl) (Nat.le_of_ble_eq_true rfl) (Nat.le_of_ble_eq_true rfl) (s_J9_floorDiv_f86c9 hst ?_ ?_)
          · exact fun z => c92 ((lg_cmp_le _ _).mpr (by rw [z]; exact Int64.le_refl _))
          · refine g_goto hx dX1_lessDrift_104 (tg := 108) (by decide) ?_
            refine g_ladd hx dX1_lessDrift_108 (nx := 109) rfl ?_
            refine g_lsub hx dX1_lessDrift_109 (nx := 110) rfl ?_
            refine g_lastore hx dX1_lessDrift_110 (nx := 111) rfl (hX.1 6 _ rfl) (by decide) hin ?_
            refine g_iinc_7 hx dX1_lessDrift_111 (nx := 114) rfl (by decide) (v := 1) (by decide) rfl ?_
            refine g_goto hx dX1_lessDrift_114 (tg := 53) (by decide) ?_
            rw [← nI_succ, hn, hc0, ha.1, hf1]
            refine ih (i + 1) _ (by omega) (fun a b h => ?_) (fun j u hj => ?_) _ _
            · rw [au2_n (fun z => h z.1)]; exact h1 a b h
            · by_cases e : j = i
              · subst e; cases ht.symm.trans hj; rw [au2_s, h2 _ _ hj, if_neg (by omega), if_pos (by omega), drD]; first | (rw [if_pos (show drB q ≤ 0 from (lg_cmp_le _ _).mp c92)]; done) | (rw [if_neg (show ¬ drB q ≤ 0 from fun z => c92 ((lg_cmp_le _ _).mpr z))]; done)
              · rw [au2_n (fun z => e z.2), h2 j u hj]; by_cases e2 : j < i
                · rw [if_pos e2, if_pos (by omega)]
                · rw [if_neg e2, if_neg (by omega)]
  refine g_aloadG_n hx dX1_lessDrift_0 rfl (nx := 1) rfl rfl ?_
  refine g_getfo_i hx dX1_lessDrift_1 (nx := 4) rfl fa_X1_38 rfl (hX.1 4 _ rfl) (by decide) ?_
  refine g_if_ne hx dX1_lessDrift_4 (tg := 8) (by decide) (nx := 7) rfl (fun c4 => ?_) (fun c4 => ?_)
  · have c4' : 0 < (aT q).length := Nat.pos_of_ne_zero (fun z => c4 (by rw [hL.1, z]; rfl))
    have hf := tF_at c4'
    have hz := tZ_at c4'
    have hm1 : I 7 2 - 1 = nI ((aT q).length - 1) := by rw [hL.1]; exact pk_sub c4'
    have hmc : (nI ((aT q).length - 1)).toNatClampNeg = (aT q).length - 1 := nI_clamp (by omega)
    refine g_aloadG_n hx dX1_lessDrift_8 rfl (nx := 9) rfl rfl ?_
    refine g_getfo_R hx dX1_lessDrift_9 (nx := 12) rfl fa_X1_15 rfl (r9 := 9) hX.2.2.2.2.2.2.1 (hX.1 4 _ rfl) (by decide) ?_
    refine g_iconst hx dX1_lessDrift_12 (nx := 13) rfl (v := 0) (by decide) ?_
    refine g_laload hx dX1_lessDrift_13 (nx := 14) rfl (hX.1 6 _ rfl) (by decide) (vin (by decide)) ?_
    refine g_lstore_1 hx dX1_lessDrift_14 (nx := 15) rfl (by decide) rfl ?_
    refine g_aloadG_n hx dX1_lessDrift_15 rfl (nx := 16) rfl rfl ?_
    refine g_getfo_R hx dX1_lessDrift_16 (nx := 19) rfl fa_X1_15 rfl (r9 := 9) hX.2.2.2.2.2.2.1 (hX.1 4 _ rfl) (by decide) ?_
    refine g_aloadG_n hx dX1_lessDrift_19 rfl (nx := 20) rfl rfl ?_
    refine g_getfo_i hx dX1_lessDrift_20 (nx := 23) rfl fa_X1_38 rfl (hX.1 4 _ rfl) (by decide) ?_
    refine g_iconst hx dX1_lessDrift_23 (nx := 24) rfl (v := 1) (by decide) ?_
    refine g_isub hx dX1_lessDrift_24 (nx := 25) rfl ?_
    rw [hm1]
    refine g_laload hx dX1_lessDrift_25 (nx := 26) rfl (hX.1 6 _ rfl) (by decide) (vp_in_nI (by omega) (by omega)) ?_
    refine g_lloadG_n hx dX1_lessDrift_26 rfl (nx := 27) rfl rfl ?_
    refine g_lsub hx dX1_lessDrift_27 (nx := 28) rfl ?_
    refine g_lstore_3 hx dX1_lessDrift_28 (nx := 29) rfl (by decide) rfl ?_
    refine g_aloadG_n hx dX1_lessDrift_29 rfl (nx := 30) rfl rfl ?_
    refine g_getfo_R hx dX1_lessDrift_30 (nx := 33) rfl fa_X1_9 rfl (r9 := 8) hX.2.2.2.2.2.1 (hX.1 4 _ rfl) (by decide) ?_
    refine g_aloadG_n hx dX1_lessDrift_33 rfl (nx := 34) rfl rfl ?_
    refine g_getfo_i hx dX1_lessDrift_34 (nx := 37) rfl fa_X1_38 rfl (hX.1 4 _ rfl) (by decide) ?_
    refine g_iconst hx dX1_lessDrift_37 (nx := 38) rfl (v := 1) (by decide) ?_
    refine g_isub hx dX1_lessDrift_38 (nx := 39) rfl ?_
    rw [hm1]
    refine g_iaload hx dX1_lessDrift_39 (nx := 40) rfl (hX.1 5 _ rfl) (by decide) (vp_in_nI (by omega) (by omega)) ?_
    refine g_aloadG_n hx dX1_lessDrift_40 rfl (nx := 41) rfl rfl ?_
    refine g_getfo_R hx dX1_lessDrift_41 (nx := 44) rfl fa_X1_9 rfl (r9 := 8) hX.2.2.2.2.2.1 (hX.1 4 _ rfl) (by decide) ?_
    refine g_iconst hx dX1_lessDrift_44 (nx := 45) rfl (v := 0) (by decide) ?_
    refine g_iaload hx dX1_lessDrift_45 (nx := 46) rfl (hX.1 5 _ rfl) (by decide) (vin (by decide)) ?_
    refine g_isub hx dX1_lessDrift_46 (nx := 47) rfl ?_
    refine g_i2l hx dX1_lessDrift_47 (nx := 48) rfl ?_
    refine g_lstore_5 hx dX1_lessDrift_48 (nx := 50) rfl (by decide) rfl ?_
    refine g_iconst hx dX1_lessDrift_50 (nx := 51) rfl (v := 0) (by decide) ?_
    refine g_istore_7 hx dX1_lessDrift_51 (nx := 53) rfl (by decide) rfl ?_
    have hc0 : (0 : Int32).toNatClampNeg = 0 := rfl
    rw [hmc, hc0, (hL.2 _ _ hf).1, (hL.2 _ _ hf).2, (hL.2 _ _ hz).1, (hL.2 _ _ hz).2]
    exact loop2 (aT q).length 0 L (Nat.zero_add _) (fun _ _ _ => rfl) (fun j u h => (hL.2 j u h).2) _ _
  · refine g_vret hx dX1_lessDrift_7 rfl (Nat.le_of_ble_eq_true rfl) (Nat.le_of_ble_eq_true rfl) ?_
    exact hk L (fun _ _ _ => rfl) ⟨hL.1, fun j u h => by
        have z : (aT q).length = 0 := by
          have c5 := c4; rw [hL.1, z0, nI_eq (by omega) (by omega)] at c5; exact c5
        have := (List.getElem?_eq_some_iff.mp h).1; omega⟩

abbrev rmX1_lessLine : Room := { frames := 3, cells := 0, slots := 0, locals := 63 }
set_option maxHeartbeats 4000000 in
set_option maxRecDepth 100000 in
theorem s_X1_lessLine {l : Launch} {E : aE} {S : aS} {I : aI} {L : aL} {Rf : aR} {Kr : aK} {Kx : aX} (hst : l.stackTraces = false) {x : Int32} {q : Nat → Bool} {V : Nat → Int64} (hX : lyX S Rf) (hL : Lrep I L q V) (hk : ∀ L', (∀ a b, a ≠ 7 → a ≠ 9 → L' a b = L a b) → Lrep I L' q (tkV q V x) → Kr none S I L' Rf) : aMet l E yX1_lessLine cX1_lessLine 10 none rmX1_lessLine [.ref 7, .int x] (S) (I) (L) (Rf) Kr Kx := by
  refine aMet.of (lv0 := [.ref 7, .int x, aU, aU, aU, aU, aU, aU, aU, aU]) (z := 8) (by decide +kernel) hst rfl (Nat.le_of_ble_eq_true rfl) ?_
  intro p e s m args below meth c io0 hx hin hno
  have hx : aCx p l s m args meth c RX1 cX1_lessLine 10 none E := hx
  have hlen := aT_len q
  have loop2 : ∀ (r i : Nat) (L' : aL), i + r = (aT q).length → (∀ a b, a ≠ 7 → a ≠ 9 → L' a b = L a b) → (∀ j u, (aT q)[j]? = some u → L' 9 j = if j < i then tkV q V x u else V u) → ∀ w0 w1, aG p l e rmX1_lessLine s m args below meth c E io0 S 10 (vx_MQ below (aQc E io0 S Kr) (aXC E io0 S Kx) args s rmX1_lessLine.cells rmX1_lessLine.slots (aW E)) 50 [.ref 7, .int x, .long w0, aU, .long (tkE q V x), aU, .long (tkO q V x), aU, .int (nI i), w1] [] (S) (I) (L') (Rf) 0 0 := by
    intro r
    induction r with
    | zero =>
      intro i L' hi h1 h2 w0 w1
      have hi : i = (aT q).length := by omega
      refine g_iloadG hx dX1_lessLine_50 (nx := 52) rfl rfl ?_
      refine g_aloadG_n hx dX1_lessLine_52 rfl (nx := 53) rfl rfl ?_
      refine g_getfo_i hx dX1_lessLine_53 (nx := 56) rfl fa_X1_38 rfl (hX.1 4 _ rfl) (by decide) ?_
      refine g_icmp_ge hx dX1_lessLine_56 (tg := 109) (by decide) (nx := 59) rfl (fun c56 => ?_) (fun c56 => ?_)
      · refine g_vret hx dX1_lessLine_109 rfl (Nat.le_of_ble_eq_true rfl) (Nat.le_of_ble_eq_true rfl) ?_
        exact hk L' h1 ⟨hL.1, fun j u h => ⟨(hL.2 j u h).1, (h2 j u h).trans (if_pos (by rw [hi]; exact (List.getElem?_eq_some_iff.mp h).1))⟩⟩
      · exact absurd (by rw [hL.1, hi]; exact Int32.le_refl _) c56
    | succ r ih =>
      intro i L' hi h1 h2 w0 w1
      have hlt : i < (aT q).length := by omega
      obtain ⟨t, ht⟩ : ∃ t, (aT q)[i]? = some t := ⟨_, List.getElem?_eq_getElem hlt⟩
      have ha := hL.2 i t ht
      have hn : (nI i).toNatClampNeg = i := nI_clamp (by omega)
      have hin : vp_in (nI i) 256 := vp_in_nI (by omega) (by omega)
      refine g_iloadG hx dX1_lessLine_50 (nx := 52) rfl rfl ?_
      refine g_aloadG_n hx dX1_lessLine_52 rfl (nx := 53) rfl rfl ?_
      refine g_getfo_i hx dX1_lessLine_53 (nx := 56) rfl fa_X1_38 rfl (hX.1 4 _ rfl) (by decide) ?_
      refine g_icmp_ge hx dX1_lessLine_56 (tg := 109) (by decide) (nx := 59) rfl (fun c56 => ?_) (fun c56 => ?_)
      · exact absurd c56 (by rw [hL.1]; exact nI_ge hlt (by omega))
      · refine g_iloadG_n hx dX1_lessLine_59 rfl (nx := 60) rfl rfl ?_
        refine g_aloadG_n hx dX1_lessLine_60 rfl (nx := 61) rfl rfl ?_
        refine g_getfo_R hx dX1_lessLine_61 (nx := 64) rfl fa_X1_9 rfl (r9 := 8) hX.2.2.2.2.2.1 (hX.1 4 _ rfl) (by decide) ?_
        refine g_iloadG hx dX1_lessLine_64 (nx := 66) rfl rfl ?_
        refine g_iaload hx dX1_lessLine_66 (nx := 67) rfl (hX.1 5 _ rfl) (by decide) hin ?_
        refine g_imul hx dX1_lessLine_67 (nx := 68) rfl ?_
        refine g_istore_9 hx dX1_lessLine_68 (nx := 70) rfl (by decide) rfl ?_
        refine g_aloadG_n hx dX1_lessLine_70 rfl (nx := 71) rfl rfl ?_
        refine g_getfo_R hx dX1_lessLine_71 (nx := 74) rfl fa_X1_15 rfl (r9 := 9) hX.2.2.2.2.2.2.1 (hX.1 4 _ rfl) (by decide) ?_
        refine g_iloadG hx dX1_lessLine_74 (nx := 76) rfl rfl ?_
        refine g_dup2i hx dX1_lessLine_76 (nx := 77) rfl rfl rfl ?_
        refine g_laload hx dX1_lessLine_77 (nx := 78) rfl (hX.1 6 _ rfl) (by decide) hin ?_
        refine g_lloadG hx dX1_lessLine_78 (nx := 80) rfl rfl ?_
        refine g_iloadG hx dX1_lessLine_80 (nx := 82) rfl rfl ?_
        refine g_callNS_M hx [_] (k' := 0) (n' := 0) dX1_lessLine_82 (nx := 85) rfl lk_X1_74 rfl (Nat.le_of_ble_eq_true rfl) (Nat.le_of_ble_eq_true rfl) (Nat.le_of_ble_eq_true rfl) (Nat.le_of_ble_eq_true rfl) (Nat.le_of_ble_eq_true rfl) (Nat.le_of_ble_eq_true rfl) (Nat.le_of_ble_eq_true rfl) (s_X3_cosine hst hX ?_)
        refine g_i2l hx dX1_lessLine_85 (nx := 86) rfl ?_
        refine g_lmul hx dX1_lessLine_86 (nx := 87) rfl ?_
        refine g_lloadG hx dX1_lessLine_87 (nx := 89) rfl rfl ?_
        refine g_iloadG hx dX1_lessLine_89 (nx := 91) rfl rfl ?_
        refine g_callNS_M hx [_] (k' := 0) (n' := 0) dX1_lessLine_91 (nx := 94) rfl lk_X1_78 rfl (Nat.le_of_ble_eq_true rfl) (Nat.le_of_ble_eq_true rfl) (Nat.le_of_ble_eq_true rfl) (Nat.le_of_ble_eq_true rfl) (Nat.le_of_ble_eq_true rfl) (Nat.le_of_ble_eq_true rfl) (Nat.le_of_ble_eq_true rfl) (s_X3_sine hst hX ?_)
        refine g_i2l hx dX1_lessLine_94 (nx := 95) rfl ?_
        refine g_lmul hx dX1_lessLine_95 (nx := 96) rfl ?_
        refine g_ladd hx dX1_lessLine_96 (nx := 97) rfl ?_
        refine g_ldc2 hx dX1_lessLine_97 (nx := 100) rfl kl_X1_63 ?_
        refine g_ldiv hx dX1_lessLine_100 (nx := 101) rfl (by decide) ?_
        refine g_lsub hx dX1_lessLine_101 (nx := 102) rfl ?_
        refine g_lastore hx dX1_lessLine_102 (nx := 103) rfl (hX.1 6 _ rfl) (by decide) hin ?_
        refine g_iinc_8 hx dX1_lessLine_103 (nx := 106) rfl (by decide) (v := 1) (by decide) rfl ?_
        refine g_goto hx dX1_lessLine_106 (tg := 50) (by decide) ?_
        rw [← nI_succ, hn, ha.1]
        refine ih (i + 1) _ (by omega) (fun a b g h => ?_) (fun j u hj => ?_) _ _
        · rw [au2_n (fun z => h z.1)]; exact h1 a b g h
        · by_cases e : j = i
          · subst e; cases ht.symm.trans hj; rw [au2_s, h2 _ _ hj, if_neg (by omega), if_pos (by omega)]; rfl
          · rw [au2_n (fun z => e z.2), h2 j u hj]; by_cases e2 : j < i
            · rw [if_pos e2, if_pos (by omega)]
            · rw [if_neg e2, if_neg (by omega)]
  have z0 : (0 : Int32) = nI 0 := rfl
  refine g_aloadG_n hx dX1_lessLine_0 rfl (nx := 1) rfl rfl ?_
  refine g_getfo_i hx dX1_lessLine_1 (nx := 4) rfl fa_X1_38 rfl (hX.1 4 _ rfl) (by decide) ?_
  refine g_if_ne hx dX1_lessLine_4 (tg := 8) (by decide) (nx := 7) rfl (fun c4 => ?_) (fun c4 => ?_)
  · have c4' : 0 < (aT q).length := Nat.pos_of_ne_zero (fun z => c4 (by rw [hL.1, z]; rfl))
    have hs : ¬ (1000 : Int64) * (I 7 2).toInt64 = 0 := by rw [hL.1, nI_l (by omega)]; exact sN_ne c4' (by omega)
    refine g_aloadG_n hx dX1_lessLine_8 rfl (nx := 9) rfl rfl ?_
    refine g_iloadG_n hx dX1_lessLine_9 rfl (nx := 10) rfl rfl ?_
    refine g_callV_M hx [_] (k' := 0) (n' := 0) dX1_lessLine_10 (nx := 13) rfl lk_X1_60 (hX.1 4 _ rfl) (by decide) rfl rfl (Nat.le_of_ble_eq_true rfl) (Nat.le_of_ble_eq_true rfl) (Nat.le_of_ble_eq_true rfl) (Nat.le_of_ble_eq_true rfl) (Nat.le_of_ble_eq_true rfl) (Nat.le_of_ble_eq_true rfl) (Nat.le_of_ble_eq_true rfl) (s_X1_sumUp hst hX hL (fun L' h1 h2 h3 => ?_))
    refine g_ldc2 hx dX1_lessLine_13 (nx := 16) rfl kl_X1_63 ?_
    refine g_aloadG_n hx dX1_lessLine_16 rfl (nx := 17) rfl rfl ?_
    refine g_getfo_i hx dX1_lessLine_17 (nx := 20) rfl fa_X1_38 rfl (hX.1 4 _ rfl) (by decide) ?_
    refine g_i2l hx dX1_lessLine_20 (nx := 21) rfl ?_
    refine g_lmul hx dX1_lessLine_21 (nx := 22) rfl ?_
    refine g_lstore_2 hx dX1_lessLine_22 (nx := 23) rfl (by decide) rfl ?_
    refine g_ldc2 hx dX1_lessLine_23 (nx := 26) rfl kl_X1_65 ?_
    refine g_aloadG_n hx dX1_lessLine_26 rfl (nx := 27) rfl rfl ?_
    refine g_getfo_l hx dX1_lessLine_27 (nx := 30) rfl fa_X1_67 rfl (hX.1 4 _ rfl) (by decide) ?_
    refine g_lmul hx dX1_lessLine_30 (nx := 31) rfl ?_
    refine g_lloadG_n hx dX1_lessLine_31 rfl (nx := 32) rfl rfl ?_
    refine g_ldiv hx dX1_lessLine_32 (nx := 33) rfl hs ?_
    refine g_lstore_4 hx dX1_lessLine_33 (nx := 35) rfl (by decide) rfl ?_
    refine g_ldc2 hx dX1_lessLine_35 (nx := 38) rfl kl_X1_65 ?_
    refine g_aloadG_n hx dX1_lessLine_38 rfl (nx := 39) rfl rfl ?_
    refine g_getfo_l hx dX1_lessLine_39 (nx := 42) rfl fa_X1_71 rfl (hX.1 4 _ rfl) (by decide) ?_
    refine g_lmul hx dX1_lessLine_42 (nx := 43) rfl ?_
    refine g_lloadG_n hx dX1_lessLine_43 rfl (nx := 44) rfl rfl ?_
    refine g_ldiv hx dX1_lessLine_44 (nx := 45) rfl hs ?_
    refine g_lstore_6 hx dX1_lessLine_45 (nx := 47) rfl (by decide) rfl ?_
    refine g_iconst hx dX1_lessLine_47 (nx := 48) rfl (v := 0) (by decide) ?_
    refine g_istore_8 hx dX1_lessLine_48 (nx := 50) rfl (by decide) rfl ?_
    rw [h2, h3, hL.1, nI_l (by omega)]
    exact loop2 (aT q).length 0 L' (Nat.zero_add _) (fun a b g _ => h1 a b g) (fun j u h => (h1 9 j (by decide)).trans (hL.2 j u h).2) _ _
  · refine g_vret hx dX1_lessLine_7 rfl (Nat.le_of_ble_eq_true rfl) (Nat.le_of_ble_eq_true rfl) ?_
    exact hk L (fun _ _ _ _ => rfl) ⟨hL.1, fun j u h => by
        have z : (aT q).length = 0 := by
          have c5 := c4; rw [hL.1, z0, nI_eq (by omega) (by omega)] at c5; exact c5
        have := (List.getElem?_eq_some_iff.mp h).1; omega⟩

