/-! the class's light: gather, look, valueAt -/
abbrev rmX1_gather : Room := { frames := 0, cells := 0, slots := 0, locals := 0 }
set_option maxHeartbeats 4000000 in
set_option maxRecDepth 100000 in
theorem s_X1_gather {l : Launch} {E : aE} {S : aS} {I : aI} {L : aL} {Rf : aR} {Kr : aK} {Kx : aX} (hst : l.stackTraces = false) {b : Nat} {q : Nat → Bool} (hX : lyX S Rf) (hB : lyS S Rf b) (hs : ∀ t, t < 256 → vp_in (I (b + 5) t) 4) (hq : q = prs I b) (hk : ∀ I' L', eqX I' I → (∀ a b, a ≠ 9 → L' a b = L a b) → Lrep I' L' q (cts I b) → Kr none S I' L' Rf) : aMet l E yX1_gather cX1_gather 5 none rmX1_gather [.ref 7, .ref b, .ref 5] (S) (I) (L) (Rf) Kr Kx := by
  refine aMet.of (lv0 := [.ref 7, .ref b, .ref 5, aU, aU]) (z := 2) (by decide +kernel) hst rfl (Nat.le_of_ble_eq_true rfl) ?_
  intro p e s m args below meth c io0 hx hin hno
  have hx : aCx p l s m args meth c RX1 cX1_gather 5 none E := hx
  have hb := hB.2.2
  have z0 : (0 : Int32) = nI 0 := rfl
  have loop1 : ∀ (r i : Nat) (I' : aI) (L' : aL), i + r = 256 → eqX I' I → (∀ a b, a ≠ 9 → L' a b = L a b) → I' 7 2 = nI (tl q i).length → (∀ j u, (tl q i)[j]? = some u → I' 8 j = nI u ∧ L' 9 j = cts I b u) → ∀ w, aG p l e rmX1_gather s m args below meth c E io0 S 5 (vx_MQ below (aQc E io0 S Kr) (aXC E io0 S Kx) args s rmX1_gather.cells rmX1_gather.slots (aW E)) 7 [.ref 7, .ref b, .ref 5, .int (nI i), w] [] (S) (I') (L') (Rf) 0 0 := by
    intro r
    induction r with
    | zero =>
      intro i I' L' hi h1 h2 h3 h4 w
      have hi : i = 256 := by omega
      refine g_iloadG_n hx dX1_gather_7 rfl (nx := 8) rfl rfl ?_
      refine g_sipush hx dX1_gather_8 (nx := 11) rfl (v := 256) (by decide) ?_
      refine g_icmp_ge hx dX1_gather_11 (tg := 93) (by decide) (nx := 14) rfl (fun c11 => ?_) (fun c11 => ?_)
      · refine g_vret hx dX1_gather_93 rfl (Nat.le_of_ble_eq_true rfl) (Nat.le_of_ble_eq_true rfl) ?_
        subst hi
        exact hk I' L' h1 h2 ⟨h3, h4⟩
      · exact absurd (by rw [hi]; exact Int32.le_refl _) c11
    | succ r ih =>
      intro i I' L' hi h1 h2 h3 h4 w
      have hn : (nI i).toNatClampNeg = i := nI_clamp (by omega)
      have hin : vp_in (nI i) 256 := vp_in_nI (by omega) (by omega)
      have hl := tl_len q i
      have e4 : I' (b + 4) i = I (b + 4) i := h1 _ _ (by omega) (by omega) (by omega)
      have e5 : I' (b + 5) i = I (b + 5) i := h1 _ _ (by omega) (by omega) (by omega)
      have e6 : ∀ k, I' 5 k = I 5 k := fun k => h1 _ _ (by decide) (by decide) (by decide)
      have hsi := hs i (by omega)
      refine g_iloadG_n hx dX1_gather_7 rfl (nx := 8) rfl rfl ?_
      refine g_sipush hx dX1_gather_8 (nx := 11) rfl (v := 256) (by decide) ?_
      refine g_icmp_ge hx dX1_gather_11 (tg := 93) (by decide) (nx := 14) rfl (fun c11 => ?_) (fun c11 => ?_)
      · exact absurd c11 (nI_ge (b := 256) (by omega) (by decide))
      · refine g_aloadG_n hx dX1_gather_14 rfl (nx := 15) rfl rfl ?_
        refine g_getfn_R hx dX1_gather_15 (nx := 18) rfl fa_X1_42 rfl (r9 := b + 5) (hB.2.1 11 5 rfl) (lyS.ob hB) (by omega) ?_
        refine g_iloadG_n hx dX1_gather_18 rfl (nx := 19) rfl rfl ?_
        refine g_iaload hx dX1_gather_19 (nx := 20) rfl (hB.1 5 _ rfl) (by omega) hin ?_
        refine g_istore_4 hx dX1_gather_20 (nx := 22) rfl (by decide) rfl ?_
        refine g_aloadG_n hx dX1_gather_22 rfl (nx := 23) rfl rfl ?_
        refine g_getfn_R hx dX1_gather_23 (nx := 26) rfl fa_X1_45 rfl (r9 := b + 4) (hB.2.1 10 4 rfl) (lyS.ob hB) (by omega) ?_
        refine g_iloadG_n hx dX1_gather_26 rfl (nx := 27) rfl rfl ?_
        refine g_iaload hx dX1_gather_27 (nx := 28) rfl (hB.1 4 _ rfl) (by omega) hin ?_
        refine g_iconst hx dX1_gather_28 (nx := 29) rfl (v := (-1)) (by decide) ?_
        refine g_icmp_eq hx dX1_gather_29 (tg := 87) (by decide) (nx := 32) rfl (fun c29 => ?_) (fun c29 => ?_)
        · refine g_iinc_3 hx dX1_gather_87 (nx := 90) rfl (by decide) (v := 1) (by decide) rfl ?_
          refine g_goto hx dX1_gather_90 (tg := 7) (by decide) ?_
          rw [← nI_succ]
          have hf : q i = false := by
            rw [hq]; simp only [prs]
            first
              | (rw [hn] at c29; rw [← e4, c29]; rfl)
              | (simp only [hn] at c48; rw [← e6, ← e5, decide_eq_false c48, Bool.and_false])
          refine ih (i + 1) _ _ (by omega) h1 h2 ?_ ?_ _
          · rw [tl_f hf]; exact h3
          · rw [tl_f hf]; exact h4
        · refine g_iloadG hx dX1_gather_32 (nx := 34) rfl rfl ?_
          refine g_if_lt hx dX1_gather_34 (tg := 87) (by decide) (nx := 37) rfl (fun c34 => ?_) (fun c34 => ?_)
          · exact absurd (by rw [hn] at c34; rw [e5] at c34; exact c34) (fun z => hsi (Or.inl z))
          · refine g_iloadG hx dX1_gather_37 (nx := 39) rfl rfl ?_
            refine g_aloadG_n hx dX1_gather_39 rfl (nx := 40) rfl rfl ?_
            refine g_alen hx dX1_gather_40 (nx := 41) rfl (hX.1 2 _ rfl) (by decide) ⟨2, rfl⟩ ?_
            refine g_icmp_ge hx dX1_gather_41 (tg := 87) (by decide) (nx := 44) rfl (fun c41 => ?_) (fun c41 => ?_)
            · exact absurd (by rw [hn, e5] at c41; exact c41) (fun z => (by
                obtain ⟨j, hj, ej⟩ := vp_in_of hsi (by decide)
                rw [ej] at z
                exact nI_ge hj (by decide) z))
            · refine g_aloadG_n hx dX1_gather_44 rfl (nx := 45) rfl rfl ?_
              refine g_iloadG hx dX1_gather_45 (nx := 47) rfl rfl ?_
              refine g_baload hx dX1_gather_47 (nx := 48) rfl (hX.1 2 _ rfl) (by decide) (by rw [hn, e5]; exact hsi) ?_
              refine g_if_ne hx dX1_gather_48 (tg := 87) (by decide) (nx := 51) rfl (fun c48 => ?_) (fun c48 => ?_)
              · refine g_iinc_3 hx dX1_gather_87 (nx := 90) rfl (by decide) (v := 1) (by decide) rfl ?_
                refine g_goto hx dX1_gather_90 (tg := 7) (by decide) ?_
                rw [← nI_succ]
                have hf : q i = false := by
                  rw [hq]; simp only [prs]
                  first
                    | (rw [hn] at c29; rw [← e4, c29]; rfl)
                    | (simp only [hn] at c48; rw [← e6, ← e5, decide_eq_false c48, Bool.and_false])
                refine ih (i + 1) _ _ (by omega) h1 h2 ?_ ?_ _
                · rw [tl_f hf]; exact h3
                · rw [tl_f hf]; exact h4
              · have hm : q i = true := by
                  rw [hn] at c29 c48
                  rw [hq]; simp only [prs]
                  rw [← e4, ← e5, ← e6, decide_eq_true c29]
                  exact decide_eq_true c48
                have hl9 : (nI (tl q i).length).toNatClampNeg = (tl q i).length := nI_clamp (by omega)
                refine g_aloadG_n hx dX1_gather_51 rfl (nx := 52) rfl rfl ?_
                refine g_getfo_R hx dX1_gather_52 (nx := 55) rfl fa_X1_9 rfl (r9 := 8) hX.2.2.2.2.2.1 (hX.1 4 _ rfl) (by decide) ?_
                refine g_aloadG_n hx dX1_gather_55 rfl (nx := 56) rfl rfl ?_
                refine g_getfo_i hx dX1_gather_56 (nx := 59) rfl fa_X1_38 rfl (hX.1 4 _ rfl) (by decide) ?_
                refine g_iloadG_n hx dX1_gather_59 rfl (nx := 60) rfl rfl ?_
                refine g_iastore hx dX1_gather_60 (nx := 61) rfl (hX.1 5 _ rfl) (by decide) (by rw [h3]; exact vp_in_nI (by omega) (by omega)) ?_
                refine g_aloadG_n hx dX1_gather_61 rfl (nx := 62) rfl rfl ?_
                refine g_getfo_R hx dX1_gather_62 (nx := 65) rfl fa_X1_15 rfl (r9 := 9) hX.2.2.2.2.2.2.1 (hX.1 4 _ rfl) (by decide) ?_
                refine g_aloadG_n hx dX1_gather_65 rfl (nx := 66) rfl rfl ?_
                refine g_getfo_i hx dX1_gather_66 (nx := 69) rfl fa_X1_38 rfl (hX.1 4 _ rfl) (by decide) ?_
                refine g_aloadG_n hx dX1_gather_69 rfl (nx := 70) rfl rfl ?_
                refine g_getfn_R hx dX1_gather_70 (nx := 73) rfl fa_X1_45 rfl (r9 := b + 4) (hB.2.1 10 4 rfl) (lyS.ob hB) (by omega) ?_
                refine g_iloadG_n hx dX1_gather_73 rfl (nx := 74) rfl rfl ?_
                refine g_iaload hx dX1_gather_74 (nx := 75) rfl (hB.1 4 _ rfl) (by omega) hin ?_
                refine g_i2l hx dX1_gather_75 (nx := 76) rfl ?_
                refine g_lastore hx dX1_gather_76 (nx := 77) rfl (hX.1 6 _ rfl) (by decide) (by rw [au2_n (by omega), h3]; exact vp_in_nI (by omega) (by omega)) ?_
                refine g_aloadG_n hx dX1_gather_77 rfl (nx := 78) rfl rfl ?_
                refine g_dup hx dX1_gather_78 (nx := 79) rfl rfl ?_
                refine g_getfo_i hx dX1_gather_79 (nx := 82) rfl fa_X1_38 rfl (hX.1 4 _ rfl) (by decide) ?_
                refine g_iconst hx dX1_gather_82 (nx := 83) rfl (v := 1) (by decide) ?_
                refine g_iadd hx dX1_gather_83 (nx := 84) rfl ?_
                refine g_putfo_i hx dX1_gather_84 (nx := 87) rfl fa_X1_38 rfl rfl rfl (fun r h => by cases h; rfl) (hX.1 4 _ rfl) (by decide) ?_
                refine g_iinc_3 hx dX1_gather_87 (nx := 90) rfl (by decide) (v := 1) (by decide) rfl ?_
                refine g_goto hx dX1_gather_90 (tg := 7) (by decide) ?_
                rw [← nI_succ]
                rw [au2_n (by omega), h3, hl9, hn, au2_n (by omega), e4]
                refine ih (i + 1) _ _ (by omega) (fun a k g1 g2 g3 => ?_) (fun a k g => ?_) ?_ ?_ _
                · rw [au2_n (fun z => g1 z.1), au2_n (fun z => g2 z.1)]; exact h1 a k g1 g2 g3
                · rw [au2_n (fun z => g z.1)]; exact h2 a k g
                · rw [au2_s, tl_t hm, List.length_append]; exact nI_1 _
                · rw [tl_t hm]; intro j u hj
                  by_cases e : j = (tl q i).length
                  · subst e
                    rw [List.getElem?_append_right (Nat.le_refl _), Nat.sub_self] at hj
                    cases hj
                    rw [au2_n (by omega), au2_s, au2_s]; exact ⟨rfl, rfl⟩
                  · have hj2 : (tl q i)[j]? = some u := by
                      rcases Nat.lt_or_gt_of_ne e with g | g
                      · rw [List.getElem?_append_left g] at hj; exact hj
                      · rw [List.getElem?_append_right (by omega), List.getElem?_eq_none (by simp; omega)] at hj; cases hj
                    rw [au2_n (by omega), au2_n (fun z => e z.2), au2_n (fun z => e z.2)]; exact h4 j u hj2
  refine g_aloadG_n hx dX1_gather_0 rfl (nx := 1) rfl rfl ?_
  refine g_iconst hx dX1_gather_1 (nx := 2) rfl (v := 0) (by decide) ?_
  refine g_putfo_i hx dX1_gather_2 (nx := 5) rfl fa_X1_38 rfl rfl rfl (fun r h => by cases h; rfl) (hX.1 4 _ rfl) (by decide) ?_
  refine g_iconst hx dX1_gather_5 (nx := 6) rfl (v := 0) (by decide) ?_
  refine g_istore_3 hx dX1_gather_6 (nx := 7) rfl (by decide) rfl ?_
  exact loop1 256 0 _ L (Nat.zero_add _) (fun a k g _ _ => au2_n (fun z => g z.1)) (fun _ _ _ => rfl) (by rw [au2_s]; rfl) (fun j u h => by cases h) _

abbrev rmX1_look : Room := { frames := 4, cells := 0, slots := 0, locals := 92 }
set_option maxHeartbeats 4000000 in
set_option maxRecDepth 100000 in
theorem s_X1_look {l : Launch} {E : aE} {S : aS} {I : aI} {L : aL} {Rf : aR} {Kr : aK} {Kx : aX} (hst : l.stackTraces = false) {b k : Nat} {x : Int32} (hX : lyX S Rf) (hB : lyS S Rf b) (hs : ∀ t, t < 256 → vp_in (I (b + 5) t) 4) (hk6 : k ≤ 6) (hk : ∀ I' L', eqX I' I → eqX L' L → Lrep I' L' (prs I b) (laid I b x k) → Kr none S I' L' Rf) : aMet l E yX1_look cX1_look 6 none rmX1_look [.ref 7, .ref b, .ref 5, .int x, .int (nI k)] (S) (I) (L) (Rf) Kr Kx := by
  refine aMet.of (lv0 := [.ref 7, .ref b, .ref 5, .int x, .int (nI k), aU]) (z := 1) (by decide +kernel) hst rfl (Nat.le_of_ble_eq_true rfl) ?_
  intro p e s m args below meth c io0 hx hin hno
  have hx : aCx p l s m args meth c RX1 cX1_look 6 none E := hx
  have hb := hB.2.2
  have loop1 : ∀ (r i : Nat) (I' : aI) (L' : aL), i + r = k → eqX I' I → eqX L' L → Lrep I' L' (prs I b) (laid I b x i) → aG p l e rmX1_look s m args below meth c E io0 S 6 (vx_MQ below (aQc E io0 S Kr) (aXC E io0 S Kx) args s rmX1_look.cells rmX1_look.slots (aW E)) 30 [.ref 7, .ref b, .ref 5, .int x, .int (nI k), .int (nI i)] [] (S) (I') (L') (Rf) 0 0 := by
    intro r
    induction r with
    | zero =>
      intro i I' L' hi h1 h2 h3
      have hi : i = k := by omega
      refine g_iloadG hx dX1_look_30 (nx := 32) rfl rfl ?_
      refine g_iloadG hx dX1_look_32 (nx := 34) rfl rfl ?_
      refine g_icmp_ge hx dX1_look_34 (tg := 64) (by decide) (nx := 37) rfl (fun c34 => ?_) (fun c34 => ?_)
      · refine g_vret hx dX1_look_64 rfl (Nat.le_of_ble_eq_true rfl) (Nat.le_of_ble_eq_true rfl) ?_
        subst hi
        exact hk I' L' h1 h2 h3
      · exact absurd (by rw [hi]; exact Int32.le_refl _) c34
    | succ r ih =>
      intro i I' L' hi h1 h2 h3
      have hn : (nI i).toNatClampNeg = i := nI_clamp (by omega)
      have hin : vp_in (nI i) 6 := vp_in_nI (by omega) (by omega)
      refine g_iloadG hx dX1_look_30 (nx := 32) rfl rfl ?_
      refine g_iloadG hx dX1_look_32 (nx := 34) rfl rfl ?_
      refine g_icmp_ge hx dX1_look_34 (tg := 64) (by decide) (nx := 37) rfl (fun c34 => ?_) (fun c34 => ?_)
      · exact absurd c34 (nI_ge (by omega) (by omega))
      · refine g_iloadG hx dX1_look_37 (nx := 39) rfl rfl ?_
        refine g_aloadG_n hx dX1_look_39 rfl (nx := 40) rfl rfl ?_
        refine g_getfn_R hx dX1_look_40 (nx := 43) rfl fa_X1_29 rfl (r9 := b + 6) (hB.2.1 12 6 rfl) (lyS.ob hB) (by omega) ?_
        refine g_alen hx dX1_look_43 (nx := 44) rfl (hB.1 6 _ rfl) (by omega) ⟨0, rfl⟩ ?_
        refine g_icmp_ge hx dX1_look_44 (tg := 64) (by decide) (nx := 47) rfl (fun c44 => ?_) (fun c44 => ?_)
        · exact absurd c44 (nI_ge (b := 6) (by omega) (by decide))
        · refine g_aloadG_n hx dX1_look_47 rfl (nx := 48) rfl rfl ?_
          refine g_aloadG_n hx dX1_look_48 rfl (nx := 49) rfl rfl ?_
          refine g_getfn_R hx dX1_look_49 (nx := 52) rfl fa_X1_29 rfl (r9 := b + 6) (hB.2.1 12 6 rfl) (lyS.ob hB) (by omega) ?_
          refine g_iloadG hx dX1_look_52 (nx := 54) rfl rfl ?_
          refine g_iaload hx dX1_look_54 (nx := 55) rfl (hB.1 6 _ rfl) (by omega) hin ?_
          refine g_callV_M hx [_] (k' := 0) (n' := 0) dX1_look_55 (nx := 58) rfl lk_X1_34 (hX.1 4 _ rfl) (by decide) rfl rfl (Nat.le_of_ble_eq_true rfl) (Nat.le_of_ble_eq_true rfl) (Nat.le_of_ble_eq_true rfl) (Nat.le_of_ble_eq_true rfl) (Nat.le_of_ble_eq_true rfl) (Nat.le_of_ble_eq_true rfl) (Nat.le_of_ble_eq_true rfl) (s_X1_lessLine hst hX h3 (fun L2 g1 g2 => ?_))
          refine g_iinc_5 hx dX1_look_58 (nx := 61) rfl (by decide) (v := 1) (by decide) rfl ?_
          refine g_goto hx dX1_look_61 (tg := 30) (by decide) ?_
          rw [← nI_succ]
          refine ih (i + 1) _ _ (by omega) h1 (fun a c k1 k2 k3 => (g1 a c k1 k3).trans (h2 a c k1 k2 k3)) ?_
          rw [hn, h1 _ _ (by omega) (by omega) (by omega)] at g2
          exact g2
  refine g_aloadG_n hx dX1_look_0 rfl (nx := 1) rfl rfl ?_
  refine g_aloadG_n hx dX1_look_1 rfl (nx := 2) rfl rfl ?_
  refine g_aloadG_n hx dX1_look_2 rfl (nx := 3) rfl rfl ?_
  refine g_callV_M hx [_, _] (k' := 0) (n' := 0) dX1_look_3 (nx := 6) rfl lk_X1_19 (hX.1 4 _ rfl) (by decide) rfl rfl (Nat.le_of_ble_eq_true rfl) (Nat.le_of_ble_eq_true rfl) (Nat.le_of_ble_eq_true rfl) (Nat.le_of_ble_eq_true rfl) (Nat.le_of_ble_eq_true rfl) (Nat.le_of_ble_eq_true rfl) (Nat.le_of_ble_eq_true rfl) (s_X1_gather hst hX hB hs rfl (fun I2 L2 g1 g2 g3 => ?_))
  refine g_iloadG_n hx dX1_look_6 rfl (nx := 7) rfl rfl ?_
  refine g_iconst hx dX1_look_7 (nx := 8) rfl (v := 1) (by decide) ?_
  refine g_icmp_ne hx dX1_look_8 (tg := 18) (by decide) (nx := 11) rfl (fun c8 => ?_) (fun c8 => ?_)
  · refine g_iloadG_n hx dX1_look_18 rfl (nx := 19) rfl rfl ?_
    refine g_iconst hx dX1_look_19 (nx := 20) rfl (v := 2) (by decide) ?_
    refine g_icmp_ne hx dX1_look_20 (tg := 27) (by decide) (nx := 23) rfl (fun c20 => ?_) (fun c20 => ?_)
    · refine g_iconst hx dX1_look_27 (nx := 28) rfl (v := 0) (by decide) ?_
      refine g_istore_5 hx dX1_look_28 (nx := 30) rfl (by decide) rfl ?_
      first
        | exact loop1 k 0 I2 L3 (Nat.zero_add _) g1 (fun a c k1 k2 k3 => (g4 a c k3).trans (g2 a c k3)) (by show Lrep _ _ _ (flV (prs I b) (cts I b) x); rw [flV, if_pos (Decidable.not_not.mp c8)]; exact g5)
        | exact loop1 k 0 I2 L3 (Nat.zero_add _) g1 (fun a c k1 k2 k3 => (g4 a c k3).trans (g2 a c k3)) (by show Lrep _ _ _ (flV (prs I b) (cts I b) x); rw [flV, if_neg c8, if_pos (Decidable.not_not.mp c20)]; exact g5)
        | exact loop1 k 0 I2 L2 (Nat.zero_add _) g1 (fun a c k1 k2 k3 => g2 a c k3) (by show Lrep _ _ _ (flV (prs I b) (cts I b) x); rw [flV, if_neg c8, if_neg c20]; exact g3)
        | exact loop1 k 0 I2 L3 (Nat.zero_add _) g1 (fun a c k1 k2 k3 => (g4 a c k3).trans (g2 a c k3)) (by show Lrep _ _ _ (flV (prs I b) (cts I b) x); rw [flV, if_pos c8]; exact g5)
        | exact loop1 k 0 I2 L3 (Nat.zero_add _) g1 (fun a c k1 k2 k3 => (g4 a c k3).trans (g2 a c k3)) (by show Lrep _ _ _ (flV (prs I b) (cts I b) x); rw [flV, if_neg c8, if_pos c20]; exact g5)
    · refine g_aloadG_n hx dX1_look_23 rfl (nx := 24) rfl rfl ?_
      refine g_callV_M hx [] (k' := 0) (n' := 0) dX1_look_24 (nx := 27) rfl lk_X1_26 (hX.1 4 _ rfl) (by decide) rfl rfl (Nat.le_of_ble_eq_true rfl) (Nat.le_of_ble_eq_true rfl) (Nat.le_of_ble_eq_true rfl) (Nat.le_of_ble_eq_true rfl) (Nat.le_of_ble_eq_true rfl) (Nat.le_of_ble_eq_true rfl) (Nat.le_of_ble_eq_true rfl) (s_X1_lessDrift hst hX g3 (fun L3 g4 g5 => ?_))
      refine g_iconst hx dX1_look_27 (nx := 28) rfl (v := 0) (by decide) ?_
      refine g_istore_5 hx dX1_look_28 (nx := 30) rfl (by decide) rfl ?_
      first
        | exact loop1 k 0 I2 L3 (Nat.zero_add _) g1 (fun a c k1 k2 k3 => (g4 a c k3).trans (g2 a c k3)) (by show Lrep _ _ _ (flV (prs I b) (cts I b) x); rw [flV, if_pos (Decidable.not_not.mp c8)]; exact g5)
        | exact loop1 k 0 I2 L3 (Nat.zero_add _) g1 (fun a c k1 k2 k3 => (g4 a c k3).trans (g2 a c k3)) (by show Lrep _ _ _ (flV (prs I b) (cts I b) x); rw [flV, if_neg c8, if_pos (Decidable.not_not.mp c20)]; exact g5)
        | exact loop1 k 0 I2 L2 (Nat.zero_add _) g1 (fun a c k1 k2 k3 => g2 a c k3) (by show Lrep _ _ _ (flV (prs I b) (cts I b) x); rw [flV, if_neg c8, if_neg c20]; exact g3)
        | exact loop1 k 0 I2 L3 (Nat.zero_add _) g1 (fun a c k1 k2 k3 => (g4 a c k3).trans (g2 a c k3)) (by show Lrep _ _ _ (flV (prs I b) (cts I b) x); rw [flV, if_pos c8]; exact g5)
        | exact loop1 k 0 I2 L3 (Nat.zero_add _) g1 (fun a c k1 k2 k3 => (g4 a c k3).trans (g2 a c k3)) (by show Lrep _ _ _ (flV (prs I b) (cts I b) x); rw [flV, if_neg c8, if_pos c20]; exact g5)
  · refine g_aloadG_n hx dX1_look_11 rfl (nx := 12) rfl rfl ?_
    refine g_callV_M hx [] (k' := 0) (n' := 0) dX1_look_12 (nx := 15) rfl lk_X1_23 (hX.1 4 _ rfl) (by decide) rfl rfl (Nat.le_of_ble_eq_true rfl) (Nat.le_of_ble_eq_true rfl) (Nat.le_of_ble_eq_true rfl) (Nat.le_of_ble_eq_true rfl) (Nat.le_of_ble_eq_true rfl) (Nat.le_of_ble_eq_true rfl) (Nat.le_of_ble_eq_true rfl) (s_X1_lessMean hst hX g3 (fun L3 g4 g5 => ?_))
    refine g_goto hx dX1_look_15 (tg := 27) (by decide) ?_
    refine g_iconst hx dX1_look_27 (nx := 28) rfl (v := 0) (by decide) ?_
    refine g_istore_5 hx dX1_look_28 (nx := 30) rfl (by decide) rfl ?_
    first
      | exact loop1 k 0 I2 L3 (Nat.zero_add _) g1 (fun a c k1 k2 k3 => (g4 a c k3).trans (g2 a c k3)) (by show Lrep _ _ _ (flV (prs I b) (cts I b) x); rw [flV, if_pos (Decidable.not_not.mp c8)]; exact g5)
      | exact loop1 k 0 I2 L3 (Nat.zero_add _) g1 (fun a c k1 k2 k3 => (g4 a c k3).trans (g2 a c k3)) (by show Lrep _ _ _ (flV (prs I b) (cts I b) x); rw [flV, if_neg c8, if_pos (Decidable.not_not.mp c20)]; exact g5)
      | exact loop1 k 0 I2 L2 (Nat.zero_add _) g1 (fun a c k1 k2 k3 => g2 a c k3) (by show Lrep _ _ _ (flV (prs I b) (cts I b) x); rw [flV, if_neg c8, if_neg c20]; exact g3)
      | exact loop1 k 0 I2 L3 (Nat.zero_add _) g1 (fun a c k1 k2 k3 => (g4 a c k3).trans (g2 a c k3)) (by show Lrep _ _ _ (flV (prs I b) (cts I b) x); rw [flV, if_pos c8]; exact g5)
      | exact loop1 k 0 I2 L3 (Nat.zero_add _) g1 (fun a c k1 k2 k3 => (g4 a c k3).trans (g2 a c k3)) (by show Lrep _ _ _ (flV (prs I b) (cts I b) x); rw [flV, if_neg c8, if_pos c20]; exact g5)

abbrev rmX1_valueAt : Room := { frames := 0, cells := 0, slots := 0, locals := 0 }
set_option maxHeartbeats 4000000 in
set_option maxRecDepth 100000 in
theorem s_X1_valueAt {l : Launch} {E : aE} {S : aS} {I : aI} {L : aL} {Rf : aR} {Kr : aK} {Kx : aX} (hst : l.stackTraces = false) {u : Nat} {q : Nat → Bool} {V : Nat → Int64} (hX : lyX S Rf) (hL : Lrep I L q V) (hu : u < 256) (hk : Kr (some (.long (if q u = true then V u else 0))) S I L Rf) : aMet l E yX1_valueAt cX1_valueAt 3 (some .long) rmX1_valueAt [.ref 7, .int (nI u)] (S) (I) (L) (Rf) Kr Kx := by
  refine aMet.of (lv0 := [.ref 7, .int (nI u), aU]) (z := 1) (by decide +kernel) hst rfl (Nat.le_of_ble_eq_true rfl) ?_
  intro p e s m args below meth c io0 hx hin hno
  have hx : aCx p l s m args meth c RX1 cX1_valueAt 3 (some .long) E := hx
  have hlen := aT_len q
  have loop1 : ∀ (r i : Nat) , i + r = (aT q).length → (∀ j, j < i → (aT q)[j]? ≠ some u) → aG p l e rmX1_valueAt s m args below meth c E io0 S 3 (vx_MQ below (aQc E io0 S Kr) (aXC E io0 S Kx) args s rmX1_valueAt.cells rmX1_valueAt.slots (aW E)) 2 [.ref 7, .int (nI u), .int (nI i)] [] (S) (I) (L) (Rf) 0 0 := by
    intro r
    induction r with
    | zero =>
      intro i hi h1
      have hi : i = (aT q).length := by omega
      refine g_iloadG_n hx dX1_valueAt_2 rfl (nx := 3) rfl rfl ?_
      refine g_aloadG_n hx dX1_valueAt_3 rfl (nx := 4) rfl rfl ?_
      refine g_getfo_i hx dX1_valueAt_4 (nx := 7) rfl fa_X1_38 rfl (hX.1 4 _ rfl) (by decide) ?_
      refine g_icmp_ge hx dX1_valueAt_7 (tg := 33) (by decide) (nx := 10) rfl (fun c7 => ?_) (fun c7 => ?_)
      · refine g_lconst hx dX1_valueAt_33 (nx := 34) rfl (v := 0) (by decide) ?_
        refine g_lret hx dX1_valueAt_34 rfl (Nat.le_of_ble_eq_true rfl) (Nat.le_of_ble_eq_true rfl) ?_
        have hf : q u = false := by
          cases e : q u with
          | false => rfl
          | true =>
            obtain ⟨j, hj⟩ := List.getElem?_of_mem (tl_mem.mpr ⟨hu, e⟩)
            exact absurd hj (h1 j (by rw [hi]; exact (List.getElem?_eq_some_iff.mp hj).1))
        rw [hf] at hk; exact hk
      · exact absurd (by rw [hL.1, hi]; exact Int32.le_refl _) c7
    | succ r ih =>
      intro i hi h1
      have hlt : i < (aT q).length := by omega
      obtain ⟨t, ht⟩ : ∃ t, (aT q)[i]? = some t := ⟨_, List.getElem?_eq_getElem hlt⟩
      have ha := hL.2 i t ht
      have hb := aT_at ht
      have hn : (nI i).toNatClampNeg = i := nI_clamp (by omega)
      have hin : vp_in (nI i) 256 := vp_in_nI (by omega) (by omega)
      refine g_iloadG_n hx dX1_valueAt_2 rfl (nx := 3) rfl rfl ?_
      refine g_aloadG_n hx dX1_valueAt_3 rfl (nx := 4) rfl rfl ?_
      refine g_getfo_i hx dX1_valueAt_4 (nx := 7) rfl fa_X1_38 rfl (hX.1 4 _ rfl) (by decide) ?_
      refine g_icmp_ge hx dX1_valueAt_7 (tg := 33) (by decide) (nx := 10) rfl (fun c7 => ?_) (fun c7 => ?_)
      · exact absurd c7 (by rw [hL.1]; exact nI_ge hlt (by omega))
      · refine g_aloadG_n hx dX1_valueAt_10 rfl (nx := 11) rfl rfl ?_
        refine g_getfo_R hx dX1_valueAt_11 (nx := 14) rfl fa_X1_9 rfl (r9 := 8) hX.2.2.2.2.2.1 (hX.1 4 _ rfl) (by decide) ?_
        refine g_iloadG_n hx dX1_valueAt_14 rfl (nx := 15) rfl rfl ?_
        refine g_iaload hx dX1_valueAt_15 (nx := 16) rfl (hX.1 5 _ rfl) (by decide) hin ?_
        refine g_iloadG_n hx dX1_valueAt_16 rfl (nx := 17) rfl rfl ?_
        refine g_icmp_ne hx dX1_valueAt_17 (tg := 27) (by decide) (nx := 20) rfl (fun c17 => ?_) (fun c17 => ?_)
        · rw [hn, ha.1] at c17
          refine g_iinc_2 hx dX1_valueAt_27 (nx := 30) rfl (by decide) (v := 1) (by decide) rfl ?_
          refine g_goto hx dX1_valueAt_30 (tg := 2) (by decide) ?_
          rw [← nI_succ]
          refine ih (i + 1) (by omega) (fun j hj => ?_)
          by_cases e : j = i
          · subst e; rw [ht]; intro z; cases z; exact c17 rfl
          · exact h1 j (by omega)
        · rw [hn, ha.1] at c17
          refine g_aloadG_n hx dX1_valueAt_20 rfl (nx := 21) rfl rfl ?_
          refine g_getfo_R hx dX1_valueAt_21 (nx := 24) rfl fa_X1_15 rfl (r9 := 9) hX.2.2.2.2.2.2.1 (hX.1 4 _ rfl) (by decide) ?_
          refine g_iloadG_n hx dX1_valueAt_24 rfl (nx := 25) rfl rfl ?_
          refine g_laload hx dX1_valueAt_25 (nx := 26) rfl (hX.1 6 _ rfl) (by decide) hin ?_
          refine g_lret hx dX1_valueAt_26 rfl (Nat.le_of_ble_eq_true rfl) (Nat.le_of_ble_eq_true rfl) ?_
          have e : t = u := (nI_eq (by omega) (by omega)).mp c17
          subst e
          rw [hb.2] at hk
          rw [hn, ha.2]; exact hk
  refine g_iconst hx dX1_valueAt_0 (nx := 1) rfl (v := 0) (by decide) ?_
  refine g_istore_2 hx dX1_valueAt_1 (nx := 2) rfl (by decide) rfl ?_
  exact loop1 (aT q).length 0 (Nat.zero_add _) (fun j h => absurd h (Nat.not_lt_zero _))

