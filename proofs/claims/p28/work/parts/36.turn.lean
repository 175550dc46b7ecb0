/-! the law: a sky -/
abbrev rmL_sky : Room := { frames := 10, cells := 2860, slots := 59000, locals := 230 }
set_option maxHeartbeats 4000000 in
set_option maxRecDepth 100000 in
theorem sky_tail {p : Program} {l : Launch} {e : Env} {s : State} {m : MethodId} {args : Array Value} {below : List Frame} {meth : Method} {c : Code} {E : aE} {io0 : aM} {S0 : aS} {Q : State → Prop} (hx : aCx p l s m args meth c RL cL_sky 15 (some .boolean) E) (hst : l.stackTraces = false) {S : aS} {I : aI} {L : aL} {Rf : aR} {k9 s9 at0 j n nc mk th c4 c5 : Nat} (hk9 : k9 + 32 ≤ rmL_sky.cells) (hs9 : s9 + 700 ≤ rmL_sky.slots) (hat : at0 ≤ 320) (hj : j < 80) (hK : sK S I L Rf n nc mk th c4 c5) (hn0 : 0 < n) (h4 : c4 ≤ j + 1) (h5 : c5 ≤ j + 1) (hfree : ∀ a, 15 + (j + 1) ≤ a → a < 100 → S a = none) {y zz : Nat} (hy9 : y < 2 ^ 30) (hz9 : zz < 2 ^ 30) {w9 w11 w13 w14 : Value} (go : ∀ (S' : aS) (I' : aI) (L' : aL) (R' : aR) (n' nc' mk' th' c4' c5' : Nat) (w9 w10 w11 w12 w13 w14 : Value), sK S' I' L' R' n' nc' mk' th' c4' c5' → 0 < n' → c4' ≤ j + 1 → c5' ≤ j + 1 → (∀ a, 15 + (j + 1) ≤ a → a < 100 → S' a = none) → aG p l e rmL_sky s m args below meth c E io0 S0 15 (Q) 66 [.ref 1, .int (nI at0), .ref 3, .ref 11, .ref 12, .ref 13, .ref 14, .int (nI 1), .int (nI (j + 1)), w9, w10, w11, w12, w13, w14] [] (S') (I') (L') (R') (k9 + 32) (s9 + 700)) : aG p l e rmL_sky s m args below meth c E io0 S0 15 (Q) 544 [.ref 1, .int (nI at0), .ref 3, .ref 11, .ref 12, .ref 13, .ref 14, .int (nI 1), .int (nI j), w9, .int (nI y), w11, .int (nI zz), w13, w14] [] (S) (I) (L) (Rf) (k9 + 20) (s9 + 640) := by
  have hn4 := hK.n4
  have hc := hK.c
  refine g_iloadG hx dL_sky_544 (nx := 546) rfl rfl ?_
  refine g_if_eqN hx dL_sky_546 (tg := 596) (by decide) (nx := 549) rfl (by omega) (fun c546 => ?_) (fun c546 => ?_)
  · exact absurd c546 (by decide)
  · refine g_aloadG_n hx dL_sky_549 rfl (nx := 550) rfl rfl ?_
    refine g_iconst hx dL_sky_550 (nx := 551) rfl (v := nI 0) (by decide) ?_
    refine g_ialoadN hx dL_sky_551 (nx := 552) rfl hK.A.1 (by decide) (by omega) (by decide) (v := nI n) (hc.1) ?_
    refine g_if_eqN hx dL_sky_552 (tg := 570) (by decide) (nx := 555) rfl (by omega) (fun c552 => ?_) (fun c552 => ?_)
    · exact absurd c552 (by omega)
    · refine g_aloadG_n hx dL_sky_555 rfl (nx := 556) rfl rfl ?_
      refine g_iloadG hx dL_sky_556 (nx := 558) rfl rfl ?_
      refine g_aloadG_n hx dL_sky_558 rfl (nx := 559) rfl rfl ?_
      refine g_iconst hx dL_sky_559 (nx := 560) rfl (v := nI 0) (by decide) ?_
      refine g_ialoadN hx dL_sky_560 (nx := 561) rfl hK.A.1 (by decide) (by omega) (by decide) (v := nI n) (hc.1) ?_
      refine g_iremN hx dL_sky_561 (nx := 562) rfl (by omega) (by omega) (by omega) ?_
      obtain ⟨kk, hkk, hkk2⟩ : ∃ k, k = y % n ∧ k < n := ⟨_, rfl, Nat.mod_lt _ hn0⟩
      rw [← hkk]
      refine g_iloadG hx dL_sky_562 (nx := 564) rfl rfl ?_
      refine g_callS_M hx [_, _, _] (k' := k9 + 20) (n' := s9 + 640) dL_sky_564 (nx := 567) rfl lk_L_157 rfl (Nat.le_of_ble_eq_true rfl) (Nat.le_of_ble_eq_true rfl) (Nat.le_of_ble_eq_true rfl) (by show k9 + 20 + 0 ≤ k9 + 20; omega) (by show s9 + 640 + 0 ≤ s9 + 640; omega) (by omega) (by omega) (s_L_isStar hst hK.C hkk2 (hK.z kk hkk2) (by omega) ?_)
      refine g_if_eqN hx dL_sky_567 (tg := 596) (by decide) (nx := 570) rfl (by omega) (fun c567 => ?_) (fun c567 => ?_)
      · exact absurd c567 (by decide)
      · refine g_iloadG hx dL_sky_570 (nx := 572) rfl rfl ?_
        refine g_bipush hx dL_sky_572 (nx := 574) rfl (v := nI 8) (by decide) ?_
        refine g_iremN hx dL_sky_574 (nx := 575) rfl (by omega) (by omega) (by omega) ?_
        refine g_bipush hx dL_sky_575 (nx := 577) rfl (v := nI 7) (by decide) ?_
        refine g_icmp_ltN hx dL_sky_577 (tg := 592) (by decide) (nx := 580) rfl (by omega) (by omega) (fun c577 => ?_) (fun c577 => ?_)
        · refine g_iconst hx dL_sky_592 (nx := 593) rfl (v := nI 1) (by decide) ?_
          refine g_goto hx dL_sky_593 (tg := 597) (by decide) ?_
          refine g_istore_7 hx dL_sky_597 (nx := 599) rfl (by decide) rfl ?_
          refine g_iloadG hx dL_sky_599 (nx := 601) rfl rfl ?_
          refine g_if_eqN hx dL_sky_601 (tg := 631) (by decide) (nx := 604) rfl (by omega) (fun c601 => ?_) (fun c601 => ?_)
          · exact absurd c601 (by decide)
          · refine g_iloadG hx dL_sky_604 (nx := 606) rfl rfl ?_
            refine g_bipush hx dL_sky_606 (nx := 608) rfl (v := nI 20) (by decide) ?_
            refine g_iremN hx dL_sky_608 (nx := 609) rfl (by omega) (by omega) (by omega) ?_
            refine g_bipush hx dL_sky_609 (nx := 611) rfl (v := nI 19) (by decide) ?_
            refine g_icmp_ltN hx dL_sky_611 (tg := 627) (by decide) (nx := 614) rfl (by omega) (by omega) (fun c611 => ?_) (fun c611 => ?_)
            · refine g_iconst hx dL_sky_627 (nx := 628) rfl (v := nI 1) (by decide) ?_
              refine g_goto hx dL_sky_628 (tg := 632) (by decide) ?_
              refine g_istore_7 hx dL_sky_632 (nx := 634) rfl (by decide) rfl ?_
              refine g_iincN_8 hx dL_sky_634 (nx := 637) rfl (by decide) (b := 1) (by decide) rfl ?_
              refine g_goto hx dL_sky_637 (tg := 66) (by decide) ?_
              refine aG.widen (k' := k9 + 32) (n' := s9 + 700) (by omega) (by omega) (go _ _ _ _ _ _ _ _ _ _ _ _ _ _ _ _ hK hn0 (by omega) (by omega) (fun a a1 a2 => hfree a (by omega) a2))
            · refine g_aloadG_n hx dL_sky_614 rfl (nx := 615) rfl rfl ?_
              refine g_iconst hx dL_sky_615 (nx := 616) rfl (v := nI 0) (by decide) ?_
              refine g_iloadG hx dL_sky_616 (nx := 618) rfl rfl ?_
              refine g_aloadG_n hx dL_sky_618 rfl (nx := 619) rfl rfl ?_
              refine g_aloadG hx dL_sky_619 (nx := 621) rfl rfl ?_
              refine g_callS_M hx [_, _, _, _, _] (k' := k9 + 20) (n' := s9 + 640) dL_sky_621 (nx := 624) rfl lk_L_165 rfl (Nat.le_of_ble_eq_true rfl) (Nat.le_of_ble_eq_true rfl) (Nat.le_of_ble_eq_true rfl) (by show k9 + 20 + 0 ≤ k9 + 20; omega) (by show s9 + 640 + 0 ≤ s9 + 640; omega) (by omega) (by omega) (s_L_isLight (mk := mk) (th := th) (o0 := oI _ 0) hst hK.C hn0 hK.A.1 hK.A.2.1 hK.f hK.m hK.c.2.2.2.1 hK.c.2.2.1 hK.t.1 hK.t.2.2 (hK.oo 0 hn0).1 (hK.oo 0 hn0).2 (by omega) (fun I2 L2 i1 i2 i3 => ?_))
              have hK2 := sK_s (o := 0) hK hn0 (hK.C.I (i1 _ _ (by decide) (by decide) (by decide) (by decide)) (i1 _ _ (by decide) (by decide) (by decide) (by decide))) hK.A (fun a k a1 a2 a3 a4 a5 a6 a7 a8 => i1 a k (by omega) (by omega) (by omega) a8) (fun a k a1 => i3 a k (by omega) (by omega) (by omega)) (cN6_e hK.c (fun k => i1 _ _ (by decide) (by decide) (by decide) (by omega))) ⟨(i1 _ _ (by decide) (by decide) (by decide) (by decide)).trans hK.t.1, hK.t.2⟩ (mK_e hK.m (fun k => i1 _ _ (by decide) (by decide) (by decide) (by omega))) (lF_c hK.f (fun a k ha => i1 _ _ (by omega) (by omega) (by omega) (by omega))) i2 (by decide)
              refine g_if_eqN hx dL_sky_624 (tg := 631) (by decide) (nx := 627) rfl (by omega) (fun c624 => ?_) (fun c624 => ?_)
              · exact absurd c624 (by decide)
              · refine g_iconst hx dL_sky_627 (nx := 628) rfl (v := nI 1) (by decide) ?_
                refine g_goto hx dL_sky_628 (tg := 632) (by decide) ?_
                refine g_istore_7 hx dL_sky_632 (nx := 634) rfl (by decide) rfl ?_
                refine g_iincN_8 hx dL_sky_634 (nx := 637) rfl (by decide) (b := 1) (by decide) rfl ?_
                refine g_goto hx dL_sky_637 (tg := 66) (by decide) ?_
                refine aG.widen (k' := k9 + 32) (n' := s9 + 700) (by omega) (by omega) (go _ _ _ _ _ _ _ _ _ _ _ _ _ _ _ _ hK2 hn0 (by omega) (by omega) (fun a a1 a2 => hfree a (by omega) a2))
        · refine g_aloadG_n hx dL_sky_580 rfl (nx := 581) rfl rfl ?_
          refine g_aloadG_n hx dL_sky_581 rfl (nx := 582) rfl rfl ?_
          refine g_aloadG hx dL_sky_582 (nx := 584) rfl rfl ?_
          refine g_aloadG hx dL_sky_584 (nx := 586) rfl rfl ?_
          refine g_callS_M hx [_, _, _, _] (k' := k9 + 27) (n' := s9 + 685) dL_sky_586 (nx := 589) rfl lk_L_161 rfl (Nat.le_of_ble_eq_true rfl) (Nat.le_of_ble_eq_true rfl) (Nat.le_of_ble_eq_true rfl) (by show k9 + 20 + 7 ≤ k9 + 27; omega) (by show s9 + 640 + 45 ≤ s9 + 685; omega) (by omega) (by omega) (s_L_areClaims hst hK.C hK.A.1 hK.A.2.2.1 hK.A.2.2.2 hc.2.1 hK.si hK.oo hK.g hK.h (fun I1 L1 e1 e2 => ?_))
          have hK1 := sK_x2 hK hn0 e1 e2
          refine g_if_eqN hx dL_sky_589 (tg := 596) (by decide) (nx := 592) rfl (by omega) (fun c589 => ?_) (fun c589 => ?_)
          · exact absurd c589 (by decide)
          · refine g_iconst hx dL_sky_592 (nx := 593) rfl (v := nI 1) (by decide) ?_
            refine g_goto hx dL_sky_593 (tg := 597) (by decide) ?_
            refine g_istore_7 hx dL_sky_597 (nx := 599) rfl (by decide) rfl ?_
            refine g_iloadG hx dL_sky_599 (nx := 601) rfl rfl ?_
            refine g_if_eqN hx dL_sky_601 (tg := 631) (by decide) (nx := 604) rfl (by omega) (fun c601 => ?_) (fun c601 => ?_)
            · exact absurd c601 (by decide)
            · refine g_iloadG hx dL_sky_604 (nx := 606) rfl rfl ?_
              refine g_bipush hx dL_sky_606 (nx := 608) rfl (v := nI 20) (by decide) ?_
              refine g_iremN hx dL_sky_608 (nx := 609) rfl (by omega) (by omega) (by omega) ?_
              refine g_bipush hx dL_sky_609 (nx := 611) rfl (v := nI 19) (by decide) ?_
              refine g_icmp_ltN hx dL_sky_611 (tg := 627) (by decide) (nx := 614) rfl (by omega) (by omega) (fun c611 => ?_) (fun c611 => ?_)
              · refine g_iconst hx dL_sky_627 (nx := 628) rfl (v := nI 1) (by decide) ?_
                refine g_goto hx dL_sky_628 (tg := 632) (by decide) ?_
                refine g_istore_7 hx dL_sky_632 (nx := 634) rfl (by decide) rfl ?_
                refine g_iincN_8 hx dL_sky_634 (nx := 637) rfl (by decide) (b := 1) (by decide) rfl ?_
                refine g_goto hx dL_sky_637 (tg := 66) (by decide) ?_
                refine aG.widen (k' := k9 + 32) (n' := s9 + 700) (by omega) (by omega) (go _ _ _ _ _ _ _ _ _ _ _ _ _ _ _ _ hK1 hn0 (by omega) (by omega) (fun a a1 a2 => hfree a (by omega) a2))
              · refine g_aloadG_n hx dL_sky_614 rfl (nx := 615) rfl rfl ?_
                refine g_iconst hx dL_sky_615 (nx := 616) rfl (v := nI 0) (by decide) ?_
                refine g_iloadG hx dL_sky_616 (nx := 618) rfl rfl ?_
                refine g_aloadG_n hx dL_sky_618 rfl (nx := 619) rfl rfl ?_
                refine g_aloadG hx dL_sky_619 (nx := 621) rfl rfl ?_
                refine g_callS_M hx [_, _, _, _, _] (k' := k9 + 27) (n' := s9 + 685) dL_sky_621 (nx := 624) rfl lk_L_165 rfl (Nat.le_of_ble_eq_true rfl) (Nat.le_of_ble_eq_true rfl) (Nat.le_of_ble_eq_true rfl) (by show k9 + 27 + 0 ≤ k9 + 27; omega) (by show s9 + 685 + 0 ≤ s9 + 685; omega) (by omega) (by omega) (s_L_isLight (mk := mk) (th := th) (o0 := oI _ 0) hst hK1.C hn0 hK1.A.1 hK1.A.2.1 hK1.f hK1.m hK1.c.2.2.2.1 hK1.c.2.2.1 hK1.t.1 hK1.t.2.2 (hK1.oo 0 hn0).1 (hK1.oo 0 hn0).2 (by omega) (fun I2 L2 i1 i2 i3 => ?_))
                have hK2 := sK_s (o := 0) hK1 hn0 (hK1.C.I (i1 _ _ (by decide) (by decide) (by decide) (by decide)) (i1 _ _ (by decide) (by decide) (by decide) (by decide))) hK1.A (fun a k a1 a2 a3 a4 a5 a6 a7 a8 => i1 a k (by omega) (by omega) (by omega) a8) (fun a k a1 => i3 a k (by omega) (by omega) (by omega)) (cN6_e hK1.c (fun k => i1 _ _ (by decide) (by decide) (by decide) (by omega))) ⟨(i1 _ _ (by decide) (by decide) (by decide) (by decide)).trans hK1.t.1, hK1.t.2⟩ (mK_e hK1.m (fun k => i1 _ _ (by decide) (by decide) (by decide) (by omega))) (lF_c hK1.f (fun a k ha => i1 _ _ (by omega) (by omega) (by omega) (by omega))) i2 (by decide)
                refine g_if_eqN hx dL_sky_624 (tg := 631) (by decide) (nx := 627) rfl (by omega) (fun c624 => ?_) (fun c624 => ?_)
                · exact absurd c624 (by decide)
                · refine g_iconst hx dL_sky_627 (nx := 628) rfl (v := nI 1) (by decide) ?_
                  refine g_goto hx dL_sky_628 (tg := 632) (by decide) ?_
                  refine g_istore_7 hx dL_sky_632 (nx := 634) rfl (by decide) rfl ?_
                  refine g_iincN_8 hx dL_sky_634 (nx := 637) rfl (by decide) (b := 1) (by decide) rfl ?_
                  refine g_goto hx dL_sky_637 (tg := 66) (by decide) ?_
                  refine aG.widen (k' := k9 + 32) (n' := s9 + 700) (by omega) (by omega) (go _ _ _ _ _ _ _ _ _ _ _ _ _ _ _ _ hK2 hn0 (by omega) (by omega) (fun a a1 a2 => hfree a (by omega) a2))
set_option maxHeartbeats 4000000 in
set_option maxRecDepth 100000 in
theorem sky_turn {p : Program} {l : Launch} {e : Env} {s : State} {m : MethodId} {args : Array Value} {below : List Frame} {meth : Method} {c : Code} {E : aE} {io0 : aM} {S0 : aS} {Q : State → Prop} (hx : aCx p l s m args meth c RL cL_sky 15 (some .boolean) E) (hst : l.stackTraces = false) (hN : aSn E < 2 ^ 31) {S : aS} {I : aI} {L : aL} {Rf : aR} {k9 s9 at0 j n nc mk th c4 c5 : Nat} (hk9 : k9 + 32 ≤ rmL_sky.cells) (hs9 : s9 + 700 ≤ rmL_sky.slots) (hat : at0 ≤ 320) (hj : j < 80) (hK : sK S I L Rf n nc mk th c4 c5) (h4 : c4 ≤ j) (h5 : c5 ≤ j) (hfree : ∀ a, 15 + j ≤ a → a < 100 → S a = none) {w9 w10 w11 w12 w13 w14 : Value} (go : ∀ (S' : aS) (I' : aI) (L' : aL) (R' : aR) (n' nc' mk' th' c4' c5' : Nat) (w9 w10 w11 w12 w13 w14 : Value), sK S' I' L' R' n' nc' mk' th' c4' c5' → 0 < n' → c4' ≤ j + 1 → c5' ≤ j + 1 → (∀ a, 15 + (j + 1) ≤ a → a < 100 → S' a = none) → aG p l e rmL_sky s m args below meth c E io0 S0 15 (Q) 66 [.ref 1, .int (nI at0), .ref 3, .ref 11, .ref 12, .ref 13, .ref 14, .int (nI 1), .int (nI (j + 1)), w9, w10, w11, w12, w13, w14] [] (S') (I') (L') (R') (k9 + 32) (s9 + 700)) : aG p l e rmL_sky s m args below meth c E io0 S0 15 (Q) 66 [.ref 1, .int (nI at0), .ref 3, .ref 11, .ref 12, .ref 13, .ref 14, .int (nI 1), .int (nI j), w9, w10, w11, w12, w13, w14] [] (S) (I) (L) (Rf) (k9 + 0) (s9 + 0) := by
  have hn4 := hK.n4
  have hc := hK.c
  have h40 := hK.n40
  have ht9 := hK.t.2
  refine g_iloadG hx dL_sky_66 (nx := 68) rfl rfl ?_
  refine g_bipush hx dL_sky_68 (nx := 70) rfl (v := nI 80) (by decide) ?_
  refine g_icmp_geN hx dL_sky_70 (tg := 640) (by decide) (nx := 73) rfl (by omega) (by omega) (fun c70 => ?_) (fun c70 => ?_)
  · exact absurd c70 (by omega)
  · refine g_iloadG hx dL_sky_73 (nx := 75) rfl rfl ?_
    refine g_if_eqN hx dL_sky_75 (tg := 640) (by decide) (nx := 78) rfl (by omega) (fun c75 => ?_) (fun c75 => ?_)
    · exact absurd c75 (by decide)
    · refine g_aloadG_n hx dL_sky_78 rfl (nx := 79) rfl rfl ?_
      refine g_iloadG_n hx dL_sky_79 rfl (nx := 80) rfl rfl ?_
      refine g_iconst hx dL_sky_80 (nx := 81) rfl (v := nI 2) (by decide) ?_
      refine g_iloadG hx dL_sky_81 (nx := 83) rfl rfl ?_
      refine g_imulN hx dL_sky_83 (nx := 84) rfl  ?_
      refine g_iaddN hx dL_sky_84 (nx := 85) rfl  ?_
      refine g_ldc hx dL_sky_85 (nx := 87) rfl (v := nI 1073741824) kc_L_123 ?_
      refine g_callS_M hx [_, _, _] (k' := k9 + 0) (n' := s9 + 0) dL_sky_87 (nx := 90) rfl lk_L_124 rfl (Nat.le_of_ble_eq_true rfl) (Nat.le_of_ble_eq_true rfl) (Nat.le_of_ble_eq_true rfl) (by show k9 + 0 + 0 ≤ k9 + 0; omega) (by show s9 + 0 + 0 ≤ s9 + 0; omega) (by omega) (by omega) (s_L_draw hst (by omega) (by decide) (by decide) hN (fun x hx9 => ?_))
      refine g_istore_9 hx dL_sky_90 (nx := 92) rfl (by decide) rfl ?_
      refine g_aloadG_n hx dL_sky_92 rfl (nx := 93) rfl rfl ?_
      refine g_iloadG_n hx dL_sky_93 rfl (nx := 94) rfl rfl ?_
      refine g_iconst hx dL_sky_94 (nx := 95) rfl (v := nI 2) (by decide) ?_
      refine g_iloadG hx dL_sky_95 (nx := 97) rfl rfl ?_
      refine g_imulN hx dL_sky_97 (nx := 98) rfl  ?_
      refine g_iaddN hx dL_sky_98 (nx := 99) rfl  ?_
      refine g_iconst hx dL_sky_99 (nx := 100) rfl (v := nI 1) (by decide) ?_
      refine g_iaddN hx dL_sky_100 (nx := 101) rfl  ?_
      refine g_ldc hx dL_sky_101 (nx := 103) rfl (v := nI 1073741824) kc_L_123 ?_
      refine g_callS_M hx [_, _, _] (k' := k9 + 0) (n' := s9 + 0) dL_sky_103 (nx := 106) rfl lk_L_124 rfl (Nat.le_of_ble_eq_true rfl) (Nat.le_of_ble_eq_true rfl) (Nat.le_of_ble_eq_true rfl) (by show k9 + 0 + 0 ≤ k9 + 0; omega) (by show s9 + 0 + 0 ≤ s9 + 0; omega) (by omega) (by omega) (s_L_draw hst (by omega) (by decide) (by decide) hN (fun y hy9 => ?_))
      refine g_istore_10 hx dL_sky_106 (nx := 108) rfl (by decide) rfl ?_
      refine g_aloadG_n hx dL_sky_108 rfl (nx := 109) rfl rfl ?_
      refine g_iconst hx dL_sky_109 (nx := 110) rfl (v := nI 0) (by decide) ?_
      refine g_ialoadN hx dL_sky_110 (nx := 111) rfl hK.A.1 (by decide) (by omega) (by decide) (v := nI n) (hc.1) ?_
      refine g_if_neN hx dL_sky_111 (tg := 118) (by decide) (nx := 114) rfl (by omega) (fun c111 => ?_) (fun c111 => ?_)
      · have hn0 : 0 < n := by omega
        refine g_iloadG hx dL_sky_118 (nx := 120) rfl rfl ?_
        refine g_bipush hx dL_sky_120 (nx := 122) rfl (v := nI 20) (by decide) ?_
        refine g_iremN hx dL_sky_122 (nx := 123) rfl (by omega) (by omega) (by omega) ?_
        refine g_istore_11 hx dL_sky_123 (nx := 125) rfl (by decide) rfl ?_
        refine g_iloadG hx dL_sky_125 (nx := 127) rfl rfl ?_
        refine g_bipush hx dL_sky_127 (nx := 129) rfl (v := nI 20) (by decide) ?_
        refine g_idivN hx dL_sky_129 (nx := 130) rfl (by omega) (by omega) (by omega) ?_
        obtain ⟨zz, hzz⟩ : ∃ k, k = x / 20 := ⟨_, rfl⟩
        rw [← hzz]
        refine g_istore_12 hx dL_sky_130 (nx := 132) rfl (by decide) rfl ?_
        refine g_iloadG hx dL_sky_132 (nx := 134) rfl rfl ?_
        refine g_if_neN hx dL_sky_134 (tg := 158) (by decide) (nx := 137) rfl (by omega) (fun c134 => ?_) (fun c134 => ?_)
        · refine g_iloadG hx dL_sky_158 (nx := 160) rfl rfl ?_
          refine g_bipush hx dL_sky_160 (nx := 162) rfl (v := nI 9) (by decide) ?_
          refine g_icmp_geN hx dL_sky_162 (tg := 198) (by decide) (nx := 165) rfl (by omega) (by omega) (fun c162 => ?_) (fun c162 => ?_)
          · refine g_iloadG hx dL_sky_198 (nx := 200) rfl rfl ?_
            refine g_bipush hx dL_sky_200 (nx := 202) rfl (v := nI 9) (by decide) ?_
            refine g_icmp_neN hx dL_sky_202 (tg := 299) (by decide) (nx := 205) rfl (by omega) (by omega) (fun c202 => ?_) (fun c202 => ?_)
            · refine g_iloadG hx dL_sky_299 (nx := 301) rfl rfl ?_
              refine g_bipush hx dL_sky_301 (nx := 303) rfl (v := nI 10) (by decide) ?_
              refine g_icmp_neN hx dL_sky_303 (tg := 343) (by decide) (nx := 306) rfl (by omega) (by omega) (fun c303 => ?_) (fun c303 => ?_)
              · refine g_iloadG hx dL_sky_343 (nx := 345) rfl rfl ?_
                refine g_bipush hx dL_sky_345 (nx := 347) rfl (v := nI 13) (by decide) ?_
                refine g_icmp_geN hx dL_sky_347 (tg := 419) (by decide) (nx := 350) rfl (by omega) (by omega) (fun c347 => ?_) (fun c347 => ?_)
                · refine g_iloadG hx dL_sky_419 (nx := 421) rfl rfl ?_
                  refine g_bipush hx dL_sky_421 (nx := 423) rfl (v := nI 16) (by decide) ?_
                  refine g_icmp_geN hx dL_sky_423 (tg := 465) (by decide) (nx := 426) rfl (by omega) (by omega) (fun c423 => ?_) (fun c423 => ?_)
                  · refine g_iloadG hx dL_sky_465 (nx := 467) rfl rfl ?_
                    refine g_bipush hx dL_sky_467 (nx := 469) rfl (v := nI 18) (by decide) ?_
                    refine g_icmp_geN hx dL_sky_469 (tg := 504) (by decide) (nx := 472) rfl (by omega) (by omega) (fun c469 => ?_) (fun c469 => ?_)
                    · refine g_aloadG_n hx dL_sky_504 rfl (nx := 505) rfl rfl ?_
                      refine g_iconst hx dL_sky_505 (nx := 506) rfl (v := nI 1) (by decide) ?_
                      refine g_ialoadN hx dL_sky_506 (nx := 507) rfl hK.A.1 (by decide) (by omega) (by decide) (v := nI nc) (hc.2.1) ?_
                      refine g_if_leN hx dL_sky_507 (tg := 544) (by decide) (nx := 510) rfl (by omega) (fun c507 => ?_) (fun c507 => ?_)
                      · refine aG.widen (k' := k9 + 20) (n' := s9 + 640) (by omega) (by omega) (sky_tail hx hst hk9 hs9 hat hj hK hn0 (by omega) (by omega) (fun a a1 a2 => hfree a (by omega) a2) (y := y) (zz := zz) (by omega) (by omega) go)
                      · refine g_aloadG_n hx dL_sky_510 rfl (nx := 511) rfl rfl ?_
                        refine g_iconst hx dL_sky_511 (nx := 512) rfl (v := nI 4) (by decide) ?_
                        refine g_dup2i hx dL_sky_512 (nx := 513) rfl rfl rfl ?_
                        refine g_ialoadN hx dL_sky_513 (nx := 514) rfl hK.A.1 (by decide) (by omega) (by decide) (v := nI c4) (hc.2.2.2.2.1) ?_
                        refine g_iconst hx dL_sky_514 (nx := 515) rfl (v := nI 1) (by decide) ?_
                        refine g_iaddN hx dL_sky_515 (nx := 516) rfl  ?_
                        refine g_iastoreN hx dL_sky_516 (nx := 517) rfl hK.A.1 (by decide) (by omega) (by decide) ?_
                        have hK1 := sK_s (I' := (au2 I 11 4 (nI (c4 + 1)))) (c4' := c4 + 1) (o := oI I 0) hK hn0 (hK.C.I (au2_n (by omega)) (au2_n (by omega))) hK.A (fun a k a1 a2 a3 a4 a5 a6 a7 a8 => au2_n (by omega)) (fun a k a1 => rfl) ⟨(by rw [au2_n (by omega)]; exact hc.1), (by rw [au2_n (by omega)]; exact hc.2.1), (by rw [au2_n (by omega)]; exact hc.2.2.1), (by rw [au2_n (by omega)]; exact hc.2.2.2.1), au2_s _ _ _ _, (by rw [au2_n (by omega)]; exact hc.2.2.2.2.2)⟩ ⟨(by rw [au2_n (by omega)]; exact hK.t.1), hK.t.2⟩ (mK_e hK.m (fun k => au2_n (by omega))) (lF_c hK.f (fun a k ha => au2_n (by omega))) (by rw [au2_n (by omega)]; exact (hK.oo 0 hn0).1) (hK.oo 0 hn0).2
                        refine g_aloadG_n hx dL_sky_517 rfl (nx := 518) rfl rfl ?_
                        refine g_iconst hx dL_sky_518 (nx := 519) rfl (v := nI 4) (by decide) ?_
                        refine g_ialoadN hx dL_sky_519 (nx := 520) rfl hK.A.1 (by decide) (by omega) (by decide) (v := nI (c4 + 1)) (au2_s _ _ _ _) ?_
                        refine g_bipush hx dL_sky_520 (nx := 522) rfl (v := nI 8) (by decide) ?_
                        refine g_icmp_gtN hx dL_sky_522 (tg := 537) (by decide) (nx := 525) rfl (by omega) (by omega) (fun c522 => ?_) (fun c522 => ?_)
                        · refine g_iconst hx dL_sky_537 (nx := 538) rfl (v := nI 1) (by decide) ?_
                          refine g_goto hx dL_sky_538 (tg := 542) (by decide) ?_
                          refine g_istore_7 hx dL_sky_542 (nx := 544) rfl (by decide) rfl ?_
                          refine aG.widen (k' := k9 + 20) (n' := s9 + 640) (by omega) (by omega) (sky_tail hx hst hk9 hs9 hat hj hK1 hn0 (by omega) (by omega) (fun a a1 a2 => hfree a (by omega) a2) (y := y) (zz := zz) (by omega) (by omega) go)
                        · refine g_aloadG_n hx dL_sky_525 rfl (nx := 526) rfl rfl ?_
                          refine g_iloadG hx dL_sky_526 (nx := 528) rfl rfl ?_
                          refine g_aloadG_n hx dL_sky_528 rfl (nx := 529) rfl rfl ?_
                          refine g_aloadG hx dL_sky_529 (nx := 531) rfl rfl ?_
                          refine g_callS_M hx [_, _, _, _] (k' := k9 + 7) (n' := s9 + 45) dL_sky_531 (nx := 534) rfl lk_L_153 rfl (Nat.le_of_ble_eq_true rfl) (Nat.le_of_ble_eq_true rfl) (Nat.le_of_ble_eq_true rfl) (by show k9 + 0 + 7 ≤ k9 + 7; omega) (by show s9 + 0 + 45 ≤ s9 + 45; omega) (by omega) (by omega) (s_L_audits hst hK1.C (by omega) hK1.A.1 hK1.A.2.2.1 hK1.c.2.1 hK1.si hK1.oo hK1.g hK1.h (by omega) (fun I2 L2 e1 e2 e3 => ?_))
                          have hK2 := sK_fell hK1 hn0 e1 e2 e3
                          refine g_if_eqN hx dL_sky_534 (tg := 541) (by decide) (nx := 537) rfl (by omega) (fun c534 => ?_) (fun c534 => ?_)
                          · exact absurd c534 (by decide)
                          · refine g_iconst hx dL_sky_537 (nx := 538) rfl (v := nI 1) (by decide) ?_
                            refine g_goto hx dL_sky_538 (tg := 542) (by decide) ?_
                            refine g_istore_7 hx dL_sky_542 (nx := 544) rfl (by decide) rfl ?_
                            refine aG.widen (k' := k9 + 20) (n' := s9 + 640) (by omega) (by omega) (sky_tail hx hst hk9 hs9 hat hj hK2 hn0 (by omega) (by omega) (fun a a1 a2 => hfree a (by omega) a2) (y := y) (zz := zz) (by omega) (by omega) go)
                    · refine g_aloadG_n hx dL_sky_472 rfl (nx := 473) rfl rfl ?_
                      refine g_iconst hx dL_sky_473 (nx := 474) rfl (v := nI 1) (by decide) ?_
                      refine g_ialoadN hx dL_sky_474 (nx := 475) rfl hK.A.1 (by decide) (by omega) (by decide) (v := nI nc) (hc.2.1) ?_
                      refine g_if_eqN hx dL_sky_475 (tg := 494) (by decide) (nx := 478) rfl (by omega) (fun c475 => ?_) (fun c475 => ?_)
                      · refine g_iconst hx dL_sky_494 (nx := 495) rfl (v := nI 1) (by decide) ?_
                        refine g_goto hx dL_sky_495 (tg := 499) (by decide) ?_
                        refine g_istore_7 hx dL_sky_499 (nx := 501) rfl (by decide) rfl ?_
                        refine g_goto hx dL_sky_501 (tg := 544) (by decide) ?_
                        refine aG.widen (k' := k9 + 20) (n' := s9 + 640) (by omega) (by omega) (sky_tail hx hst hk9 hs9 hat hj hK hn0 (by omega) (by omega) (fun a a1 a2 => hfree a (by omega) a2) (y := y) (zz := zz) (by omega) (by omega) go)
                      · refine g_aloadG_n hx dL_sky_478 rfl (nx := 479) rfl rfl ?_
                        refine g_iloadG hx dL_sky_479 (nx := 481) rfl rfl ?_
                        refine g_iloadG hx dL_sky_481 (nx := 483) rfl rfl ?_
                        refine g_aloadG_n hx dL_sky_483 rfl (nx := 484) rfl rfl ?_
                        refine g_aloadG hx dL_sky_484 (nx := 486) rfl rfl ?_
                        refine g_aloadG hx dL_sky_486 (nx := 488) rfl rfl ?_
                        refine g_callS_M hx [_, _, _, _, _, _] (k' := k9 + 7) (n' := s9 + 45) dL_sky_488 (nx := 491) rfl lk_L_149 rfl (Nat.le_of_ble_eq_true rfl) (Nat.le_of_ble_eq_true rfl) (Nat.le_of_ble_eq_true rfl) (by show k9 + 0 + 7 ≤ k9 + 7; omega) (by show s9 + 0 + 45 ≤ s9 + 45; omega) (by omega) (by omega) (s_L_others hst hK.C hn0 (by omega) hK.A.1 hK.A.2.2.1 hK.A.2.2.2 hc.1 hc.2.1 hK.z hK.g hK.h (by omega) (by omega) (fun I2 L2 e1 e2 => ?_) (fun S2 I2 L2 R2 hW => ?_))
                        · have hK2 := sK_x hK hn0 e1 e2
                          refine g_if_eqN hx dL_sky_491 (tg := 498) (by decide) (nx := 494) rfl (by omega) (fun c491 => ?_) (fun c491 => ?_)
                          · exact absurd c491 (by decide)
                          · refine g_iconst hx dL_sky_494 (nx := 495) rfl (v := nI 1) (by decide) ?_
                            refine g_goto hx dL_sky_495 (tg := 499) (by decide) ?_
                            refine g_istore_7 hx dL_sky_499 (nx := 501) rfl (by decide) rfl ?_
                            refine g_goto hx dL_sky_501 (tg := 544) (by decide) ?_
                            refine aG.widen (k' := k9 + 20) (n' := s9 + 640) (by omega) (by omega) (sky_tail hx hst hk9 hs9 hat hj hK2 hn0 (by omega) (by omega) (fun a a1 a2 => hfree a (by omega) a2) (y := y) (zz := zz) (by omega) (by omega) go)
                        · have hK2 := sK_grew hK hn0 hW
                          refine g_if_eqN hx dL_sky_491 (tg := 498) (by decide) (nx := 494) rfl (by omega) (fun c491 => ?_) (fun c491 => ?_)
                          · exact absurd c491 (by decide)
                          · refine g_iconst hx dL_sky_494 (nx := 495) rfl (v := nI 1) (by decide) ?_
                            refine g_goto hx dL_sky_495 (tg := 499) (by decide) ?_
                            refine g_istore_7 hx dL_sky_499 (nx := 501) rfl (by decide) rfl ?_
                            refine g_goto hx dL_sky_501 (tg := 544) (by decide) ?_
                            refine aG.widen (k' := k9 + 20) (n' := s9 + 640) (by omega) (by omega) (sky_tail hx hst hk9 hs9 hat hj hK2 hn0 (by omega) (by omega) (fun a a1 a2 => by rw [hW.2.1 a (by have := hW.2.2.2.2.2.2; omega)]; exact hfree a (by omega) a2) (y := y) (zz := zz) (by omega) (by omega) go)
                  · refine g_aloadG_n hx dL_sky_426 rfl (nx := 427) rfl rfl ?_
                    refine g_iconst hx dL_sky_427 (nx := 428) rfl (v := nI 5) (by decide) ?_
                    refine g_dup2i hx dL_sky_428 (nx := 429) rfl rfl rfl ?_
                    refine g_ialoadN hx dL_sky_429 (nx := 430) rfl hK.A.1 (by decide) (by omega) (by decide) (v := nI c5) (hc.2.2.2.2.2) ?_
                    refine g_iconst hx dL_sky_430 (nx := 431) rfl (v := nI 1) (by decide) ?_
                    refine g_iaddN hx dL_sky_431 (nx := 432) rfl  ?_
                    refine g_iastoreN hx dL_sky_432 (nx := 433) rfl hK.A.1 (by decide) (by omega) (by decide) ?_
                    have hK1 := sK_s (I' := (au2 I 11 5 (nI (c5 + 1)))) (c5' := c5 + 1) (o := oI I 0) hK hn0 (hK.C.I (au2_n (by omega)) (au2_n (by omega))) hK.A (fun a k a1 a2 a3 a4 a5 a6 a7 a8 => au2_n (by omega)) (fun a k a1 => rfl) ⟨(by rw [au2_n (by omega)]; exact hc.1), (by rw [au2_n (by omega)]; exact hc.2.1), (by rw [au2_n (by omega)]; exact hc.2.2.1), (by rw [au2_n (by omega)]; exact hc.2.2.2.1), (by rw [au2_n (by omega)]; exact hc.2.2.2.2.1), au2_s _ _ _ _⟩ ⟨(by rw [au2_n (by omega)]; exact hK.t.1), hK.t.2⟩ (mK_e hK.m (fun k => au2_n (by omega))) (lF_c hK.f (fun a k ha => au2_n (by omega))) (by rw [au2_n (by omega)]; exact (hK.oo 0 hn0).1) (hK.oo 0 hn0).2
                    refine g_aloadG_n hx dL_sky_433 rfl (nx := 434) rfl rfl ?_
                    refine g_iconst hx dL_sky_434 (nx := 435) rfl (v := nI 5) (by decide) ?_
                    refine g_ialoadN hx dL_sky_435 (nx := 436) rfl hK.A.1 (by decide) (by omega) (by decide) (v := nI (c5 + 1)) (au2_s _ _ _ _) ?_
                    refine g_bipush hx dL_sky_436 (nx := 438) rfl (v := nI 16) (by decide) ?_
                    refine g_icmp_gtN hx dL_sky_438 (tg := 455) (by decide) (nx := 441) rfl (by omega) (by omega) (fun c438 => ?_) (fun c438 => ?_)
                    · refine g_iconst hx dL_sky_455 (nx := 456) rfl (v := nI 1) (by decide) ?_
                      refine g_goto hx dL_sky_456 (tg := 460) (by decide) ?_
                      refine g_istore_7 hx dL_sky_460 (nx := 462) rfl (by decide) rfl ?_
                      refine g_goto hx dL_sky_462 (tg := 544) (by decide) ?_
                      refine aG.widen (k' := k9 + 20) (n' := s9 + 640) (by omega) (by omega) (sky_tail hx hst hk9 hs9 hat hj hK1 hn0 (by omega) (by omega) (fun a a1 a2 => hfree a (by omega) a2) (y := y) (zz := zz) (by omega) (by omega) go)
                    · refine g_aloadG_n hx dL_sky_441 rfl (nx := 442) rfl rfl ?_
                      refine g_iloadG hx dL_sky_442 (nx := 444) rfl rfl ?_
                      refine g_aloadG_n hx dL_sky_444 rfl (nx := 445) rfl rfl ?_
                      refine g_aloadG hx dL_sky_445 (nx := 447) rfl rfl ?_
                      refine g_aloadG hx dL_sky_447 (nx := 449) rfl rfl ?_
                      refine g_callS_M hx [_, _, _, _, _] (k' := k9 + 14) (n' := s9 + 90) dL_sky_449 (nx := 452) rfl lk_L_145 rfl (Nat.le_of_ble_eq_true rfl) (Nat.le_of_ble_eq_true rfl) (Nat.le_of_ble_eq_true rfl) (by show k9 + 0 + 14 ≤ k9 + 14; omega) (by show s9 + 0 + 90 ≤ s9 + 90; omega) (by omega) (by omega) (s_L_tones hst hK1.C hn0 hK1.A.1 hK1.A.2.2.1 hK1.A.2.2.2 hK1.c.1 hK1.c.2.1 hK1.si hK1.oo hK1.g hK1.h (by omega) (fun I2 L2 e1 e2 => ?_) (fun S2 I2 L2 R2 hW => ?_))
                      · have hK2 := sK_x hK1 hn0 e1 e2
                        refine g_if_eqN hx dL_sky_452 (tg := 459) (by decide) (nx := 455) rfl (by omega) (fun c452 => ?_) (fun c452 => ?_)
                        · exact absurd c452 (by decide)
                        · refine g_iconst hx dL_sky_455 (nx := 456) rfl (v := nI 1) (by decide) ?_
                          refine g_goto hx dL_sky_456 (tg := 460) (by decide) ?_
                          refine g_istore_7 hx dL_sky_460 (nx := 462) rfl (by decide) rfl ?_
                          refine g_goto hx dL_sky_462 (tg := 544) (by decide) ?_
                          refine aG.widen (k' := k9 + 20) (n' := s9 + 640) (by omega) (by omega) (sky_tail hx hst hk9 hs9 hat hj hK2 hn0 (by omega) (by omega) (fun a a1 a2 => hfree a (by omega) a2) (y := y) (zz := zz) (by omega) (by omega) go)
                      · have hK2 := sK_grew hK1 hn0 hW
                        refine g_if_eqN hx dL_sky_452 (tg := 459) (by decide) (nx := 455) rfl (by omega) (fun c452 => ?_) (fun c452 => ?_)
                        · exact absurd c452 (by decide)
                        · refine g_iconst hx dL_sky_455 (nx := 456) rfl (v := nI 1) (by decide) ?_
                          refine g_goto hx dL_sky_456 (tg := 460) (by decide) ?_
                          refine g_istore_7 hx dL_sky_460 (nx := 462) rfl (by decide) rfl ?_
                          refine g_goto hx dL_sky_462 (tg := 544) (by decide) ?_
                          refine aG.widen (k' := k9 + 20) (n' := s9 + 640) (by omega) (by omega) (sky_tail hx hst hk9 hs9 hat hj hK2 hn0 (by omega) (by omega) (fun a a1 a2 => by rw [hW.2.1 a (by have := hW.2.2.2.2.2.2; omega)]; exact hfree a (by omega) a2) (y := y) (zz := zz) (by omega) (by omega) go)
                · refine g_aloadG_n hx dL_sky_350 rfl (nx := 351) rfl rfl ?_
                  refine g_iconst hx dL_sky_351 (nx := 352) rfl (v := nI 1) (by decide) ?_
                  refine g_iconst hx dL_sky_352 (nx := 353) rfl (v := nI 0) (by decide) ?_
                  refine g_iconst hx dL_sky_353 (nx := 354) rfl (v := nI 1) (by decide) ?_
                  refine g_iloadG hx dL_sky_354 (nx := 356) rfl rfl ?_
                  refine g_bipush hx dL_sky_356 (nx := 358) rfl (v := nI 31) (by decide) ?_
                  refine g_iremN hx dL_sky_358 (nx := 359) rfl (by omega) (by omega) (by omega) ?_
                  refine g_iaddN hx dL_sky_359 (nx := 360) rfl  ?_
                  refine g_iconst hx dL_sky_360 (nx := 361) rfl (v := nI 0) (by decide) ?_
                  refine g_callW hx [_, _, _, _, _] (k' := k9 + 7) (n' := s9 + 45) dL_sky_361 (nx := 364) rfl lk_L_95 rfl (Nat.le_of_ble_eq_true rfl) (Nat.le_of_ble_eq_true rfl) (Nat.le_of_ble_eq_true rfl) (by show k9 + 0 + 7 ≤ k9 + 7; omega) (by show s9 + 0 + 45 ≤ s9 + 45; omega) (by omega) (by omega) (s_asks_takeOut (k := 0) hst hK.C hK.oo hn0 (by omega) (by omega) (fun e9 => ?_) (fun e9 => ?_))
                  · refine g_lstore_13 hx dL_sky_364 (nx := 366) rfl (by decide) rfl ?_
                    refine g_lloadG hx dL_sky_366 (nx := 368) rfl rfl ?_
                    refine g_ldc2 hx dL_sky_368 (nx := 371) rfl kl_L_52 ?_
                    refine g_lc_ne hx dL_sky_371 (p2 := 372) rfl dL_sky_372 (tg := 393) (by decide) (nx := 375) rfl (fun c371 => ?_) (fun c371 => ?_)
                    · exact absurd rfl c371
                    · refine g_aloadG_n hx dL_sky_375 rfl (nx := 376) rfl rfl ?_
                      refine g_iconst hx dL_sky_376 (nx := 377) rfl (v := nI 0) (by decide) ?_
                      refine g_callV_M hx [_] (k' := k9 + 7) (n' := s9 + 45) dL_sky_377 (nx := 380) rfl lk_L_71 (hK.C.1.1 0 _ rfl) (by decide) rfl rfl (Nat.le_of_ble_eq_true rfl) (Nat.le_of_ble_eq_true rfl) (Nat.le_of_ble_eq_true rfl) (by show k9 + 7 + 0 ≤ k9 + 7; omega) (by show s9 + 45 + 0 ≤ s9 + 45; omega) (by omega) (by omega) (s_X3_putBackk (k := 0) hst hK.C hn0 ?_)
                      rw [show I (200 + 8 * 0) 13 = nI 6 from by rw [(hK.oo 0 hn0).1, e9]]
                      have hK1 := sK_s (I' := (au2 I 200 13 0)) (o := 0) hK hn0 (hK.C.I (by rw [au2_n (by omega)]) (by rw [au2_n (by omega)])) hK.A (fun a k a1 a2 a3 a4 a5 a6 a7 a8 => au2_n a8) (fun a k a1 => rfl) (cN6_e hc (fun k => au2_n (by omega))) ⟨(by rw [au2_n (by omega)]; exact hK.t.1), hK.t.2⟩ (mK_e hK.m (fun k => au2_n (by omega))) (lF_c hK.f (fun a k ha => au2_n (by omega))) (au2_s _ _ _ _) (by decide)
                      refine g_bipush hx dL_sky_380 (nx := 382) rfl (v := nI 6) (by decide) ?_
                      refine g_icmp_neN hx dL_sky_382 (tg := 389) (by decide) (nx := 385) rfl (by omega) (by omega) (fun c382 => ?_) (fun c382 => ?_)
                      · exact absurd c382 (by omega)
                      · refine g_iconst hx dL_sky_385 (nx := 386) rfl (v := nI 1) (by decide) ?_
                        refine g_goto hx dL_sky_386 (tg := 414) (by decide) ?_
                        refine g_istore_7 hx dL_sky_414 (nx := 416) rfl (by decide) rfl ?_
                        refine g_goto hx dL_sky_416 (tg := 544) (by decide) ?_
                        refine aG.widen (k' := k9 + 20) (n' := s9 + 640) (by omega) (by omega) (sky_tail hx hst hk9 hs9 hat hj hK1 hn0 (by omega) (by omega) (fun a a1 a2 => hfree a (by omega) a2) (y := y) (zz := zz) (by omega) (by omega) go)
                  · have hK1 := sK_s (I' := (au2 (au2 I 206 (oI I 0) (nI (1 + y % 31))) 200 13 (nI (oI I 0 + 1)))) (o := oI I 0 + 1) hK hn0 (hK.C.I (by rw [au2_n (by omega), au2_n (by omega)]) (by rw [au2_n (by omega), au2_n (by omega)])) hK.A (fun a k a1 a2 a3 a4 a5 a6 a7 a8 => by rw [au2_n a8, au2_n (by omega)]) (fun a k a1 => rfl) (cN6_e hc (fun k => by rw [au2_n (by omega), au2_n (by omega)])) ⟨(by rw [au2_n (by omega), au2_n (by omega)]; exact hK.t.1), hK.t.2⟩ (mK_e hK.m (fun k => by rw [au2_n (by omega), au2_n (by omega)])) (lF_c hK.f (fun a k ha => by rw [au2_n (by omega), au2_n (by omega)])) (au2_s _ _ _ _) (by omega)
                    refine g_lstore_13 hx dL_sky_364 (nx := 366) rfl (by decide) rfl ?_
                    refine g_lloadG hx dL_sky_366 (nx := 368) rfl rfl ?_
                    refine g_ldc2 hx dL_sky_368 (nx := 371) rfl kl_L_52 ?_
                    refine g_lc_ne hx dL_sky_371 (p2 := 372) rfl dL_sky_372 (tg := 393) (by decide) (nx := 375) rfl (fun c371 => ?_) (fun c371 => ?_)
                    · refine g_lloadG hx dL_sky_393 (nx := 395) rfl rfl ?_
                      refine g_lconst hx dL_sky_395 (nx := 396) rfl (v := lN 0) (by decide) ?_
                      refine g_lc_le hx dL_sky_396 (p2 := 397) rfl dL_sky_397 (tg := 413) (by decide) (nx := 400) rfl (fun c396 => ?_) (fun c396 => ?_)
                      · exact absurd ((lN_le (by omega) (by decide)).mp c396) (by omega)
                      · refine g_lloadG hx dL_sky_400 (nx := 402) rfl rfl ?_
                        refine g_ldc2 hx dL_sky_402 (nx := 405) rfl kl_L_143 ?_
                        refine g_lc_ge hx dL_sky_405 (p2 := 406) rfl dL_sky_406 (tg := 413) (by decide) (nx := 409) rfl (fun c405 => ?_) (fun c405 => ?_)
                        · refine absurd ?_ (Nat.not_le.mpr (show oI I 0 + 1 < 7 by omega))
                          exact (lN_le (by decide) (by omega)).mp c405
                        · refine g_iconst hx dL_sky_409 (nx := 410) rfl (v := nI 1) (by decide) ?_
                          refine g_goto hx dL_sky_410 (tg := 414) (by decide) ?_
                          refine g_istore_7 hx dL_sky_414 (nx := 416) rfl (by decide) rfl ?_
                          refine g_goto hx dL_sky_416 (tg := 544) (by decide) ?_
                          refine aG.widen (k' := k9 + 20) (n' := s9 + 640) (by omega) (by omega) (sky_tail hx hst hk9 hs9 hat hj hK1 hn0 (by omega) (by omega) (fun a a1 a2 => hfree a (by omega) a2) (y := y) (zz := zz) (by omega) (by omega) go)
                    · exact absurd (congrArg Int64.toInt c371) (by rw [lN_toInt (by omega), show (-70008 : Int64).toInt = -70008 from by decide]; omega)
              · refine g_aloadG_n hx dL_sky_306 rfl (nx := 307) rfl rfl ?_
                refine g_iconst hx dL_sky_307 (nx := 308) rfl (v := nI 2) (by decide) ?_
                refine g_ialoadN hx dL_sky_308 (nx := 309) rfl hK.A.1 (by decide) (by omega) (by decide) (v := nI th) (hc.2.2.1) ?_
                refine g_istore_13 hx dL_sky_309 (nx := 311) rfl (by decide) rfl ?_
                refine g_aloadG_n hx dL_sky_311 rfl (nx := 312) rfl rfl ?_
                refine g_iconst hx dL_sky_312 (nx := 313) rfl (v := nI 2) (by decide) ?_
                refine g_iconst hx dL_sky_313 (nx := 314) rfl (v := nI 1) (by decide) ?_
                refine g_iloadG hx dL_sky_314 (nx := 316) rfl rfl ?_
                refine g_ldc hx dL_sky_316 (nx := 318) rfl (v := nI 2000000) kc_L_139 ?_
                refine g_iremN hx dL_sky_318 (nx := 319) rfl (by omega) (by omega) (by omega) ?_
                refine g_iaddN hx dL_sky_319 (nx := 320) rfl  ?_
                refine g_iastoreN hx dL_sky_320 (nx := 321) rfl hK.A.1 (by decide) (by omega) (by decide) ?_
                refine g_aloadG_n hx dL_sky_321 rfl (nx := 322) rfl rfl ?_
                refine g_aloadG_n hx dL_sky_322 rfl (nx := 323) rfl rfl ?_
                refine g_iconst hx dL_sky_323 (nx := 324) rfl (v := nI 2) (by decide) ?_
                refine g_ialoadN hx dL_sky_324 (nx := 325) rfl hK.A.1 (by decide) (by omega) (by decide) (v := nI (1 + y % 2000000)) (au2_s _ _ _ _) ?_
                refine g_callV_M hx [_] (k' := k9 + 0) (n' := s9 + 0) dL_sky_325 (nx := 328) rfl lk_L_140 (hK.C.1.1 0 _ rfl) (by decide) rfl rfl (Nat.le_of_ble_eq_true rfl) (Nat.le_of_ble_eq_true rfl) (Nat.le_of_ble_eq_true rfl) (by show k9 + 0 + 0 ≤ k9 + 0; omega) (by show s9 + 0 + 0 ≤ s9 + 0; omega) (by omega) (by omega) (s_X3_thresholdk (n := n) (nc := nc) hst (hK.C.I (au2_n (by omega)) (au2_n (by omega))) (by omega) (by omega) ?_)
                rw [show au2 I 11 2 (nI (1 + y % 2000000)) 3 4 = nI th from by rw [au2_n (by omega)]; exact hK.t.1]
                have hK1 := sK_s (I' := (au2 (au2 I 11 2 (nI (1 + y % 2000000))) 3 4 (nI (1 + y % 2000000)))) (th' := 1 + y % 2000000) (o := oI I 0) hK hn0 (hK.C.I (by rw [au2_n (by omega), au2_n (by omega)]) (by rw [au2_n (by omega), au2_n (by omega)])) hK.A (fun a k a1 a2 a3 a4 a5 a6 a7 a8 => by rw [au2_n (by omega), au2_n (by omega)]) (fun a k a1 => rfl) ⟨(by rw [au2_n (by omega), au2_n (by omega)]; exact hc.1), (by rw [au2_n (by omega), au2_n (by omega)]; exact hc.2.1), (by rw [au2_n (by omega), au2_s]), (by rw [au2_n (by omega), au2_n (by omega)]; exact hc.2.2.2.1), (by rw [au2_n (by omega), au2_n (by omega)]; exact hc.2.2.2.2.1), (by rw [au2_n (by omega), au2_n (by omega)]; exact hc.2.2.2.2.2)⟩ ⟨au2_s _ _ _ _, by omega, by omega⟩ (mK_e hK.m (fun k => by rw [au2_n (by omega), au2_n (by omega)])) (lF_c hK.f (fun a k ha => by rw [au2_n (by omega), au2_n (by omega)])) (by rw [au2_n (by omega), au2_n (by omega)]; exact (hK.oo 0 hn0).1) (hK.oo 0 hn0).2
                refine g_iloadG hx dL_sky_328 (nx := 330) rfl rfl ?_
                refine g_icmp_neN hx dL_sky_330 (tg := 337) (by decide) (nx := 333) rfl (by omega) (by omega) (fun c330 => ?_) (fun c330 => ?_)
                · exact absurd c330 (by omega)
                · refine g_iconst hx dL_sky_333 (nx := 334) rfl (v := nI 1) (by decide) ?_
                  refine g_goto hx dL_sky_334 (tg := 338) (by decide) ?_
                  refine g_istore_7 hx dL_sky_338 (nx := 340) rfl (by decide) rfl ?_
                  refine g_goto hx dL_sky_340 (tg := 544) (by decide) ?_
                  refine aG.widen (k' := k9 + 20) (n' := s9 + 640) (by omega) (by omega) (sky_tail hx hst hk9 hs9 hat hj hK1 hn0 (by omega) (by omega) (fun a a1 a2 => hfree a (by omega) a2) (y := y) (zz := zz) (by omega) (by omega) go)
            · refine g_iloadG hx dL_sky_205 (nx := 207) rfl rfl ?_
              refine g_iconst hx dL_sky_207 (nx := 208) rfl (v := nI 4) (by decide) ?_
              refine g_iremN hx dL_sky_208 (nx := 209) rfl (by omega) (by omega) (by omega) ?_
              obtain ⟨si, hsi⟩ : ∃ k, k = zz % 4 := ⟨_, rfl⟩
              have hsi4 : si < 4 := by omega
              rw [← hsi]
              have hcl := clr_e hK.m.1 hsi4
              have hse := set_e hK.m.1 hsi4
              refine g_istore_13 hx dL_sky_209 (nx := 211) rfl (by decide) rfl ?_
              refine g_aloadG_n hx dL_sky_211 rfl (nx := 212) rfl rfl ?_
              refine g_iconst hx dL_sky_212 (nx := 213) rfl (v := nI 3) (by decide) ?_
              refine g_ialoadN hx dL_sky_213 (nx := 214) rfl hK.A.1 (by decide) (by omega) (by decide) (v := nI mk) (hc.2.2.2.1) ?_
              refine g_iloadG hx dL_sky_214 (nx := 216) rfl rfl ?_
              refine g_ishr hx dL_sky_216 (nx := 217) rfl ?_
              refine g_iconst hx dL_sky_217 (nx := 218) rfl (v := nI 1) (by decide) ?_
              refine g_iand hx dL_sky_218 (nx := 219) rfl ?_
              rw [msk (by have := hK.m.1; omega) hsi4]
              refine g_iconst hx dL_sky_219 (nx := 220) rfl (v := nI 1) (by decide) ?_
              refine g_icmp_neN hx dL_sky_220 (tg := 227) (by decide) (nx := 223) rfl (by omega) (by omega) (fun c220 => ?_) (fun c220 => ?_)
              · refine g_iconst hx dL_sky_227 (nx := 228) rfl (v := nI 0) (by decide) ?_
                refine g_istore_14 hx dL_sky_228 (nx := 230) rfl (by decide) rfl ?_
                refine g_aloadG_n hx dL_sky_230 rfl (nx := 231) rfl rfl ?_
                refine g_iconst hx dL_sky_231 (nx := 232) rfl (v := nI 3) (by decide) ?_
                refine g_iloadG hx dL_sky_232 (nx := 234) rfl rfl ?_
                refine g_iconst hx dL_sky_234 (nx := 235) rfl (v := nI 3) (by decide) ?_
                refine g_iremN hx dL_sky_235 (nx := 236) rfl (by omega) (by omega) (by omega) ?_
                refine g_if_leN hx dL_sky_236 (tg := 252) (by decide) (nx := 239) rfl (by omega) (fun c236 => ?_) (fun c236 => ?_)
                · refine g_aloadG_n hx dL_sky_252 rfl (nx := 253) rfl rfl ?_
                  refine g_iconst hx dL_sky_253 (nx := 254) rfl (v := nI 3) (by decide) ?_
                  refine g_ialoadN hx dL_sky_254 (nx := 255) rfl hK.A.1 (by decide) (by omega) (by decide) (v := nI mk) (hc.2.2.2.1) ?_
                  refine g_iconst hx dL_sky_255 (nx := 256) rfl (v := nI 1) (by decide) ?_
                  refine g_iloadG hx dL_sky_256 (nx := 258) rfl rfl ?_
                  refine g_ishl hx dL_sky_258 (nx := 259) rfl ?_
                  refine g_ior hx dL_sky_259 (nx := 260) rfl ?_
                  rw [hse.1]
                  refine g_iastoreN hx dL_sky_260 (nx := 261) rfl hK.A.1 (by decide) (by omega) (by decide) ?_
                  refine g_aloadG_n hx dL_sky_261 rfl (nx := 262) rfl rfl ?_
                  refine g_iloadG hx dL_sky_262 (nx := 264) rfl rfl ?_
                  refine g_aloadG_n hx dL_sky_264 rfl (nx := 265) rfl rfl ?_
                  refine g_iconst hx dL_sky_265 (nx := 266) rfl (v := nI 3) (by decide) ?_
                  refine g_ialoadN hx dL_sky_266 (nx := 267) rfl hK.A.1 (by decide) (by omega) (by decide) (v := nI (set1 mk si)) (au2_s _ _ _ _) ?_
                  refine g_iloadG hx dL_sky_267 (nx := 269) rfl rfl ?_
                  refine g_ishr hx dL_sky_269 (nx := 270) rfl ?_
                  refine g_iconst hx dL_sky_270 (nx := 271) rfl (v := nI 1) (by decide) ?_
                  refine g_iand hx dL_sky_271 (nx := 272) rfl ?_
                  rw [msk (by have := hse.2.1; omega) hsi4, hse.2.2.1]
                  refine g_iconst hx dL_sky_272 (nx := 273) rfl (v := nI 1) (by decide) ?_
                  refine g_icmp_neN hx dL_sky_273 (tg := 280) (by decide) (nx := 276) rfl (by omega) (by omega) (fun c273 => ?_) (fun c273 => ?_)
                  · exact absurd c273 (by decide)
                  · refine g_iconst hx dL_sky_276 (nx := 277) rfl (v := nI 1) (by decide) ?_
                    refine g_goto hx dL_sky_277 (tg := 281) (by decide) ?_
                    refine g_callV_M hx [_, _] (k' := k9 + 0) (n' := s9 + 0) dL_sky_281 (nx := 284) rfl lk_L_135 (hK.C.1.1 0 _ rfl) (by decide) rfl rfl (Nat.le_of_ble_eq_true rfl) (Nat.le_of_ble_eq_true rfl) (Nat.le_of_ble_eq_true rfl) (by show k9 + 0 + 0 ≤ k9 + 0; omega) (by show s9 + 0 + 0 ≤ s9 + 0; omega) (by omega) (by omega) (s_X3_maskk (n := n) (nc := nc) hst (hK.C.I (au2_n (by omega)) (au2_n (by omega))) hsi4 (by first | rfl | decide) (nar01 (b := mk / 2 ^ si % 2) (by rw [au2_n (by omega)]; exact hK.m.2 si hsi4) (by omega)) ?_)
                    have hm5 : (au2 I 11 3 (nI (set1 mk si))) 5 si = nI (mk / 2 ^ si % 2) := by rw [au2_n (by omega)]; exact hK.m.2 si hsi4
                    rw [hm5]
                    have hK1 := sK_s (I' := (au2 (au2 I 11 3 (nI (set1 mk si))) 5 si (nI 1))) (mk' := set1 mk si) (o := oI I 0) hK hn0 (hK.C.I (by rw [au2_n (by omega), au2_n (by omega)]) (by rw [au2_n (by omega), au2_n (by omega)])) hK.A (fun a k a1 a2 a3 a4 a5 a6 a7 a8 => by rw [au2_n (by omega), au2_n (by omega)]) (fun a k a1 => rfl) ⟨(by rw [au2_n (by omega), au2_n (by omega)]; exact hc.1), (by rw [au2_n (by omega), au2_n (by omega)]; exact hc.2.1), (by rw [au2_n (by omega), au2_n (by omega)]; exact hc.2.2.1), (by rw [au2_n (by omega), au2_s]), (by rw [au2_n (by omega), au2_n (by omega)]; exact hc.2.2.2.2.1), (by rw [au2_n (by omega), au2_n (by omega)]; exact hc.2.2.2.2.2)⟩ ⟨(by rw [au2_n (by omega), au2_n (by omega)]; exact hK.t.1), hK.t.2⟩ (mK_u hK.m hsi4 hse.2.1 hse.2.2.1 hse.2.2.2 (au2_s _ _ _ _) (fun k hk => by rw [au2_n (by omega), au2_n (by omega)])) (lF_c hK.f (fun a k ha => by rw [au2_n (by omega), au2_n (by omega)])) (by rw [au2_n (by omega), au2_n (by omega)]; exact (hK.oo 0 hn0).1) (hK.oo 0 hn0).2
                    refine g_iloadG hx dL_sky_284 (nx := 286) rfl rfl ?_
                    refine g_icmp_neN hx dL_sky_286 (tg := 293) (by decide) (nx := 289) rfl (by omega) (by omega) (fun c286 => ?_) (fun c286 => ?_)
                    · exact absurd c286 (by omega)
                    · refine g_iconst hx dL_sky_289 (nx := 290) rfl (v := nI 1) (by decide) ?_
                      refine g_goto hx dL_sky_290 (tg := 294) (by decide) ?_
                      refine g_istore_7 hx dL_sky_294 (nx := 296) rfl (by decide) rfl ?_
                      refine g_goto hx dL_sky_296 (tg := 544) (by decide) ?_
                      refine aG.widen (k' := k9 + 20) (n' := s9 + 640) (by omega) (by omega) (sky_tail hx hst hk9 hs9 hat hj hK1 hn0 (by omega) (by omega) (fun a a1 a2 => hfree a (by omega) a2) (y := y) (zz := zz) (by omega) (by omega) go)
                · refine g_aloadG_n hx dL_sky_239 rfl (nx := 240) rfl rfl ?_
                  refine g_iconst hx dL_sky_240 (nx := 241) rfl (v := nI 3) (by decide) ?_
                  refine g_ialoadN hx dL_sky_241 (nx := 242) rfl hK.A.1 (by decide) (by omega) (by decide) (v := nI mk) (hc.2.2.2.1) ?_
                  refine g_iconst hx dL_sky_242 (nx := 243) rfl (v := nI 1) (by decide) ?_
                  refine g_iloadG hx dL_sky_243 (nx := 245) rfl rfl ?_
                  refine g_ishl hx dL_sky_245 (nx := 246) rfl ?_
                  refine g_iconst hx dL_sky_246 (nx := 247) rfl (v := (-1)) (by decide) ?_
                  refine g_ixor hx dL_sky_247 (nx := 248) rfl ?_
                  refine g_iand hx dL_sky_248 (nx := 249) rfl ?_
                  rw [hcl.1]
                  refine g_goto hx dL_sky_249 (tg := 260) (by decide) ?_
                  refine g_iastoreN hx dL_sky_260 (nx := 261) rfl hK.A.1 (by decide) (by omega) (by decide) ?_
                  refine g_aloadG_n hx dL_sky_261 rfl (nx := 262) rfl rfl ?_
                  refine g_iloadG hx dL_sky_262 (nx := 264) rfl rfl ?_
                  refine g_aloadG_n hx dL_sky_264 rfl (nx := 265) rfl rfl ?_
                  refine g_iconst hx dL_sky_265 (nx := 266) rfl (v := nI 3) (by decide) ?_
                  refine g_ialoadN hx dL_sky_266 (nx := 267) rfl hK.A.1 (by decide) (by omega) (by decide) (v := nI (clr mk si)) (au2_s _ _ _ _) ?_
                  refine g_iloadG hx dL_sky_267 (nx := 269) rfl rfl ?_
                  refine g_ishr hx dL_sky_269 (nx := 270) rfl ?_
                  refine g_iconst hx dL_sky_270 (nx := 271) rfl (v := nI 1) (by decide) ?_
                  refine g_iand hx dL_sky_271 (nx := 272) rfl ?_
                  rw [msk (by have := hcl.2.1; omega) hsi4, hcl.2.2.1]
                  refine g_iconst hx dL_sky_272 (nx := 273) rfl (v := nI 1) (by decide) ?_
                  refine g_icmp_neN hx dL_sky_273 (tg := 280) (by decide) (nx := 276) rfl (by omega) (by omega) (fun c273 => ?_) (fun c273 => ?_)
                  · refine g_iconst hx dL_sky_280 (nx := 281) rfl (v := nI 0) (by decide) ?_
                    refine g_callV_M hx [_, _] (k' := k9 + 0) (n' := s9 + 0) dL_sky_281 (nx := 284) rfl lk_L_135 (hK.C.1.1 0 _ rfl) (by decide) rfl rfl (Nat.le_of_ble_eq_true rfl) (Nat.le_of_ble_eq_true rfl) (Nat.le_of_ble_eq_true rfl) (by show k9 + 0 + 0 ≤ k9 + 0; omega) (by show s9 + 0 + 0 ≤ s9 + 0; omega) (by omega) (by omega) (s_X3_maskk (n := n) (nc := nc) hst (hK.C.I (au2_n (by omega)) (au2_n (by omega))) hsi4 (by first | rfl | decide) (nar01 (b := mk / 2 ^ si % 2) (by rw [au2_n (by omega)]; exact hK.m.2 si hsi4) (by omega)) ?_)
                    have hm5 : (au2 I 11 3 (nI (clr mk si))) 5 si = nI (mk / 2 ^ si % 2) := by rw [au2_n (by omega)]; exact hK.m.2 si hsi4
                    rw [hm5]
                    have hK1 := sK_s (I' := (au2 (au2 I 11 3 (nI (clr mk si))) 5 si (nI 0))) (mk' := clr mk si) (o := oI I 0) hK hn0 (hK.C.I (by rw [au2_n (by omega), au2_n (by omega)]) (by rw [au2_n (by omega), au2_n (by omega)])) hK.A (fun a k a1 a2 a3 a4 a5 a6 a7 a8 => by rw [au2_n (by omega), au2_n (by omega)]) (fun a k a1 => rfl) ⟨(by rw [au2_n (by omega), au2_n (by omega)]; exact hc.1), (by rw [au2_n (by omega), au2_n (by omega)]; exact hc.2.1), (by rw [au2_n (by omega), au2_n (by omega)]; exact hc.2.2.1), (by rw [au2_n (by omega), au2_s]), (by rw [au2_n (by omega), au2_n (by omega)]; exact hc.2.2.2.2.1), (by rw [au2_n (by omega), au2_n (by omega)]; exact hc.2.2.2.2.2)⟩ ⟨(by rw [au2_n (by omega), au2_n (by omega)]; exact hK.t.1), hK.t.2⟩ (mK_u hK.m hsi4 hcl.2.1 hcl.2.2.1 hcl.2.2.2 (au2_s _ _ _ _) (fun k hk => by rw [au2_n (by omega), au2_n (by omega)])) (lF_c hK.f (fun a k ha => by rw [au2_n (by omega), au2_n (by omega)])) (by rw [au2_n (by omega), au2_n (by omega)]; exact (hK.oo 0 hn0).1) (hK.oo 0 hn0).2
                    refine g_iloadG hx dL_sky_284 (nx := 286) rfl rfl ?_
                    refine g_icmp_neN hx dL_sky_286 (tg := 293) (by decide) (nx := 289) rfl (by omega) (by omega) (fun c286 => ?_) (fun c286 => ?_)
                    · exact absurd c286 (by omega)
                    · refine g_iconst hx dL_sky_289 (nx := 290) rfl (v := nI 1) (by decide) ?_
                      refine g_goto hx dL_sky_290 (tg := 294) (by decide) ?_
                      refine g_istore_7 hx dL_sky_294 (nx := 296) rfl (by decide) rfl ?_
                      refine g_goto hx dL_sky_296 (tg := 544) (by decide) ?_
                      refine aG.widen (k' := k9 + 20) (n' := s9 + 640) (by omega) (by omega) (sky_tail hx hst hk9 hs9 hat hj hK1 hn0 (by omega) (by omega) (fun a a1 a2 => hfree a (by omega) a2) (y := y) (zz := zz) (by omega) (by omega) go)
                  · exact absurd c273 (by decide)
              · refine g_iconst hx dL_sky_223 (nx := 224) rfl (v := nI 1) (by decide) ?_
                refine g_goto hx dL_sky_224 (tg := 228) (by decide) ?_
                refine g_istore_14 hx dL_sky_228 (nx := 230) rfl (by decide) rfl ?_
                refine g_aloadG_n hx dL_sky_230 rfl (nx := 231) rfl rfl ?_
                refine g_iconst hx dL_sky_231 (nx := 232) rfl (v := nI 3) (by decide) ?_
                refine g_iloadG hx dL_sky_232 (nx := 234) rfl rfl ?_
                refine g_iconst hx dL_sky_234 (nx := 235) rfl (v := nI 3) (by decide) ?_
                refine g_iremN hx dL_sky_235 (nx := 236) rfl (by omega) (by omega) (by omega) ?_
                refine g_if_leN hx dL_sky_236 (tg := 252) (by decide) (nx := 239) rfl (by omega) (fun c236 => ?_) (fun c236 => ?_)
                · refine g_aloadG_n hx dL_sky_252 rfl (nx := 253) rfl rfl ?_
                  refine g_iconst hx dL_sky_253 (nx := 254) rfl (v := nI 3) (by decide) ?_
                  refine g_ialoadN hx dL_sky_254 (nx := 255) rfl hK.A.1 (by decide) (by omega) (by decide) (v := nI mk) (hc.2.2.2.1) ?_
                  refine g_iconst hx dL_sky_255 (nx := 256) rfl (v := nI 1) (by decide) ?_
                  refine g_iloadG hx dL_sky_256 (nx := 258) rfl rfl ?_
                  refine g_ishl hx dL_sky_258 (nx := 259) rfl ?_
                  refine g_ior hx dL_sky_259 (nx := 260) rfl ?_
                  rw [hse.1]
                  refine g_iastoreN hx dL_sky_260 (nx := 261) rfl hK.A.1 (by decide) (by omega) (by decide) ?_
                  refine g_aloadG_n hx dL_sky_261 rfl (nx := 262) rfl rfl ?_
                  refine g_iloadG hx dL_sky_262 (nx := 264) rfl rfl ?_
                  refine g_aloadG_n hx dL_sky_264 rfl (nx := 265) rfl rfl ?_
                  refine g_iconst hx dL_sky_265 (nx := 266) rfl (v := nI 3) (by decide) ?_
                  refine g_ialoadN hx dL_sky_266 (nx := 267) rfl hK.A.1 (by decide) (by omega) (by decide) (v := nI (set1 mk si)) (au2_s _ _ _ _) ?_
                  refine g_iloadG hx dL_sky_267 (nx := 269) rfl rfl ?_
                  refine g_ishr hx dL_sky_269 (nx := 270) rfl ?_
                  refine g_iconst hx dL_sky_270 (nx := 271) rfl (v := nI 1) (by decide) ?_
                  refine g_iand hx dL_sky_271 (nx := 272) rfl ?_
                  rw [msk (by have := hse.2.1; omega) hsi4, hse.2.2.1]
                  refine g_iconst hx dL_sky_272 (nx := 273) rfl (v := nI 1) (by decide) ?_
                  refine g_icmp_neN hx dL_sky_273 (tg := 280) (by decide) (nx := 276) rfl (by omega) (by omega) (fun c273 => ?_) (fun c273 => ?_)
                  · exact absurd c273 (by decide)
                  · refine g_iconst hx dL_sky_276 (nx := 277) rfl (v := nI 1) (by decide) ?_
                    refine g_goto hx dL_sky_277 (tg := 281) (by decide) ?_
                    refine g_callV_M hx [_, _] (k' := k9 + 0) (n' := s9 + 0) dL_sky_281 (nx := 284) rfl lk_L_135 (hK.C.1.1 0 _ rfl) (by decide) rfl rfl (Nat.le_of_ble_eq_true rfl) (Nat.le_of_ble_eq_true rfl) (Nat.le_of_ble_eq_true rfl) (by show k9 + 0 + 0 ≤ k9 + 0; omega) (by show s9 + 0 + 0 ≤ s9 + 0; omega) (by omega) (by omega) (s_X3_maskk (n := n) (nc := nc) hst (hK.C.I (au2_n (by omega)) (au2_n (by omega))) hsi4 (by first | rfl | decide) (nar01 (b := mk / 2 ^ si % 2) (by rw [au2_n (by omega)]; exact hK.m.2 si hsi4) (by omega)) ?_)
                    have hm5 : (au2 I 11 3 (nI (set1 mk si))) 5 si = nI (mk / 2 ^ si % 2) := by rw [au2_n (by omega)]; exact hK.m.2 si hsi4
                    rw [hm5]
                    have hK1 := sK_s (I' := (au2 (au2 I 11 3 (nI (set1 mk si))) 5 si (nI 1))) (mk' := set1 mk si) (o := oI I 0) hK hn0 (hK.C.I (by rw [au2_n (by omega), au2_n (by omega)]) (by rw [au2_n (by omega), au2_n (by omega)])) hK.A (fun a k a1 a2 a3 a4 a5 a6 a7 a8 => by rw [au2_n (by omega), au2_n (by omega)]) (fun a k a1 => rfl) ⟨(by rw [au2_n (by omega), au2_n (by omega)]; exact hc.1), (by rw [au2_n (by omega), au2_n (by omega)]; exact hc.2.1), (by rw [au2_n (by omega), au2_n (by omega)]; exact hc.2.2.1), (by rw [au2_n (by omega), au2_s]), (by rw [au2_n (by omega), au2_n (by omega)]; exact hc.2.2.2.2.1), (by rw [au2_n (by omega), au2_n (by omega)]; exact hc.2.2.2.2.2)⟩ ⟨(by rw [au2_n (by omega), au2_n (by omega)]; exact hK.t.1), hK.t.2⟩ (mK_u hK.m hsi4 hse.2.1 hse.2.2.1 hse.2.2.2 (au2_s _ _ _ _) (fun k hk => by rw [au2_n (by omega), au2_n (by omega)])) (lF_c hK.f (fun a k ha => by rw [au2_n (by omega), au2_n (by omega)])) (by rw [au2_n (by omega), au2_n (by omega)]; exact (hK.oo 0 hn0).1) (hK.oo 0 hn0).2
                    refine g_iloadG hx dL_sky_284 (nx := 286) rfl rfl ?_
                    refine g_icmp_neN hx dL_sky_286 (tg := 293) (by decide) (nx := 289) rfl (by omega) (by omega) (fun c286 => ?_) (fun c286 => ?_)
                    · exact absurd c286 (by omega)
                    · refine g_iconst hx dL_sky_289 (nx := 290) rfl (v := nI 1) (by decide) ?_
                      refine g_goto hx dL_sky_290 (tg := 294) (by decide) ?_
                      refine g_istore_7 hx dL_sky_294 (nx := 296) rfl (by decide) rfl ?_
                      refine g_goto hx dL_sky_296 (tg := 544) (by decide) ?_
                      refine aG.widen (k' := k9 + 20) (n' := s9 + 640) (by omega) (by omega) (sky_tail hx hst hk9 hs9 hat hj hK1 hn0 (by omega) (by omega) (fun a a1 a2 => hfree a (by omega) a2) (y := y) (zz := zz) (by omega) (by omega) go)
                · refine g_aloadG_n hx dL_sky_239 rfl (nx := 240) rfl rfl ?_
                  refine g_iconst hx dL_sky_240 (nx := 241) rfl (v := nI 3) (by decide) ?_
                  refine g_ialoadN hx dL_sky_241 (nx := 242) rfl hK.A.1 (by decide) (by omega) (by decide) (v := nI mk) (hc.2.2.2.1) ?_
                  refine g_iconst hx dL_sky_242 (nx := 243) rfl (v := nI 1) (by decide) ?_
                  refine g_iloadG hx dL_sky_243 (nx := 245) rfl rfl ?_
                  refine g_ishl hx dL_sky_245 (nx := 246) rfl ?_
                  refine g_iconst hx dL_sky_246 (nx := 247) rfl (v := (-1)) (by decide) ?_
                  refine g_ixor hx dL_sky_247 (nx := 248) rfl ?_
                  refine g_iand hx dL_sky_248 (nx := 249) rfl ?_
                  rw [hcl.1]
                  refine g_goto hx dL_sky_249 (tg := 260) (by decide) ?_
                  refine g_iastoreN hx dL_sky_260 (nx := 261) rfl hK.A.1 (by decide) (by omega) (by decide) ?_
                  refine g_aloadG_n hx dL_sky_261 rfl (nx := 262) rfl rfl ?_
                  refine g_iloadG hx dL_sky_262 (nx := 264) rfl rfl ?_
                  refine g_aloadG_n hx dL_sky_264 rfl (nx := 265) rfl rfl ?_
                  refine g_iconst hx dL_sky_265 (nx := 266) rfl (v := nI 3) (by decide) ?_
                  refine g_ialoadN hx dL_sky_266 (nx := 267) rfl hK.A.1 (by decide) (by omega) (by decide) (v := nI (clr mk si)) (au2_s _ _ _ _) ?_
                  refine g_iloadG hx dL_sky_267 (nx := 269) rfl rfl ?_
                  refine g_ishr hx dL_sky_269 (nx := 270) rfl ?_
                  refine g_iconst hx dL_sky_270 (nx := 271) rfl (v := nI 1) (by decide) ?_
                  refine g_iand hx dL_sky_271 (nx := 272) rfl ?_
                  rw [msk (by have := hcl.2.1; omega) hsi4, hcl.2.2.1]
                  refine g_iconst hx dL_sky_272 (nx := 273) rfl (v := nI 1) (by decide) ?_
                  refine g_icmp_neN hx dL_sky_273 (tg := 280) (by decide) (nx := 276) rfl (by omega) (by omega) (fun c273 => ?_) (fun c273 => ?_)
                  · refine g_iconst hx dL_sky_280 (nx := 281) rfl (v := nI 0) (by decide) ?_
                    refine g_callV_M hx [_, _] (k' := k9 + 0) (n' := s9 + 0) dL_sky_281 (nx := 284) rfl lk_L_135 (hK.C.1.1 0 _ rfl) (by decide) rfl rfl (Nat.le_of_ble_eq_true rfl) (Nat.le_of_ble_eq_true rfl) (Nat.le_of_ble_eq_true rfl) (by show k9 + 0 + 0 ≤ k9 + 0; omega) (by show s9 + 0 + 0 ≤ s9 + 0; omega) (by omega) (by omega) (s_X3_maskk (n := n) (nc := nc) hst (hK.C.I (au2_n (by omega)) (au2_n (by omega))) hsi4 (by first | rfl | decide) (nar01 (b := mk / 2 ^ si % 2) (by rw [au2_n (by omega)]; exact hK.m.2 si hsi4) (by omega)) ?_)
                    have hm5 : (au2 I 11 3 (nI (clr mk si))) 5 si = nI (mk / 2 ^ si % 2) := by rw [au2_n (by omega)]; exact hK.m.2 si hsi4
                    rw [hm5]
                    have hK1 := sK_s (I' := (au2 (au2 I 11 3 (nI (clr mk si))) 5 si (nI 0))) (mk' := clr mk si) (o := oI I 0) hK hn0 (hK.C.I (by rw [au2_n (by omega), au2_n (by omega)]) (by rw [au2_n (by omega), au2_n (by omega)])) hK.A (fun a k a1 a2 a3 a4 a5 a6 a7 a8 => by rw [au2_n (by omega), au2_n (by omega)]) (fun a k a1 => rfl) ⟨(by rw [au2_n (by omega), au2_n (by omega)]; exact hc.1), (by rw [au2_n (by omega), au2_n (by omega)]; exact hc.2.1), (by rw [au2_n (by omega), au2_n (by omega)]; exact hc.2.2.1), (by rw [au2_n (by omega), au2_s]), (by rw [au2_n (by omega), au2_n (by omega)]; exact hc.2.2.2.2.1), (by rw [au2_n (by omega), au2_n (by omega)]; exact hc.2.2.2.2.2)⟩ ⟨(by rw [au2_n (by omega), au2_n (by omega)]; exact hK.t.1), hK.t.2⟩ (mK_u hK.m hsi4 hcl.2.1 hcl.2.2.1 hcl.2.2.2 (au2_s _ _ _ _) (fun k hk => by rw [au2_n (by omega), au2_n (by omega)])) (lF_c hK.f (fun a k ha => by rw [au2_n (by omega), au2_n (by omega)])) (by rw [au2_n (by omega), au2_n (by omega)]; exact (hK.oo 0 hn0).1) (hK.oo 0 hn0).2
                    refine g_iloadG hx dL_sky_284 (nx := 286) rfl rfl ?_
                    refine g_icmp_neN hx dL_sky_286 (tg := 293) (by decide) (nx := 289) rfl (by omega) (by omega) (fun c286 => ?_) (fun c286 => ?_)
                    · exact absurd c286 (by omega)
                    · refine g_iconst hx dL_sky_289 (nx := 290) rfl (v := nI 1) (by decide) ?_
                      refine g_goto hx dL_sky_290 (tg := 294) (by decide) ?_
                      refine g_istore_7 hx dL_sky_294 (nx := 296) rfl (by decide) rfl ?_
                      refine g_goto hx dL_sky_296 (tg := 544) (by decide) ?_
                      refine aG.widen (k' := k9 + 20) (n' := s9 + 640) (by omega) (by omega) (sky_tail hx hst hk9 hs9 hat hj hK1 hn0 (by omega) (by omega) (fun a a1 a2 => hfree a (by omega) a2) (y := y) (zz := zz) (by omega) (by omega) go)
                  · exact absurd c273 (by decide)
          · obtain ⟨w9, hw9⟩ : ∃ w, w = 15 + j := ⟨_, rfl⟩
            refine g_iconst hx dL_sky_165 (nx := 166) rfl (v := nI 1) (by decide) ?_
            refine g_newarrayint hx dL_sky_166 (nx := 168) rfl ac_i (by decide) (N := 1) (by decide) (by decide) (q := w9) (hfree w9 (by omega) (by omega)) (by omega) (k' := k9 + 1) (by omega) (n' := s9 + 1) (by omega) (by omega) (by omega) ?_
            refine g_astore_13 hx dL_sky_168 (nx := 170) rfl (by decide) rfl ?_
            refine g_aloadG hx dL_sky_170 (nx := 172) rfl rfl ?_
            refine g_iconst hx dL_sky_172 (nx := 173) rfl (v := nI 0) (by decide) ?_
            refine g_iconst hx dL_sky_173 (nx := 174) rfl (v := nI 1) (by decide) ?_
            refine g_iastoreN hx dL_sky_174 (nx := 175) rfl (au1_s _ _ _) (by omega) (by omega) (by decide) ?_
            have hC1 : lyC (au1 S w9 (some (.inl (.int, 1)))) (azr Rf w9 none) (au2 (azr I w9 0) w9 0 (nI 1)) n nc := lyC_S hK.C (fun a ha => au1_n (by omega)) (fun a k ha => azr_n (by omega)) (by rw [au2_n (by omega), azr_n (by omega)]) (by rw [au2_n (by omega), azr_n (by omega)])
            have hA1 : lyA (au1 S w9 (some (.inl (.int, 1)))) := ⟨by rw [au1_n (by omega)]; exact hK.A.1, by rw [au1_n (by omega)]; exact hK.A.2.1, by rw [au1_n (by omega)]; exact hK.A.2.2.1, by rw [au1_n (by omega)]; exact hK.A.2.2.2⟩
            refine g_aloadG_n hx dL_sky_175 rfl (nx := 176) rfl rfl ?_
            refine g_iloadG hx dL_sky_176 (nx := 178) rfl rfl ?_
            refine g_bipush hx dL_sky_178 (nx := 180) rfl (v := nI 8) (by decide) ?_
            refine g_idivN hx dL_sky_180 (nx := 181) rfl (by omega) (by omega) (by omega) ?_
            refine g_bipush hx dL_sky_181 (nx := 183) rfl (v := nI 8) (by decide) ?_
            refine g_imulN hx dL_sky_183 (nx := 184) rfl  ?_
            refine g_iloadG hx dL_sky_184 (nx := 186) rfl rfl ?_
            refine g_aloadG hx dL_sky_186 (nx := 188) rfl rfl ?_
            refine g_aloadG hx dL_sky_188 (nx := 190) rfl rfl ?_
            refine g_callS_M hx [_, _, _, _, _] (k' := k9 + 15) (n' := s9 + 91) dL_sky_190 (nx := 193) rfl lk_L_132 rfl (Nat.le_of_ble_eq_true rfl) (Nat.le_of_ble_eq_true rfl) (Nat.le_of_ble_eq_true rfl) (by show k9 + 1 + 14 ≤ k9 + 15; omega) (by show s9 + 1 + 90 ≤ s9 + 91; omega) (by omega) (by omega) (s_L_frames (w := w9) hst hC1 hn0 (by rw [au1_n (by omega)]; exact hK.A.2.1) (au1_s _ _ _) (by omega) (au2_s _ _ _ _) (lF_c hK.f (fun a k ha => by rw [au2_n (by omega), azr_n (by omega)])) (by omega) (by omega) (fun I2 q1 q2 => ?_))
            have q3 : ∀ a k, a ≠ 12 → a ≠ 204 → a ≠ 205 → a ≠ w9 → I2 a k = I a k := fun a k a1 a2 a3 a4 => by rw [q1 a k a1 a2 a3, au2_n (by omega), azr_n a4]
            have hK1 := sK_s (S' := (au1 S w9 (some (.inl (.int, 1))))) (L' := azr L w9 0) (R' := (azr Rf w9 none)) (o := oI I 0) hK hn0 (hC1.I (by rw [q1 _ _ (by decide) (by decide) (by decide)]) (by rw [q1 _ _ (by decide) (by decide) (by decide)])) hA1 (fun a k a1 a2 a3 a4 a5 a6 a7 a8 => q3 a k a3 a5 a6 (by omega)) (fun a k a1 => azr_n (by omega)) (cN6_e hc (fun k => q3 _ _ (by omega) (by omega) (by omega) (by omega))) ⟨(q3 _ _ (by omega) (by omega) (by omega) (by omega)).trans hK.t.1, hK.t.2⟩ (mK_e hK.m (fun k => q3 _ _ (by omega) (by omega) (by omega) (by omega))) q2 ((q3 _ _ (by omega) (by omega) (by omega) (by omega)).trans (hK.oo 0 hn0).1) (hK.oo 0 hn0).2
            refine g_istore_7 hx dL_sky_193 (nx := 195) rfl (by decide) rfl ?_
            refine g_goto hx dL_sky_195 (tg := 544) (by decide) ?_
            refine aG.widen (k' := k9 + 20) (n' := s9 + 640) (by omega) (by omega) (sky_tail hx hst hk9 hs9 hat hj hK1 hn0 (by omega) (by omega) (fun a a1 a2 => by rw [au1_n (by omega)]; exact hfree a (by omega) a2) (y := y) (zz := zz) (by omega) (by omega) go)
        · refine g_aloadG_n hx dL_sky_137 rfl (nx := 138) rfl rfl ?_
          refine g_iconst hx dL_sky_138 (nx := 139) rfl (v := nI 0) (by decide) ?_
          refine g_ialoadN hx dL_sky_139 (nx := 140) rfl hK.A.1 (by decide) (by omega) (by decide) (v := nI n) (hc.1) ?_
          refine g_iconst hx dL_sky_140 (nx := 141) rfl (v := nI 4) (by decide) ?_
          refine g_icmp_geN hx dL_sky_141 (tg := 158) (by decide) (nx := 144) rfl (by omega) (by omega) (fun c141 => ?_) (fun c141 => ?_)
          · refine g_iloadG hx dL_sky_158 (nx := 160) rfl rfl ?_
            refine g_bipush hx dL_sky_160 (nx := 162) rfl (v := nI 9) (by decide) ?_
            refine g_icmp_geN hx dL_sky_162 (tg := 198) (by decide) (nx := 165) rfl (by omega) (by omega) (fun c162 => ?_) (fun c162 => ?_)
            · refine g_iloadG hx dL_sky_198 (nx := 200) rfl rfl ?_
              refine g_bipush hx dL_sky_200 (nx := 202) rfl (v := nI 9) (by decide) ?_
              refine g_icmp_neN hx dL_sky_202 (tg := 299) (by decide) (nx := 205) rfl (by omega) (by omega) (fun c202 => ?_) (fun c202 => ?_)
              · refine g_iloadG hx dL_sky_299 (nx := 301) rfl rfl ?_
                refine g_bipush hx dL_sky_301 (nx := 303) rfl (v := nI 10) (by decide) ?_
                refine g_icmp_neN hx dL_sky_303 (tg := 343) (by decide) (nx := 306) rfl (by omega) (by omega) (fun c303 => ?_) (fun c303 => ?_)
                · refine g_iloadG hx dL_sky_343 (nx := 345) rfl rfl ?_
                  refine g_bipush hx dL_sky_345 (nx := 347) rfl (v := nI 13) (by decide) ?_
                  refine g_icmp_geN hx dL_sky_347 (tg := 419) (by decide) (nx := 350) rfl (by omega) (by omega) (fun c347 => ?_) (fun c347 => ?_)
                  · refine g_iloadG hx dL_sky_419 (nx := 421) rfl rfl ?_
                    refine g_bipush hx dL_sky_421 (nx := 423) rfl (v := nI 16) (by decide) ?_
                    refine g_icmp_geN hx dL_sky_423 (tg := 465) (by decide) (nx := 426) rfl (by omega) (by omega) (fun c423 => ?_) (fun c423 => ?_)
                    · refine g_iloadG hx dL_sky_465 (nx := 467) rfl rfl ?_
                      refine g_bipush hx dL_sky_467 (nx := 469) rfl (v := nI 18) (by decide) ?_
                      refine g_icmp_geN hx dL_sky_469 (tg := 504) (by decide) (nx := 472) rfl (by omega) (by omega) (fun c469 => ?_) (fun c469 => ?_)
                      · refine g_aloadG_n hx dL_sky_504 rfl (nx := 505) rfl rfl ?_
                        refine g_iconst hx dL_sky_505 (nx := 506) rfl (v := nI 1) (by decide) ?_
                        refine g_ialoadN hx dL_sky_506 (nx := 507) rfl hK.A.1 (by decide) (by omega) (by decide) (v := nI nc) (hc.2.1) ?_
                        refine g_if_leN hx dL_sky_507 (tg := 544) (by decide) (nx := 510) rfl (by omega) (fun c507 => ?_) (fun c507 => ?_)
                        · refine aG.widen (k' := k9 + 20) (n' := s9 + 640) (by omega) (by omega) (sky_tail hx hst hk9 hs9 hat hj hK hn0 (by omega) (by omega) (fun a a1 a2 => hfree a (by omega) a2) (y := y) (zz := zz) (by omega) (by omega) go)
                        · refine g_aloadG_n hx dL_sky_510 rfl (nx := 511) rfl rfl ?_
                          refine g_iconst hx dL_sky_511 (nx := 512) rfl (v := nI 4) (by decide) ?_
                          refine g_dup2i hx dL_sky_512 (nx := 513) rfl rfl rfl ?_
                          refine g_ialoadN hx dL_sky_513 (nx := 514) rfl hK.A.1 (by decide) (by omega) (by decide) (v := nI c4) (hc.2.2.2.2.1) ?_
                          refine g_iconst hx dL_sky_514 (nx := 515) rfl (v := nI 1) (by decide) ?_
                          refine g_iaddN hx dL_sky_515 (nx := 516) rfl  ?_
                          refine g_iastoreN hx dL_sky_516 (nx := 517) rfl hK.A.1 (by decide) (by omega) (by decide) ?_
                          have hK1 := sK_s (I' := (au2 I 11 4 (nI (c4 + 1)))) (c4' := c4 + 1) (o := oI I 0) hK hn0 (hK.C.I (au2_n (by omega)) (au2_n (by omega))) hK.A (fun a k a1 a2 a3 a4 a5 a6 a7 a8 => au2_n (by omega)) (fun a k a1 => rfl) ⟨(by rw [au2_n (by omega)]; exact hc.1), (by rw [au2_n (by omega)]; exact hc.2.1), (by rw [au2_n (by omega)]; exact hc.2.2.1), (by rw [au2_n (by omega)]; exact hc.2.2.2.1), au2_s _ _ _ _, (by rw [au2_n (by omega)]; exact hc.2.2.2.2.2)⟩ ⟨(by rw [au2_n (by omega)]; exact hK.t.1), hK.t.2⟩ (mK_e hK.m (fun k => au2_n (by omega))) (lF_c hK.f (fun a k ha => au2_n (by omega))) (by rw [au2_n (by omega)]; exact (hK.oo 0 hn0).1) (hK.oo 0 hn0).2
                          refine g_aloadG_n hx dL_sky_517 rfl (nx := 518) rfl rfl ?_
                          refine g_iconst hx dL_sky_518 (nx := 519) rfl (v := nI 4) (by decide) ?_
                          refine g_ialoadN hx dL_sky_519 (nx := 520) rfl hK.A.1 (by decide) (by omega) (by decide) (v := nI (c4 + 1)) (au2_s _ _ _ _) ?_
                          refine g_bipush hx dL_sky_520 (nx := 522) rfl (v := nI 8) (by decide) ?_
                          refine g_icmp_gtN hx dL_sky_522 (tg := 537) (by decide) (nx := 525) rfl (by omega) (by omega) (fun c522 => ?_) (fun c522 => ?_)
                          · refine g_iconst hx dL_sky_537 (nx := 538) rfl (v := nI 1) (by decide) ?_
                            refine g_goto hx dL_sky_538 (tg := 542) (by decide) ?_
                            refine g_istore_7 hx dL_sky_542 (nx := 544) rfl (by decide) rfl ?_
                            refine aG.widen (k' := k9 + 20) (n' := s9 + 640) (by omega) (by omega) (sky_tail hx hst hk9 hs9 hat hj hK1 hn0 (by omega) (by omega) (fun a a1 a2 => hfree a (by omega) a2) (y := y) (zz := zz) (by omega) (by omega) go)
                          · refine g_aloadG_n hx dL_sky_525 rfl (nx := 526) rfl rfl ?_
                            refine g_iloadG hx dL_sky_526 (nx := 528) rfl rfl ?_
                            refine g_aloadG_n hx dL_sky_528 rfl (nx := 529) rfl rfl ?_
                            refine g_aloadG hx dL_sky_529 (nx := 531) rfl rfl ?_
                            refine g_callS_M hx [_, _, _, _] (k' := k9 + 7) (n' := s9 + 45) dL_sky_531 (nx := 534) rfl lk_L_153 rfl (Nat.le_of_ble_eq_true rfl) (Nat.le_of_ble_eq_true rfl) (Nat.le_of_ble_eq_true rfl) (by show k9 + 0 + 7 ≤ k9 + 7; omega) (by show s9 + 0 + 45 ≤ s9 + 45; omega) (by omega) (by omega) (s_L_audits hst hK1.C (by omega) hK1.A.1 hK1.A.2.2.1 hK1.c.2.1 hK1.si hK1.oo hK1.g hK1.h (by omega) (fun I2 L2 e1 e2 e3 => ?_))
                            have hK2 := sK_fell hK1 hn0 e1 e2 e3
                            refine g_if_eqN hx dL_sky_534 (tg := 541) (by decide) (nx := 537) rfl (by omega) (fun c534 => ?_) (fun c534 => ?_)
                            · exact absurd c534 (by decide)
                            · refine g_iconst hx dL_sky_537 (nx := 538) rfl (v := nI 1) (by decide) ?_
                              refine g_goto hx dL_sky_538 (tg := 542) (by decide) ?_
                              refine g_istore_7 hx dL_sky_542 (nx := 544) rfl (by decide) rfl ?_
                              refine aG.widen (k' := k9 + 20) (n' := s9 + 640) (by omega) (by omega) (sky_tail hx hst hk9 hs9 hat hj hK2 hn0 (by omega) (by omega) (fun a a1 a2 => hfree a (by omega) a2) (y := y) (zz := zz) (by omega) (by omega) go)
                      · refine g_aloadG_n hx dL_sky_472 rfl (nx := 473) rfl rfl ?_
                        refine g_iconst hx dL_sky_473 (nx := 474) rfl (v := nI 1) (by decide) ?_
                        refine g_ialoadN hx dL_sky_474 (nx := 475) rfl hK.A.1 (by decide) (by omega) (by decide) (v := nI nc) (hc.2.1) ?_
                        refine g_if_eqN hx dL_sky_475 (tg := 494) (by decide) (nx := 478) rfl (by omega) (fun c475 => ?_) (fun c475 => ?_)
                        · refine g_iconst hx dL_sky_494 (nx := 495) rfl (v := nI 1) (by decide) ?_
                          refine g_goto hx dL_sky_495 (tg := 499) (by decide) ?_
                          refine g_istore_7 hx dL_sky_499 (nx := 501) rfl (by decide) rfl ?_
                          refine g_goto hx dL_sky_501 (tg := 544) (by decide) ?_
                          refine aG.widen (k' := k9 + 20) (n' := s9 + 640) (by omega) (by omega) (sky_tail hx hst hk9 hs9 hat hj hK hn0 (by omega) (by omega) (fun a a1 a2 => hfree a (by omega) a2) (y := y) (zz := zz) (by omega) (by omega) go)
                        · refine g_aloadG_n hx dL_sky_478 rfl (nx := 479) rfl rfl ?_
                          refine g_iloadG hx dL_sky_479 (nx := 481) rfl rfl ?_
                          refine g_iloadG hx dL_sky_481 (nx := 483) rfl rfl ?_
                          refine g_aloadG_n hx dL_sky_483 rfl (nx := 484) rfl rfl ?_
                          refine g_aloadG hx dL_sky_484 (nx := 486) rfl rfl ?_
                          refine g_aloadG hx dL_sky_486 (nx := 488) rfl rfl ?_
                          refine g_callS_M hx [_, _, _, _, _, _] (k' := k9 + 7) (n' := s9 + 45) dL_sky_488 (nx := 491) rfl lk_L_149 rfl (Nat.le_of_ble_eq_true rfl) (Nat.le_of_ble_eq_true rfl) (Nat.le_of_ble_eq_true rfl) (by show k9 + 0 + 7 ≤ k9 + 7; omega) (by show s9 + 0 + 45 ≤ s9 + 45; omega) (by omega) (by omega) (s_L_others hst hK.C hn0 (by omega) hK.A.1 hK.A.2.2.1 hK.A.2.2.2 hc.1 hc.2.1 hK.z hK.g hK.h (by omega) (by omega) (fun I2 L2 e1 e2 => ?_) (fun S2 I2 L2 R2 hW => ?_))
                          · have hK2 := sK_x hK hn0 e1 e2
                            refine g_if_eqN hx dL_sky_491 (tg := 498) (by decide) (nx := 494) rfl (by omega) (fun c491 => ?_) (fun c491 => ?_)
                            · exact absurd c491 (by decide)
                            · refine g_iconst hx dL_sky_494 (nx := 495) rfl (v := nI 1) (by decide) ?_
                              refine g_goto hx dL_sky_495 (tg := 499) (by decide) ?_
                              refine g_istore_7 hx dL_sky_499 (nx := 501) rfl (by decide) rfl ?_
                              refine g_goto hx dL_sky_501 (tg := 544) (by decide) ?_
                              refine aG.widen (k' := k9 + 20) (n' := s9 + 640) (by omega) (by omega) (sky_tail hx hst hk9 hs9 hat hj hK2 hn0 (by omega) (by omega) (fun a a1 a2 => hfree a (by omega) a2) (y := y) (zz := zz) (by omega) (by omega) go)
                          · have hK2 := sK_grew hK hn0 hW
                            refine g_if_eqN hx dL_sky_491 (tg := 498) (by decide) (nx := 494) rfl (by omega) (fun c491 => ?_) (fun c491 => ?_)
                            · exact absurd c491 (by decide)
                            · refine g_iconst hx dL_sky_494 (nx := 495) rfl (v := nI 1) (by decide) ?_
                              refine g_goto hx dL_sky_495 (tg := 499) (by decide) ?_
                              refine g_istore_7 hx dL_sky_499 (nx := 501) rfl (by decide) rfl ?_
                              refine g_goto hx dL_sky_501 (tg := 544) (by decide) ?_
                              refine aG.widen (k' := k9 + 20) (n' := s9 + 640) (by omega) (by omega) (sky_tail hx hst hk9 hs9 hat hj hK2 hn0 (by omega) (by omega) (fun a a1 a2 => by rw [hW.2.1 a (by have := hW.2.2.2.2.2.2; omega)]; exact hfree a (by omega) a2) (y := y) (zz := zz) (by omega) (by omega) go)
                    · refine g_aloadG_n hx dL_sky_426 rfl (nx := 427) rfl rfl ?_
                      refine g_iconst hx dL_sky_427 (nx := 428) rfl (v := nI 5) (by decide) ?_
                      refine g_dup2i hx dL_sky_428 (nx := 429) rfl rfl rfl ?_
                      refine g_ialoadN hx dL_sky_429 (nx := 430) rfl hK.A.1 (by decide) (by omega) (by decide) (v := nI c5) (hc.2.2.2.2.2) ?_
                      refine g_iconst hx dL_sky_430 (nx := 431) rfl (v := nI 1) (by decide) ?_
                      refine g_iaddN hx dL_sky_431 (nx := 432) rfl  ?_
                      refine g_iastoreN hx dL_sky_432 (nx := 433) rfl hK.A.1 (by decide) (by omega) (by decide) ?_
                      have hK1 := sK_s (I' := (au2 I 11 5 (nI (c5 + 1)))) (c5' := c5 + 1) (o := oI I 0) hK hn0 (hK.C.I (au2_n (by omega)) (au2_n (by omega))) hK.A (fun a k a1 a2 a3 a4 a5 a6 a7 a8 => au2_n (by omega)) (fun a k a1 => rfl) ⟨(by rw [au2_n (by omega)]; exact hc.1), (by rw [au2_n (by omega)]; exact hc.2.1), (by rw [au2_n (by omega)]; exact hc.2.2.1), (by rw [au2_n (by omega)]; exact hc.2.2.2.1), (by rw [au2_n (by omega)]; exact hc.2.2.2.2.1), au2_s _ _ _ _⟩ ⟨(by rw [au2_n (by omega)]; exact hK.t.1), hK.t.2⟩ (mK_e hK.m (fun k => au2_n (by omega))) (lF_c hK.f (fun a k ha => au2_n (by omega))) (by rw [au2_n (by omega)]; exact (hK.oo 0 hn0).1) (hK.oo 0 hn0).2
                      refine g_aloadG_n hx dL_sky_433 rfl (nx := 434) rfl rfl ?_
                      refine g_iconst hx dL_sky_434 (nx := 435) rfl (v := nI 5) (by decide) ?_
                      refine g_ialoadN hx dL_sky_435 (nx := 436) rfl hK.A.1 (by decide) (by omega) (by decide) (v := nI (c5 + 1)) (au2_s _ _ _ _) ?_
                      refine g_bipush hx dL_sky_436 (nx := 438) rfl (v := nI 16) (by decide) ?_
                      refine g_icmp_gtN hx dL_sky_438 (tg := 455) (by decide) (nx := 441) rfl (by omega) (by omega) (fun c438 => ?_) (fun c438 => ?_)
                      · refine g_iconst hx dL_sky_455 (nx := 456) rfl (v := nI 1) (by decide) ?_
                        refine g_goto hx dL_sky_456 (tg := 460) (by decide) ?_
                        refine g_istore_7 hx dL_sky_460 (nx := 462) rfl (by decide) rfl ?_
                        refine g_goto hx dL_sky_462 (tg := 544) (by decide) ?_
                        refine aG.widen (k' := k9 + 20) (n' := s9 + 640) (by omega) (by omega) (sky_tail hx hst hk9 hs9 hat hj hK1 hn0 (by omega) (by omega) (fun a a1 a2 => hfree a (by omega) a2) (y := y) (zz := zz) (by omega) (by omega) go)
                      · refine g_aloadG_n hx dL_sky_441 rfl (nx := 442) rfl rfl ?_
                        refine g_iloadG hx dL_sky_442 (nx := 444) rfl rfl ?_
                        refine g_aloadG_n hx dL_sky_444 rfl (nx := 445) rfl rfl ?_
                        refine g_aloadG hx dL_sky_445 (nx := 447) rfl rfl ?_
                        refine g_aloadG hx dL_sky_447 (nx := 449) rfl rfl ?_
                        refine g_callS_M hx [_, _, _, _, _] (k' := k9 + 14) (n' := s9 + 90) dL_sky_449 (nx := 452) rfl lk_L_145 rfl (Nat.le_of_ble_eq_true rfl) (Nat.le_of_ble_eq_true rfl) (Nat.le_of_ble_eq_true rfl) (by show k9 + 0 + 14 ≤ k9 + 14; omega) (by show s9 + 0 + 90 ≤ s9 + 90; omega) (by omega) (by omega) (s_L_tones hst hK1.C hn0 hK1.A.1 hK1.A.2.2.1 hK1.A.2.2.2 hK1.c.1 hK1.c.2.1 hK1.si hK1.oo hK1.g hK1.h (by omega) (fun I2 L2 e1 e2 => ?_) (fun S2 I2 L2 R2 hW => ?_))
                        · have hK2 := sK_x hK1 hn0 e1 e2
                          refine g_if_eqN hx dL_sky_452 (tg := 459) (by decide) (nx := 455) rfl (by omega) (fun c452 => ?_) (fun c452 => ?_)
                          · exact absurd c452 (by decide)
                          · refine g_iconst hx dL_sky_455 (nx := 456) rfl (v := nI 1) (by decide) ?_
                            refine g_goto hx dL_sky_456 (tg := 460) (by decide) ?_
                            refine g_istore_7 hx dL_sky_460 (nx := 462) rfl (by decide) rfl ?_
                            refine g_goto hx dL_sky_462 (tg := 544) (by decide) ?_
                            refine aG.widen (k' := k9 + 20) (n' := s9 + 640) (by omega) (by omega) (sky_tail hx hst hk9 hs9 hat hj hK2 hn0 (by omega) (by omega) (fun a a1 a2 => hfree a (by omega) a2) (y := y) (zz := zz) (by omega) (by omega) go)
                        · have hK2 := sK_grew hK1 hn0 hW
                          refine g_if_eqN hx dL_sky_452 (tg := 459) (by decide) (nx := 455) rfl (by omega) (fun c452 => ?_) (fun c452 => ?_)
                          · exact absurd c452 (by decide)
                          · refine g_iconst hx dL_sky_455 (nx := 456) rfl (v := nI 1) (by decide) ?_
                            refine g_goto hx dL_sky_456 (tg := 460) (by decide) ?_
                            refine g_istore_7 hx dL_sky_460 (nx := 462) rfl (by decide) rfl ?_
                            refine g_goto hx dL_sky_462 (tg := 544) (by decide) ?_
                            refine aG.widen (k' := k9 + 20) (n' := s9 + 640) (by omega) (by omega) (sky_tail hx hst hk9 hs9 hat hj hK2 hn0 (by omega) (by omega) (fun a a1 a2 => by rw [hW.2.1 a (by have := hW.2.2.2.2.2.2; omega)]; exact hfree a (by omega) a2) (y := y) (zz := zz) (by omega) (by omega) go)
                  · refine g_aloadG_n hx dL_sky_350 rfl (nx := 351) rfl rfl ?_
                    refine g_iconst hx dL_sky_351 (nx := 352) rfl (v := nI 1) (by decide) ?_
                    refine g_iconst hx dL_sky_352 (nx := 353) rfl (v := nI 0) (by decide) ?_
                    refine g_iconst hx dL_sky_353 (nx := 354) rfl (v := nI 1) (by decide) ?_
                    refine g_iloadG hx dL_sky_354 (nx := 356) rfl rfl ?_
                    refine g_bipush hx dL_sky_356 (nx := 358) rfl (v := nI 31) (by decide) ?_
                    refine g_iremN hx dL_sky_358 (nx := 359) rfl (by omega) (by omega) (by omega) ?_
                    refine g_iaddN hx dL_sky_359 (nx := 360) rfl  ?_
                    refine g_iconst hx dL_sky_360 (nx := 361) rfl (v := nI 0) (by decide) ?_
                    refine g_callW hx [_, _, _, _, _] (k' := k9 + 7) (n' := s9 + 45) dL_sky_361 (nx := 364) rfl lk_L_95 rfl (Nat.le_of_ble_eq_true rfl) (Nat.le_of_ble_eq_true rfl) (Nat.le_of_ble_eq_true rfl) (by show k9 + 0 + 7 ≤ k9 + 7; omega) (by show s9 + 0 + 45 ≤ s9 + 45; omega) (by omega) (by omega) (s_asks_takeOut (k := 0) hst hK.C hK.oo hn0 (by omega) (by omega) (fun e9 => ?_) (fun e9 => ?_))
                    · refine g_lstore_13 hx dL_sky_364 (nx := 366) rfl (by decide) rfl ?_
                      refine g_lloadG hx dL_sky_366 (nx := 368) rfl rfl ?_
                      refine g_ldc2 hx dL_sky_368 (nx := 371) rfl kl_L_52 ?_
                      refine g_lc_ne hx dL_sky_371 (p2 := 372) rfl dL_sky_372 (tg := 393) (by decide) (nx := 375) rfl (fun c371 => ?_) (fun c371 => ?_)
                      · exact absurd rfl c371
                      · refine g_aloadG_n hx dL_sky_375 rfl (nx := 376) rfl rfl ?_
                        refine g_iconst hx dL_sky_376 (nx := 377) rfl (v := nI 0) (by decide) ?_
                        refine g_callV_M hx [_] (k' := k9 + 7) (n' := s9 + 45) dL_sky_377 (nx := 380) rfl lk_L_71 (hK.C.1.1 0 _ rfl) (by decide) rfl rfl (Nat.le_of_ble_eq_true rfl) (Nat.le_of_ble_eq_true rfl) (Nat.le_of_ble_eq_true rfl) (by show k9 + 7 + 0 ≤ k9 + 7; omega) (by show s9 + 45 + 0 ≤ s9 + 45; omega) (by omega) (by omega) (s_X3_putBackk (k := 0) hst hK.C hn0 ?_)
                        rw [show I (200 + 8 * 0) 13 = nI 6 from by rw [(hK.oo 0 hn0).1, e9]]
                        have hK1 := sK_s (I' := (au2 I 200 13 0)) (o := 0) hK hn0 (hK.C.I (by rw [au2_n (by omega)]) (by rw [au2_n (by omega)])) hK.A (fun a k a1 a2 a3 a4 a5 a6 a7 a8 => au2_n a8) (fun a k a1 => rfl) (cN6_e hc (fun k => au2_n (by omega))) ⟨(by rw [au2_n (by omega)]; exact hK.t.1), hK.t.2⟩ (mK_e hK.m (fun k => au2_n (by omega))) (lF_c hK.f (fun a k ha => au2_n (by omega))) (au2_s _ _ _ _) (by decide)
                        refine g_bipush hx dL_sky_380 (nx := 382) rfl (v := nI 6) (by decide) ?_
                        refine g_icmp_neN hx dL_sky_382 (tg := 389) (by decide) (nx := 385) rfl (by omega) (by omega) (fun c382 => ?_) (fun c382 => ?_)
                        · exact absurd c382 (by omega)
                        · refine g_iconst hx dL_sky_385 (nx := 386) rfl (v := nI 1) (by decide) ?_
                          refine g_goto hx dL_sky_386 (tg := 414) (by decide) ?_
                          refine g_istore_7 hx dL_sky_414 (nx := 416) rfl (by decide) rfl ?_
                          refine g_goto hx dL_sky_416 (tg := 544) (by decide) ?_
                          refine aG.widen (k' := k9 + 20) (n' := s9 + 640) (by omega) (by omega) (sky_tail hx hst hk9 hs9 hat hj hK1 hn0 (by omega) (by omega) (fun a a1 a2 => hfree a (by omega) a2) (y := y) (zz := zz) (by omega) (by omega) go)
                    · have hK1 := sK_s (I' := (au2 (au2 I 206 (oI I 0) (nI (1 + y % 31))) 200 13 (nI (oI I 0 + 1)))) (o := oI I 0 + 1) hK hn0 (hK.C.I (by rw [au2_n (by omega), au2_n (by omega)]) (by rw [au2_n (by omega), au2_n (by omega)])) hK.A (fun a k a1 a2 a3 a4 a5 a6 a7 a8 => by rw [au2_n a8, au2_n (by omega)]) (fun a k a1 => rfl) (cN6_e hc (fun k => by rw [au2_n (by omega), au2_n (by omega)])) ⟨(by rw [au2_n (by omega), au2_n (by omega)]; exact hK.t.1), hK.t.2⟩ (mK_e hK.m (fun k => by rw [au2_n (by omega), au2_n (by omega)])) (lF_c hK.f (fun a k ha => by rw [au2_n (by omega), au2_n (by omega)])) (au2_s _ _ _ _) (by omega)
                      refine g_lstore_13 hx dL_sky_364 (nx := 366) rfl (by decide) rfl ?_
                      refine g_lloadG hx dL_sky_366 (nx := 368) rfl rfl ?_
                      refine g_ldc2 hx dL_sky_368 (nx := 371) rfl kl_L_52 ?_
                      refine g_lc_ne hx dL_sky_371 (p2 := 372) rfl dL_sky_372 (tg := 393) (by decide) (nx := 375) rfl (fun c371 => ?_) (fun c371 => ?_)
                      · refine g_lloadG hx dL_sky_393 (nx := 395) rfl rfl ?_
                        refine g_lconst hx dL_sky_395 (nx := 396) rfl (v := lN 0) (by decide) ?_
                        refine g_lc_le hx dL_sky_396 (p2 := 397) rfl dL_sky_397 (tg := 413) (by decide) (nx := 400) rfl (fun c396 => ?_) (fun c396 => ?_)
                        · exact absurd ((lN_le (by omega) (by decide)).mp c396) (by omega)
                        · refine g_lloadG hx dL_sky_400 (nx := 402) rfl rfl ?_
                          refine g_ldc2 hx dL_sky_402 (nx := 405) rfl kl_L_143 ?_
                          refine g_lc_ge hx dL_sky_405 (p2 := 406) rfl dL_sky_406 (tg := 413) (by decide) (nx := 409) rfl (fun c405 => ?_) (fun c405 => ?_)
                          · refine absurd ?_ (Nat.not_le.mpr (show oI I 0 + 1 < 7 by omega))
                            exact (lN_le (by decide) (by omega)).mp c405
                          · refine g_iconst hx dL_sky_409 (nx := 410) rfl (v := nI 1) (by decide) ?_
                            refine g_goto hx dL_sky_410 (tg := 414) (by decide) ?_
                            refine g_istore_7 hx dL_sky_414 (nx := 416) rfl (by decide) rfl ?_
                            refine g_goto hx dL_sky_416 (tg := 544) (by decide) ?_
                            refine aG.widen (k' := k9 + 20) (n' := s9 + 640) (by omega) (by omega) (sky_tail hx hst hk9 hs9 hat hj hK1 hn0 (by omega) (by omega) (fun a a1 a2 => hfree a (by omega) a2) (y := y) (zz := zz) (by omega) (by omega) go)
                      · exact absurd (congrArg Int64.toInt c371) (by rw [lN_toInt (by omega), show (-70008 : Int64).toInt = -70008 from by decide]; omega)
                · refine g_aloadG_n hx dL_sky_306 rfl (nx := 307) rfl rfl ?_
                  refine g_iconst hx dL_sky_307 (nx := 308) rfl (v := nI 2) (by decide) ?_
                  refine g_ialoadN hx dL_sky_308 (nx := 309) rfl hK.A.1 (by decide) (by omega) (by decide) (v := nI th) (hc.2.2.1) ?_
                  refine g_istore_13 hx dL_sky_309 (nx := 311) rfl (by decide) rfl ?_
                  refine g_aloadG_n hx dL_sky_311 rfl (nx := 312) rfl rfl ?_
                  refine g_iconst hx dL_sky_312 (nx := 313) rfl (v := nI 2) (by decide) ?_
                  refine g_iconst hx dL_sky_313 (nx := 314) rfl (v := nI 1) (by decide) ?_
                  refine g_iloadG hx dL_sky_314 (nx := 316) rfl rfl ?_
                  refine g_ldc hx dL_sky_316 (nx := 318) rfl (v := nI 2000000) kc_L_139 ?_
                  refine g_iremN hx dL_sky_318 (nx := 319) rfl (by omega) (by omega) (by omega) ?_
                  refine g_iaddN hx dL_sky_319 (nx := 320) rfl  ?_
                  refine g_iastoreN hx dL_sky_320 (nx := 321) rfl hK.A.1 (by decide) (by omega) (by decide) ?_
                  refine g_aloadG_n hx dL_sky_321 rfl (nx := 322) rfl rfl ?_
                  refine g_aloadG_n hx dL_sky_322 rfl (nx := 323) rfl rfl ?_
                  refine g_iconst hx dL_sky_323 (nx := 324) rfl (v := nI 2) (by decide) ?_
                  refine g_ialoadN hx dL_sky_324 (nx := 325) rfl hK.A.1 (by decide) (by omega) (by decide) (v := nI (1 + y % 2000000)) (au2_s _ _ _ _) ?_
                  refine g_callV_M hx [_] (k' := k9 + 0) (n' := s9 + 0) dL_sky_325 (nx := 328) rfl lk_L_140 (hK.C.1.1 0 _ rfl) (by decide) rfl rfl (Nat.le_of_ble_eq_true rfl) (Nat.le_of_ble_eq_true rfl) (Nat.le_of_ble_eq_true rfl) (by show k9 + 0 + 0 ≤ k9 + 0; omega) (by show s9 + 0 + 0 ≤ s9 + 0; omega) (by omega) (by omega) (s_X3_thresholdk (n := n) (nc := nc) hst (hK.C.I (au2_n (by omega)) (au2_n (by omega))) (by omega) (by omega) ?_)
                  rw [show au2 I 11 2 (nI (1 + y % 2000000)) 3 4 = nI th from by rw [au2_n (by omega)]; exact hK.t.1]
                  have hK1 := sK_s (I' := (au2 (au2 I 11 2 (nI (1 + y % 2000000))) 3 4 (nI (1 + y % 2000000)))) (th' := 1 + y % 2000000) (o := oI I 0) hK hn0 (hK.C.I (by rw [au2_n (by omega), au2_n (by omega)]) (by rw [au2_n (by omega), au2_n (by omega)])) hK.A (fun a k a1 a2 a3 a4 a5 a6 a7 a8 => by rw [au2_n (by omega), au2_n (by omega)]) (fun a k a1 => rfl) ⟨(by rw [au2_n (by omega), au2_n (by omega)]; exact hc.1), (by rw [au2_n (by omega), au2_n (by omega)]; exact hc.2.1), (by rw [au2_n (by omega), au2_s]), (by rw [au2_n (by omega), au2_n (by omega)]; exact hc.2.2.2.1), (by rw [au2_n (by omega), au2_n (by omega)]; exact hc.2.2.2.2.1), (by rw [au2_n (by omega), au2_n (by omega)]; exact hc.2.2.2.2.2)⟩ ⟨au2_s _ _ _ _, by omega, by omega⟩ (mK_e hK.m (fun k => by rw [au2_n (by omega), au2_n (by omega)])) (lF_c hK.f (fun a k ha => by rw [au2_n (by omega), au2_n (by omega)])) (by rw [au2_n (by omega), au2_n (by omega)]; exact (hK.oo 0 hn0).1) (hK.oo 0 hn0).2
                  refine g_iloadG hx dL_sky_328 (nx := 330) rfl rfl ?_
                  refine g_icmp_neN hx dL_sky_330 (tg := 337) (by decide) (nx := 333) rfl (by omega) (by omega) (fun c330 => ?_) (fun c330 => ?_)
                  · exact absurd c330 (by omega)
                  · refine g_iconst hx dL_sky_333 (nx := 334) rfl (v := nI 1) (by decide) ?_
                    refine g_goto hx dL_sky_334 (tg := 338) (by decide) ?_
                    refine g_istore_7 hx dL_sky_338 (nx := 340) rfl (by decide) rfl ?_
                    refine g_goto hx dL_sky_340 (tg := 544) (by decide) ?_
                    refine aG.widen (k' := k9 + 20) (n' := s9 + 640) (by omega) (by omega) (sky_tail hx hst hk9 hs9 hat hj hK1 hn0 (by omega) (by omega) (fun a a1 a2 => hfree a (by omega) a2) (y := y) (zz := zz) (by omega) (by omega) go)
              · refine g_iloadG hx dL_sky_205 (nx := 207) rfl rfl ?_
                refine g_iconst hx dL_sky_207 (nx := 208) rfl (v := nI 4) (by decide) ?_
                refine g_iremN hx dL_sky_208 (nx := 209) rfl (by omega) (by omega) (by omega) ?_
                obtain ⟨si, hsi⟩ : ∃ k, k = zz % 4 := ⟨_, rfl⟩
                have hsi4 : si < 4 := by omega
                rw [← hsi]
                have hcl := clr_e hK.m.1 hsi4
                have hse := set_e hK.m.1 hsi4
                refine g_istore_13 hx dL_sky_209 (nx := 211) rfl (by decide) rfl ?_
                refine g_aloadG_n hx dL_sky_211 rfl (nx := 212) rfl rfl ?_
                refine g_iconst hx dL_sky_212 (nx := 213) rfl (v := nI 3) (by decide) ?_
                refine g_ialoadN hx dL_sky_213 (nx := 214) rfl hK.A.1 (by decide) (by omega) (by decide) (v := nI mk) (hc.2.2.2.1) ?_
                refine g_iloadG hx dL_sky_214 (nx := 216) rfl rfl ?_
                refine g_ishr hx dL_sky_216 (nx := 217) rfl ?_
                refine g_iconst hx dL_sky_217 (nx := 218) rfl (v := nI 1) (by decide) ?_
                refine g_iand hx dL_sky_218 (nx := 219) rfl ?_
                rw [msk (by have := hK.m.1; omega) hsi4]
                refine g_iconst hx dL_sky_219 (nx := 220) rfl (v := nI 1) (by decide) ?_
                refine g_icmp_neN hx dL_sky_220 (tg := 227) (by decide) (nx := 223) rfl (by omega) (by omega) (fun c220 => ?_) (fun c220 => ?_)
                · refine g_iconst hx dL_sky_227 (nx := 228) rfl (v := nI 0) (by decide) ?_
                  refine g_istore_14 hx dL_sky_228 (nx := 230) rfl (by decide) rfl ?_
                  refine g_aloadG_n hx dL_sky_230 rfl (nx := 231) rfl rfl ?_
                  refine g_iconst hx dL_sky_231 (nx := 232) rfl (v := nI 3) (by decide) ?_
                  refine g_iloadG hx dL_sky_232 (nx := 234) rfl rfl ?_
                  refine g_iconst hx dL_sky_234 (nx := 235) rfl (v := nI 3) (by decide) ?_
                  refine g_iremN hx dL_sky_235 (nx := 236) rfl (by omega) (by omega) (by omega) ?_
                  refine g_if_leN hx dL_sky_236 (tg := 252) (by decide) (nx := 239) rfl (by omega) (fun c236 => ?_) (fun c236 => ?_)
                  · refine g_aloadG_n hx dL_sky_252 rfl (nx := 253) rfl rfl ?_
                    refine g_iconst hx dL_sky_253 (nx := 254) rfl (v := nI 3) (by decide) ?_
                    refine g_ialoadN hx dL_sky_254 (nx := 255) rfl hK.A.1 (by decide) (by omega) (by decide) (v := nI mk) (hc.2.2.2.1) ?_
                    refine g_iconst hx dL_sky_255 (nx := 256) rfl (v := nI 1) (by decide) ?_
                    refine g_iloadG hx dL_sky_256 (nx := 258) rfl rfl ?_
                    refine g_ishl hx dL_sky_258 (nx := 259) rfl ?_
                    refine g_ior hx dL_sky_259 (nx := 260) rfl ?_
                    rw [hse.1]
                    refine g_iastoreN hx dL_sky_260 (nx := 261) rfl hK.A.1 (by decide) (by omega) (by decide) ?_
                    refine g_aloadG_n hx dL_sky_261 rfl (nx := 262) rfl rfl ?_
                    refine g_iloadG hx dL_sky_262 (nx := 264) rfl rfl ?_
                    refine g_aloadG_n hx dL_sky_264 rfl (nx := 265) rfl rfl ?_
                    refine g_iconst hx dL_sky_265 (nx := 266) rfl (v := nI 3) (by decide) ?_
                    refine g_ialoadN hx dL_sky_266 (nx := 267) rfl hK.A.1 (by decide) (by omega) (by decide) (v := nI (set1 mk si)) (au2_s _ _ _ _) ?_
                    refine g_iloadG hx dL_sky_267 (nx := 269) rfl rfl ?_
                    refine g_ishr hx dL_sky_269 (nx := 270) rfl ?_
                    refine g_iconst hx dL_sky_270 (nx := 271) rfl (v := nI 1) (by decide) ?_
                    refine g_iand hx dL_sky_271 (nx := 272) rfl ?_
                    rw [msk (by have := hse.2.1; omega) hsi4, hse.2.2.1]
                    refine g_iconst hx dL_sky_272 (nx := 273) rfl (v := nI 1) (by decide) ?_
                    refine g_icmp_neN hx dL_sky_273 (tg := 280) (by decide) (nx := 276) rfl (by omega) (by omega) (fun c273 => ?_) (fun c273 => ?_)
                    · exact absurd c273 (by decide)
                    · refine g_iconst hx dL_sky_276 (nx := 277) rfl (v := nI 1) (by decide) ?_
                      refine g_goto hx dL_sky_277 (tg := 281) (by decide) ?_
                      refine g_callV_M hx [_, _] (k' := k9 + 0) (n' := s9 + 0) dL_sky_281 (nx := 284) rfl lk_L_135 (hK.C.1.1 0 _ rfl) (by decide) rfl rfl (Nat.le_of_ble_eq_true rfl) (Nat.le_of_ble_eq_true rfl) (Nat.le_of_ble_eq_true rfl) (by show k9 + 0 + 0 ≤ k9 + 0; omega) (by show s9 + 0 + 0 ≤ s9 + 0; omega) (by omega) (by omega) (s_X3_maskk (n := n) (nc := nc) hst (hK.C.I (au2_n (by omega)) (au2_n (by omega))) hsi4 (by first | rfl | decide) (nar01 (b := mk / 2 ^ si % 2) (by rw [au2_n (by omega)]; exact hK.m.2 si hsi4) (by omega)) ?_)
                      have hm5 : (au2 I 11 3 (nI (set1 mk si))) 5 si = nI (mk / 2 ^ si % 2) := by rw [au2_n (by omega)]; exact hK.m.2 si hsi4
                      rw [hm5]
                      have hK1 := sK_s (I' := (au2 (au2 I 11 3 (nI (set1 mk si))) 5 si (nI 1))) (mk' := set1 mk si) (o := oI I 0) hK hn0 (hK.C.I (by rw [au2_n (by omega), au2_n (by omega)]) (by rw [au2_n (by omega), au2_n (by omega)])) hK.A (fun a k a1 a2 a3 a4 a5 a6 a7 a8 => by rw [au2_n (by omega), au2_n (by omega)]) (fun a k a1 => rfl) ⟨(by rw [au2_n (by omega), au2_n (by omega)]; exact hc.1), (by rw [au2_n (by omega), au2_n (by omega)]; exact hc.2.1), (by rw [au2_n (by omega), au2_n (by omega)]; exact hc.2.2.1), (by rw [au2_n (by omega), au2_s]), (by rw [au2_n (by omega), au2_n (by omega)]; exact hc.2.2.2.2.1), (by rw [au2_n (by omega), au2_n (by omega)]; exact hc.2.2.2.2.2)⟩ ⟨(by rw [au2_n (by omega), au2_n (by omega)]; exact hK.t.1), hK.t.2⟩ (mK_u hK.m hsi4 hse.2.1 hse.2.2.1 hse.2.2.2 (au2_s _ _ _ _) (fun k hk => by rw [au2_n (by omega), au2_n (by omega)])) (lF_c hK.f (fun a k ha => by rw [au2_n (by omega), au2_n (by omega)])) (by rw [au2_n (by omega), au2_n (by omega)]; exact (hK.oo 0 hn0).1) (hK.oo 0 hn0).2
                      refine g_iloadG hx dL_sky_284 (nx := 286) rfl rfl ?_
                      refine g_icmp_neN hx dL_sky_286 (tg := 293) (by decide) (nx := 289) rfl (by omega) (by omega) (fun c286 => ?_) (fun c286 => ?_)
                      · exact absurd c286 (by omega)
                      · refine g_iconst hx dL_sky_289 (nx := 290) rfl (v := nI 1) (by decide) ?_
                        refine g_goto hx dL_sky_290 (tg := 294) (by decide) ?_
                        refine g_istore_7 hx dL_sky_294 (nx := 296) rfl (by decide) rfl ?_
                        refine g_goto hx dL_sky_296 (tg := 544) (by decide) ?_
                        refine aG.widen (k' := k9 + 20) (n' := s9 + 640) (by omega) (by omega) (sky_tail hx hst hk9 hs9 hat hj hK1 hn0 (by omega) (by omega) (fun a a1 a2 => hfree a (by omega) a2) (y := y) (zz := zz) (by omega) (by omega) go)
                  · refine g_aloadG_n hx dL_sky_239 rfl (nx := 240) rfl rfl ?_
                    refine g_iconst hx dL_sky_240 (nx := 241) rfl (v := nI 3) (by decide) ?_
                    refine g_ialoadN hx dL_sky_241 (nx := 242) rfl hK.A.1 (by decide) (by omega) (by decide) (v := nI mk) (hc.2.2.2.1) ?_
                    refine g_iconst hx dL_sky_242 (nx := 243) rfl (v := nI 1) (by decide) ?_
                    refine g_iloadG hx dL_sky_243 (nx := 245) rfl rfl ?_
                    refine g_ishl hx dL_sky_245 (nx := 246) rfl ?_
                    refine g_iconst hx dL_sky_246 (nx := 247) rfl (v := (-1)) (by decide) ?_
                    refine g_ixor hx dL_sky_247 (nx := 248) rfl ?_
                    refine g_iand hx dL_sky_248 (nx := 249) rfl ?_
                    rw [hcl.1]
                    refine g_goto hx dL_sky_249 (tg := 260) (by decide) ?_
                    refine g_iastoreN hx dL_sky_260 (nx := 261) rfl hK.A.1 (by decide) (by omega) (by decide) ?_
                    refine g_aloadG_n hx dL_sky_261 rfl (nx := 262) rfl rfl ?_
                    refine g_iloadG hx dL_sky_262 (nx := 264) rfl rfl ?_
                    refine g_aloadG_n hx dL_sky_264 rfl (nx := 265) rfl rfl ?_
                    refine g_iconst hx dL_sky_265 (nx := 266) rfl (v := nI 3) (by decide) ?_
                    refine g_ialoadN hx dL_sky_266 (nx := 267) rfl hK.A.1 (by decide) (by omega) (by decide) (v := nI (clr mk si)) (au2_s _ _ _ _) ?_
                    refine g_iloadG hx dL_sky_267 (nx := 269) rfl rfl ?_
                    refine g_ishr hx dL_sky_269 (nx := 270) rfl ?_
                    refine g_iconst hx dL_sky_270 (nx := 271) rfl (v := nI 1) (by decide) ?_
                    refine g_iand hx dL_sky_271 (nx := 272) rfl ?_
                    rw [msk (by have := hcl.2.1; omega) hsi4, hcl.2.2.1]
                    refine g_iconst hx dL_sky_272 (nx := 273) rfl (v := nI 1) (by decide) ?_
                    refine g_icmp_neN hx dL_sky_273 (tg := 280) (by decide) (nx := 276) rfl (by omega) (by omega) (fun c273 => ?_) (fun c273 => ?_)
                    · refine g_iconst hx dL_sky_280 (nx := 281) rfl (v := nI 0) (by decide) ?_
                      refine g_callV_M hx [_, _] (k' := k9 + 0) (n' := s9 + 0) dL_sky_281 (nx := 284) rfl lk_L_135 (hK.C.1.1 0 _ rfl) (by decide) rfl rfl (Nat.le_of_ble_eq_true rfl) (Nat.le_of_ble_eq_true rfl) (Nat.le_of_ble_eq_true rfl) (by show k9 + 0 + 0 ≤ k9 + 0; omega) (by show s9 + 0 + 0 ≤ s9 + 0; omega) (by omega) (by omega) (s_X3_maskk (n := n) (nc := nc) hst (hK.C.I (au2_n (by omega)) (au2_n (by omega))) hsi4 (by first | rfl | decide) (nar01 (b := mk / 2 ^ si % 2) (by rw [au2_n (by omega)]; exact hK.m.2 si hsi4) (by omega)) ?_)
                      have hm5 : (au2 I 11 3 (nI (clr mk si))) 5 si = nI (mk / 2 ^ si % 2) := by rw [au2_n (by omega)]; exact hK.m.2 si hsi4
                      rw [hm5]
                      have hK1 := sK_s (I' := (au2 (au2 I 11 3 (nI (clr mk si))) 5 si (nI 0))) (mk' := clr mk si) (o := oI I 0) hK hn0 (hK.C.I (by rw [au2_n (by omega), au2_n (by omega)]) (by rw [au2_n (by omega), au2_n (by omega)])) hK.A (fun a k a1 a2 a3 a4 a5 a6 a7 a8 => by rw [au2_n (by omega), au2_n (by omega)]) (fun a k a1 => rfl) ⟨(by rw [au2_n (by omega), au2_n (by omega)]; exact hc.1), (by rw [au2_n (by omega), au2_n (by omega)]; exact hc.2.1), (by rw [au2_n (by omega), au2_n (by omega)]; exact hc.2.2.1), (by rw [au2_n (by omega), au2_s]), (by rw [au2_n (by omega), au2_n (by omega)]; exact hc.2.2.2.2.1), (by rw [au2_n (by omega), au2_n (by omega)]; exact hc.2.2.2.2.2)⟩ ⟨(by rw [au2_n (by omega), au2_n (by omega)]; exact hK.t.1), hK.t.2⟩ (mK_u hK.m hsi4 hcl.2.1 hcl.2.2.1 hcl.2.2.2 (au2_s _ _ _ _) (fun k hk => by rw [au2_n (by omega), au2_n (by omega)])) (lF_c hK.f (fun a k ha => by rw [au2_n (by omega), au2_n (by omega)])) (by rw [au2_n (by omega), au2_n (by omega)]; exact (hK.oo 0 hn0).1) (hK.oo 0 hn0).2
                      refine g_iloadG hx dL_sky_284 (nx := 286) rfl rfl ?_
                      refine g_icmp_neN hx dL_sky_286 (tg := 293) (by decide) (nx := 289) rfl (by omega) (by omega) (fun c286 => ?_) (fun c286 => ?_)
                      · exact absurd c286 (by omega)
                      · refine g_iconst hx dL_sky_289 (nx := 290) rfl (v := nI 1) (by decide) ?_
                        refine g_goto hx dL_sky_290 (tg := 294) (by decide) ?_
                        refine g_istore_7 hx dL_sky_294 (nx := 296) rfl (by decide) rfl ?_
                        refine g_goto hx dL_sky_296 (tg := 544) (by decide) ?_
                        refine aG.widen (k' := k9 + 20) (n' := s9 + 640) (by omega) (by omega) (sky_tail hx hst hk9 hs9 hat hj hK1 hn0 (by omega) (by omega) (fun a a1 a2 => hfree a (by omega) a2) (y := y) (zz := zz) (by omega) (by omega) go)
                    · exact absurd c273 (by decide)
                · refine g_iconst hx dL_sky_223 (nx := 224) rfl (v := nI 1) (by decide) ?_
                  refine g_goto hx dL_sky_224 (tg := 228) (by decide) ?_
                  refine g_istore_14 hx dL_sky_228 (nx := 230) rfl (by decide) rfl ?_
                  refine g_aloadG_n hx dL_sky_230 rfl (nx := 231) rfl rfl ?_
                  refine g_iconst hx dL_sky_231 (nx := 232) rfl (v := nI 3) (by decide) ?_
                  refine g_iloadG hx dL_sky_232 (nx := 234) rfl rfl ?_
                  refine g_iconst hx dL_sky_234 (nx := 235) rfl (v := nI 3) (by decide) ?_
                  refine g_iremN hx dL_sky_235 (nx := 236) rfl (by omega) (by omega) (by omega) ?_
                  refine g_if_leN hx dL_sky_236 (tg := 252) (by decide) (nx := 239) rfl (by omega) (fun c236 => ?_) (fun c236 => ?_)
                  · refine g_aloadG_n hx dL_sky_252 rfl (nx := 253) rfl rfl ?_
                    refine g_iconst hx dL_sky_253 (nx := 254) rfl (v := nI 3) (by decide) ?_
                    refine g_ialoadN hx dL_sky_254 (nx := 255) rfl hK.A.1 (by decide) (by omega) (by decide) (v := nI mk) (hc.2.2.2.1) ?_
                    refine g_iconst hx dL_sky_255 (nx := 256) rfl (v := nI 1) (by decide) ?_
                    refine g_iloadG hx dL_sky_256 (nx := 258) rfl rfl ?_
                    refine g_ishl hx dL_sky_258 (nx := 259) rfl ?_
                    refine g_ior hx dL_sky_259 (nx := 260) rfl ?_
                    rw [hse.1]
                    refine g_iastoreN hx dL_sky_260 (nx := 261) rfl hK.A.1 (by decide) (by omega) (by decide) ?_
                    refine g_aloadG_n hx dL_sky_261 rfl (nx := 262) rfl rfl ?_
                    refine g_iloadG hx dL_sky_262 (nx := 264) rfl rfl ?_
                    refine g_aloadG_n hx dL_sky_264 rfl (nx := 265) rfl rfl ?_
                    refine g_iconst hx dL_sky_265 (nx := 266) rfl (v := nI 3) (by decide) ?_
                    refine g_ialoadN hx dL_sky_266 (nx := 267) rfl hK.A.1 (by decide) (by omega) (by decide) (v := nI (set1 mk si)) (au2_s _ _ _ _) ?_
                    refine g_iloadG hx dL_sky_267 (nx := 269) rfl rfl ?_
                    refine g_ishr hx dL_sky_269 (nx := 270) rfl ?_
                    refine g_iconst hx dL_sky_270 (nx := 271) rfl (v := nI 1) (by decide) ?_
                    refine g_iand hx dL_sky_271 (nx := 272) rfl ?_
                    rw [msk (by have := hse.2.1; omega) hsi4, hse.2.2.1]
                    refine g_iconst hx dL_sky_272 (nx := 273) rfl (v := nI 1) (by decide) ?_
                    refine g_icmp_neN hx dL_sky_273 (tg := 280) (by decide) (nx := 276) rfl (by omega) (by omega) (fun c273 => ?_) (fun c273 => ?_)
                    · exact absurd c273 (by decide)
                    · refine g_iconst hx dL_sky_276 (nx := 277) rfl (v := nI 1) (by decide) ?_
                      refine g_goto hx dL_sky_277 (tg := 281) (by decide) ?_
                      refine g_callV_M hx [_, _] (k' := k9 + 0) (n' := s9 + 0) dL_sky_281 (nx := 284) rfl lk_L_135 (hK.C.1.1 0 _ rfl) (by decide) rfl rfl (Nat.le_of_ble_eq_true rfl) (Nat.le_of_ble_eq_true rfl) (Nat.le_of_ble_eq_true rfl) (by show k9 + 0 + 0 ≤ k9 + 0; omega) (by show s9 + 0 + 0 ≤ s9 + 0; omega) (by omega) (by omega) (s_X3_maskk (n := n) (nc := nc) hst (hK.C.I (au2_n (by omega)) (au2_n (by omega))) hsi4 (by first | rfl | decide) (nar01 (b := mk / 2 ^ si % 2) (by rw [au2_n (by omega)]; exact hK.m.2 si hsi4) (by omega)) ?_)
                      have hm5 : (au2 I 11 3 (nI (set1 mk si))) 5 si = nI (mk / 2 ^ si % 2) := by rw [au2_n (by omega)]; exact hK.m.2 si hsi4
                      rw [hm5]
                      have hK1 := sK_s (I' := (au2 (au2 I 11 3 (nI (set1 mk si))) 5 si (nI 1))) (mk' := set1 mk si) (o := oI I 0) hK hn0 (hK.C.I (by rw [au2_n (by omega), au2_n (by omega)]) (by rw [au2_n (by omega), au2_n (by omega)])) hK.A (fun a k a1 a2 a3 a4 a5 a6 a7 a8 => by rw [au2_n (by omega), au2_n (by omega)]) (fun a k a1 => rfl) ⟨(by rw [au2_n (by omega), au2_n (by omega)]; exact hc.1), (by rw [au2_n (by omega), au2_n (by omega)]; exact hc.2.1), (by rw [au2_n (by omega), au2_n (by omega)]; exact hc.2.2.1), (by rw [au2_n (by omega), au2_s]), (by rw [au2_n (by omega), au2_n (by omega)]; exact hc.2.2.2.2.1), (by rw [au2_n (by omega), au2_n (by omega)]; exact hc.2.2.2.2.2)⟩ ⟨(by rw [au2_n (by omega), au2_n (by omega)]; exact hK.t.1), hK.t.2⟩ (mK_u hK.m hsi4 hse.2.1 hse.2.2.1 hse.2.2.2 (au2_s _ _ _ _) (fun k hk => by rw [au2_n (by omega), au2_n (by omega)])) (lF_c hK.f (fun a k ha => by rw [au2_n (by omega), au2_n (by omega)])) (by rw [au2_n (by omega), au2_n (by omega)]; exact (hK.oo 0 hn0).1) (hK.oo 0 hn0).2
                      refine g_iloadG hx dL_sky_284 (nx := 286) rfl rfl ?_
                      refine g_icmp_neN hx dL_sky_286 (tg := 293) (by decide) (nx := 289) rfl (by omega) (by omega) (fun c286 => ?_) (fun c286 => ?_)
                      · exact absurd c286 (by omega)
                      · refine g_iconst hx dL_sky_289 (nx := 290) rfl (v := nI 1) (by decide) ?_
                        refine g_goto hx dL_sky_290 (tg := 294) (by decide) ?_
                        refine g_istore_7 hx dL_sky_294 (nx := 296) rfl (by decide) rfl ?_
                        refine g_goto hx dL_sky_296 (tg := 544) (by decide) ?_
                        refine aG.widen (k' := k9 + 20) (n' := s9 + 640) (by omega) (by omega) (sky_tail hx hst hk9 hs9 hat hj hK1 hn0 (by omega) (by omega) (fun a a1 a2 => hfree a (by omega) a2) (y := y) (zz := zz) (by omega) (by omega) go)
                  · refine g_aloadG_n hx dL_sky_239 rfl (nx := 240) rfl rfl ?_
                    refine g_iconst hx dL_sky_240 (nx := 241) rfl (v := nI 3) (by decide) ?_
                    refine g_ialoadN hx dL_sky_241 (nx := 242) rfl hK.A.1 (by decide) (by omega) (by decide) (v := nI mk) (hc.2.2.2.1) ?_
                    refine g_iconst hx dL_sky_242 (nx := 243) rfl (v := nI 1) (by decide) ?_
                    refine g_iloadG hx dL_sky_243 (nx := 245) rfl rfl ?_
                    refine g_ishl hx dL_sky_245 (nx := 246) rfl ?_
                    refine g_iconst hx dL_sky_246 (nx := 247) rfl (v := (-1)) (by decide) ?_
                    refine g_ixor hx dL_sky_247 (nx := 248) rfl ?_
                    refine g_iand hx dL_sky_248 (nx := 249) rfl ?_
                    rw [hcl.1]
                    refine g_goto hx dL_sky_249 (tg := 260) (by decide) ?_
                    refine g_iastoreN hx dL_sky_260 (nx := 261) rfl hK.A.1 (by decide) (by omega) (by decide) ?_
                    refine g_aloadG_n hx dL_sky_261 rfl (nx := 262) rfl rfl ?_
                    refine g_iloadG hx dL_sky_262 (nx := 264) rfl rfl ?_
                    refine g_aloadG_n hx dL_sky_264 rfl (nx := 265) rfl rfl ?_
                    refine g_iconst hx dL_sky_265 (nx := 266) rfl (v := nI 3) (by decide) ?_
                    refine g_ialoadN hx dL_sky_266 (nx := 267) rfl hK.A.1 (by decide) (by omega) (by decide) (v := nI (clr mk si)) (au2_s _ _ _ _) ?_
                    refine g_iloadG hx dL_sky_267 (nx := 269) rfl rfl ?_
                    refine g_ishr hx dL_sky_269 (nx := 270) rfl ?_
                    refine g_iconst hx dL_sky_270 (nx := 271) rfl (v := nI 1) (by decide) ?_
                    refine g_iand hx dL_sky_271 (nx := 272) rfl ?_
                    rw [msk (by have := hcl.2.1; omega) hsi4, hcl.2.2.1]
                    refine g_iconst hx dL_sky_272 (nx := 273) rfl (v := nI 1) (by decide) ?_
                    refine g_icmp_neN hx dL_sky_273 (tg := 280) (by decide) (nx := 276) rfl (by omega) (by omega) (fun c273 => ?_) (fun c273 => ?_)
                    · refine g_iconst hx dL_sky_280 (nx := 281) rfl (v := nI 0) (by decide) ?_
                      refine g_callV_M hx [_, _] (k' := k9 + 0) (n' := s9 + 0) dL_sky_281 (nx := 284) rfl lk_L_135 (hK.C.1.1 0 _ rfl) (by decide) rfl rfl (Nat.le_of_ble_eq_true rfl) (Nat.le_of_ble_eq_true rfl) (Nat.le_of_ble_eq_true rfl) (by show k9 + 0 + 0 ≤ k9 + 0; omega) (by show s9 + 0 + 0 ≤ s9 + 0; omega) (by omega) (by omega) (s_X3_maskk (n := n) (nc := nc) hst (hK.C.I (au2_n (by omega)) (au2_n (by omega))) hsi4 (by first | rfl | decide) (nar01 (b := mk / 2 ^ si % 2) (by rw [au2_n (by omega)]; exact hK.m.2 si hsi4) (by omega)) ?_)
                      have hm5 : (au2 I 11 3 (nI (clr mk si))) 5 si = nI (mk / 2 ^ si % 2) := by rw [au2_n (by omega)]; exact hK.m.2 si hsi4
                      rw [hm5]
                      have hK1 := sK_s (I' := (au2 (au2 I 11 3 (nI (clr mk si))) 5 si (nI 0))) (mk' := clr mk si) (o := oI I 0) hK hn0 (hK.C.I (by rw [au2_n (by omega), au2_n (by omega)]) (by rw [au2_n (by omega), au2_n (by omega)])) hK.A (fun a k a1 a2 a3 a4 a5 a6 a7 a8 => by rw [au2_n (by omega), au2_n (by omega)]) (fun a k a1 => rfl) ⟨(by rw [au2_n (by omega), au2_n (by omega)]; exact hc.1), (by rw [au2_n (by omega), au2_n (by omega)]; exact hc.2.1), (by rw [au2_n (by omega), au2_n (by omega)]; exact hc.2.2.1), (by rw [au2_n (by omega), au2_s]), (by rw [au2_n (by omega), au2_n (by omega)]; exact hc.2.2.2.2.1), (by rw [au2_n (by omega), au2_n (by omega)]; exact hc.2.2.2.2.2)⟩ ⟨(by rw [au2_n (by omega), au2_n (by omega)]; exact hK.t.1), hK.t.2⟩ (mK_u hK.m hsi4 hcl.2.1 hcl.2.2.1 hcl.2.2.2 (au2_s _ _ _ _) (fun k hk => by rw [au2_n (by omega), au2_n (by omega)])) (lF_c hK.f (fun a k ha => by rw [au2_n (by omega), au2_n (by omega)])) (by rw [au2_n (by omega), au2_n (by omega)]; exact (hK.oo 0 hn0).1) (hK.oo 0 hn0).2
                      refine g_iloadG hx dL_sky_284 (nx := 286) rfl rfl ?_
                      refine g_icmp_neN hx dL_sky_286 (tg := 293) (by decide) (nx := 289) rfl (by omega) (by omega) (fun c286 => ?_) (fun c286 => ?_)
                      · exact absurd c286 (by omega)
                      · refine g_iconst hx dL_sky_289 (nx := 290) rfl (v := nI 1) (by decide) ?_
                        refine g_goto hx dL_sky_290 (tg := 294) (by decide) ?_
                        refine g_istore_7 hx dL_sky_294 (nx := 296) rfl (by decide) rfl ?_
                        refine g_goto hx dL_sky_296 (tg := 544) (by decide) ?_
                        refine aG.widen (k' := k9 + 20) (n' := s9 + 640) (by omega) (by omega) (sky_tail hx hst hk9 hs9 hat hj hK1 hn0 (by omega) (by omega) (fun a a1 a2 => hfree a (by omega) a2) (y := y) (zz := zz) (by omega) (by omega) go)
                    · exact absurd c273 (by decide)
            · obtain ⟨w9, hw9⟩ : ∃ w, w = 15 + j := ⟨_, rfl⟩
              refine g_iconst hx dL_sky_165 (nx := 166) rfl (v := nI 1) (by decide) ?_
              refine g_newarrayint hx dL_sky_166 (nx := 168) rfl ac_i (by decide) (N := 1) (by decide) (by decide) (q := w9) (hfree w9 (by omega) (by omega)) (by omega) (k' := k9 + 1) (by omega) (n' := s9 + 1) (by omega) (by omega) (by omega) ?_
              refine g_astore_13 hx dL_sky_168 (nx := 170) rfl (by decide) rfl ?_
              refine g_aloadG hx dL_sky_170 (nx := 172) rfl rfl ?_
              refine g_iconst hx dL_sky_172 (nx := 173) rfl (v := nI 0) (by decide) ?_
              refine g_iconst hx dL_sky_173 (nx := 174) rfl (v := nI 1) (by decide) ?_
              refine g_iastoreN hx dL_sky_174 (nx := 175) rfl (au1_s _ _ _) (by omega) (by omega) (by decide) ?_
              have hC1 : lyC (au1 S w9 (some (.inl (.int, 1)))) (azr Rf w9 none) (au2 (azr I w9 0) w9 0 (nI 1)) n nc := lyC_S hK.C (fun a ha => au1_n (by omega)) (fun a k ha => azr_n (by omega)) (by rw [au2_n (by omega), azr_n (by omega)]) (by rw [au2_n (by omega), azr_n (by omega)])
              have hA1 : lyA (au1 S w9 (some (.inl (.int, 1)))) := ⟨by rw [au1_n (by omega)]; exact hK.A.1, by rw [au1_n (by omega)]; exact hK.A.2.1, by rw [au1_n (by omega)]; exact hK.A.2.2.1, by rw [au1_n (by omega)]; exact hK.A.2.2.2⟩
              refine g_aloadG_n hx dL_sky_175 rfl (nx := 176) rfl rfl ?_
              refine g_iloadG hx dL_sky_176 (nx := 178) rfl rfl ?_
              refine g_bipush hx dL_sky_178 (nx := 180) rfl (v := nI 8) (by decide) ?_
              refine g_idivN hx dL_sky_180 (nx := 181) rfl (by omega) (by omega) (by omega) ?_
              refine g_bipush hx dL_sky_181 (nx := 183) rfl (v := nI 8) (by decide) ?_
              refine g_imulN hx dL_sky_183 (nx := 184) rfl  ?_
              refine g_iloadG hx dL_sky_184 (nx := 186) rfl rfl ?_
              refine g_aloadG hx dL_sky_186 (nx := 188) rfl rfl ?_
              refine g_aloadG hx dL_sky_188 (nx := 190) rfl rfl ?_
              refine g_callS_M hx [_, _, _, _, _] (k' := k9 + 15) (n' := s9 + 91) dL_sky_190 (nx := 193) rfl lk_L_132 rfl (Nat.le_of_ble_eq_true rfl) (Nat.le_of_ble_eq_true rfl) (Nat.le_of_ble_eq_true rfl) (by show k9 + 1 + 14 ≤ k9 + 15; omega) (by show s9 + 1 + 90 ≤ s9 + 91; omega) (by omega) (by omega) (s_L_frames (w := w9) hst hC1 hn0 (by rw [au1_n (by omega)]; exact hK.A.2.1) (au1_s _ _ _) (by omega) (au2_s _ _ _ _) (lF_c hK.f (fun a k ha => by rw [au2_n (by omega), azr_n (by omega)])) (by omega) (by omega) (fun I2 q1 q2 => ?_))
              have q3 : ∀ a k, a ≠ 12 → a ≠ 204 → a ≠ 205 → a ≠ w9 → I2 a k = I a k := fun a k a1 a2 a3 a4 => by rw [q1 a k a1 a2 a3, au2_n (by omega), azr_n a4]
              have hK1 := sK_s (S' := (au1 S w9 (some (.inl (.int, 1))))) (L' := azr L w9 0) (R' := (azr Rf w9 none)) (o := oI I 0) hK hn0 (hC1.I (by rw [q1 _ _ (by decide) (by decide) (by decide)]) (by rw [q1 _ _ (by decide) (by decide) (by decide)])) hA1 (fun a k a1 a2 a3 a4 a5 a6 a7 a8 => q3 a k a3 a5 a6 (by omega)) (fun a k a1 => azr_n (by omega)) (cN6_e hc (fun k => q3 _ _ (by omega) (by omega) (by omega) (by omega))) ⟨(q3 _ _ (by omega) (by omega) (by omega) (by omega)).trans hK.t.1, hK.t.2⟩ (mK_e hK.m (fun k => q3 _ _ (by omega) (by omega) (by omega) (by omega))) q2 ((q3 _ _ (by omega) (by omega) (by omega) (by omega)).trans (hK.oo 0 hn0).1) (hK.oo 0 hn0).2
              refine g_istore_7 hx dL_sky_193 (nx := 195) rfl (by decide) rfl ?_
              refine g_goto hx dL_sky_195 (tg := 544) (by decide) ?_
              refine aG.widen (k' := k9 + 20) (n' := s9 + 640) (by omega) (by omega) (sky_tail hx hst hk9 hs9 hat hj hK1 hn0 (by omega) (by omega) (fun a a1 a2 => by rw [au1_n (by omega)]; exact hfree a (by omega) a2) (y := y) (zz := zz) (by omega) (by omega) go)
          · refine g_aloadG_n hx dL_sky_144 rfl (nx := 145) rfl rfl ?_
            refine g_iloadG hx dL_sky_145 (nx := 147) rfl rfl ?_
            refine g_iloadG hx dL_sky_147 (nx := 149) rfl rfl ?_
            refine g_aloadG_n hx dL_sky_149 rfl (nx := 150) rfl rfl ?_
            refine g_callS_M hx [_, _, _, _] (k' := k9 + 9) (n' := s9 + 568) dL_sky_150 (nx := 153) rfl lk_L_128 rfl (Nat.le_of_ble_eq_true rfl) (Nat.le_of_ble_eq_true rfl) (Nat.le_of_ble_eq_true rfl) (by show k9 + 0 + 9 ≤ k9 + 9; omega) (by show s9 + 0 + 568 ≤ s9 + 568; omega) (by omega) (by omega) (s_L_builds hst hK.C (by omega) hK.A.1 hc.1 hK.b.1 hK.b.2.1 hK.b.2.2.1 hK.b.2.2.2 (by omega) (by omega) (fun S1 I1 L1 R1 g1 g2 g3 g4 g5 g6 g7 g8 g9 g10 g11 => ?_))
            have hK1 := sK_builds hK (by omega) g1 g2 g3 g4 g5 g6 g7 g8 g9 g10 g11
            refine g_istore_7 hx dL_sky_153 (nx := 155) rfl (by decide) rfl ?_
            refine g_goto hx dL_sky_155 (tg := 544) (by decide) ?_
            refine aG.widen (k' := k9 + 20) (n' := s9 + 640) (by omega) (by omega) (sky_tail hx hst hk9 hs9 hat hj hK1 (Nat.succ_pos n) (by omega) (by omega) (fun a a1 a2 => by rw [g11 a (by omega)]; exact hfree a (by omega) a2) (y := y) (zz := zz) (by omega) (by omega) go)
      · refine g_iconst hx dL_sky_114 (nx := 115) rfl (v := nI 0) (by decide) ?_
        refine g_goto hx dL_sky_115 (tg := 123) (by decide) ?_
        refine g_istore_11 hx dL_sky_123 (nx := 125) rfl (by decide) rfl ?_
        refine g_iloadG hx dL_sky_125 (nx := 127) rfl rfl ?_
        refine g_bipush hx dL_sky_127 (nx := 129) rfl (v := nI 20) (by decide) ?_
        refine g_idivN hx dL_sky_129 (nx := 130) rfl (by omega) (by omega) (by omega) ?_
        obtain ⟨zz, hzz⟩ : ∃ k, k = x / 20 := ⟨_, rfl⟩
        rw [← hzz]
        refine g_istore_12 hx dL_sky_130 (nx := 132) rfl (by decide) rfl ?_
        refine g_iloadG hx dL_sky_132 (nx := 134) rfl rfl ?_
        refine g_if_neN hx dL_sky_134 (tg := 158) (by decide) (nx := 137) rfl (by omega) (fun c134 => ?_) (fun c134 => ?_)
        · exact absurd c134 (by decide)
        · refine g_aloadG_n hx dL_sky_137 rfl (nx := 138) rfl rfl ?_
          refine g_iconst hx dL_sky_138 (nx := 139) rfl (v := nI 0) (by decide) ?_
          refine g_ialoadN hx dL_sky_139 (nx := 140) rfl hK.A.1 (by decide) (by omega) (by decide) (v := nI n) (hc.1) ?_
          refine g_iconst hx dL_sky_140 (nx := 141) rfl (v := nI 4) (by decide) ?_
          refine g_icmp_geN hx dL_sky_141 (tg := 158) (by decide) (nx := 144) rfl (by omega) (by omega) (fun c141 => ?_) (fun c141 => ?_)
          · exact absurd c141 (by omega)
          · refine g_aloadG_n hx dL_sky_144 rfl (nx := 145) rfl rfl ?_
            refine g_iloadG hx dL_sky_145 (nx := 147) rfl rfl ?_
            refine g_iloadG hx dL_sky_147 (nx := 149) rfl rfl ?_
            refine g_aloadG_n hx dL_sky_149 rfl (nx := 150) rfl rfl ?_
            refine g_callS_M hx [_, _, _, _] (k' := k9 + 9) (n' := s9 + 568) dL_sky_150 (nx := 153) rfl lk_L_128 rfl (Nat.le_of_ble_eq_true rfl) (Nat.le_of_ble_eq_true rfl) (Nat.le_of_ble_eq_true rfl) (by show k9 + 0 + 9 ≤ k9 + 9; omega) (by show s9 + 0 + 568 ≤ s9 + 568; omega) (by omega) (by omega) (s_L_builds hst hK.C (by omega) hK.A.1 hc.1 hK.b.1 hK.b.2.1 hK.b.2.2.1 hK.b.2.2.2 (by omega) (by omega) (fun S1 I1 L1 R1 g1 g2 g3 g4 g5 g6 g7 g8 g9 g10 g11 => ?_))
            have hK1 := sK_builds hK (by omega) g1 g2 g3 g4 g5 g6 g7 g8 g9 g10 g11
            refine g_istore_7 hx dL_sky_153 (nx := 155) rfl (by decide) rfl ?_
            refine g_goto hx dL_sky_155 (tg := 544) (by decide) ?_
            refine aG.widen (k' := k9 + 20) (n' := s9 + 640) (by omega) (by omega) (sky_tail hx hst hk9 hs9 hat hj hK1 (Nat.succ_pos n) (by omega) (by omega) (fun a a1 a2 => by rw [g11 a (by omega)]; exact hfree a (by omega) a2) (y := y) (zz := zz) (by omega) (by omega) go)
