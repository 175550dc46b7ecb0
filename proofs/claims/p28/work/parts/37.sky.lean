set_option maxHeartbeats 4000000 in
set_option maxRecDepth 100000 in
theorem s_L_sky {l : Launch} {E : aE} {S : aS} {I : aI} {L : aL} {Rf : aR} {Kr : aK} {Kx : aX} (hst : l.stackTraces = false) {at0 : Nat} (hN : aSn E < 2 ^ 31) (hat : at0 ≤ 320) (h2 : S 2 = some (.inl (.float, 64))) (hS : ∀ a, 3 ≤ a → S a = none) (hk : ∀ S' I' L' R', Kr (some (.int (nI 1))) S' I' L' R') : aMet l E yL_sky cL_sky 15 (some .boolean) rmL_sky [.ref 1, .int (nI at0)] S I L Rf Kr Kx := by
  refine aMet.of (lv0 := [.ref 1, .int (nI at0), aU, aU, aU, aU, aU, aU, aU, aU, aU, aU, aU, aU, aU]) (z := 13) (by decide +kernel) hst rfl (Nat.le_of_ble_eq_true rfl) ?_
  intro p e s m args below meth c io0 hx hin hno
  have hx : aCx p l s m args meth c RL cL_sky 15 (some .boolean) E := hx
  have mloop : ∀ (r j : Nat) (S' : aS) (I' : aI) (L' : aL) (R' : aR) (n nc mk th c4 c5 : Nat) (w9 w10 w11 w12 w13 w14 : Value), j + r = 80 → sK S' I' L' R' n nc mk th c4 c5 → (0 < j → 0 < n) → c4 ≤ j → c5 ≤ j → (∀ a, 15 + j ≤ a → a < 100 → S' a = none) → aG p l e rmL_sky s m args below meth c E io0 S 15 (vx_MQ below (aQc E io0 S Kr) (aXC E io0 S Kx) args s rmL_sky.cells rmL_sky.slots (aW E)) 66 [.ref 1, .int (nI at0), .ref 3, .ref 11, .ref 12, .ref 13, .ref 14, .int (nI 1), .int (nI j), w9, w10, w11, w12, w13, w14] [] (S') (I') (L') (R') (200 + 32 * j) (2500 + 700 * j) := by
    intro r
    induction r with
    | zero =>
      intro j S' I' L' R' n nc mk th c4 c5 w9 w10 w11 w12 w13 w14 hj0 hK hj1 hc4 hc5 hfree
      have hj80 : 80 = j := by omega
      subst hj80
      have hn0 : 0 < n := hj1 (by decide)
      have hn4 := hK.n4
      have hc := hK.c
      refine g_iloadG hx dL_sky_66 (nx := 68) rfl rfl ?_
      refine g_bipush hx dL_sky_68 (nx := 70) rfl (v := nI 80) (by decide) ?_
      refine g_icmp_geN hx dL_sky_70 (tg := 640) (by decide) (nx := 73) rfl (by omega) (by omega) (fun c70 => ?_) (fun c70 => ?_)
      · refine g_iloadG hx dL_sky_640 (nx := 642) rfl rfl ?_
        refine g_if_eqN hx dL_sky_642 (tg := 674) (by decide) (nx := 645) rfl (by omega) (fun c642 => ?_) (fun c642 => ?_)
        · exact absurd c642 (by decide)
        · refine g_aloadG_n hx dL_sky_645 rfl (nx := 646) rfl rfl ?_
          refine g_aloadG_n hx dL_sky_646 rfl (nx := 647) rfl rfl ?_
          refine g_aloadG hx dL_sky_647 (nx := 649) rfl rfl ?_
          refine g_aloadG hx dL_sky_649 (nx := 651) rfl rfl ?_
          refine g_callS_M hx [_, _, _, _] (k' := 2767) (n' := 58545) dL_sky_651 (nx := 654) rfl lk_L_161 rfl (Nat.le_of_ble_eq_true rfl) (Nat.le_of_ble_eq_true rfl) (Nat.le_of_ble_eq_true rfl) (Nat.le_of_ble_eq_true rfl) (Nat.le_of_ble_eq_true rfl) (Nat.le_of_ble_eq_true rfl) (Nat.le_of_ble_eq_true rfl) (s_L_areClaims hst hK.C hK.A.1 hK.A.2.2.1 hK.A.2.2.2 hc.2.1 hK.si hK.oo hK.g hK.h (fun I1 L1 e1 e2 => ?_))
          have hK1 := sK_x2 hK hn0 e1 e2
          refine g_if_eqN hx dL_sky_654 (tg := 674) (by decide) (nx := 657) rfl (by omega) (fun c654 => ?_) (fun c654 => ?_)
          · exact absurd c654 (by decide)
          · refine g_aloadG_n hx dL_sky_657 rfl (nx := 658) rfl rfl ?_
            refine g_iconst hx dL_sky_658 (nx := 659) rfl (v := nI 0) (by decide) ?_
            refine g_bipush hx dL_sky_659 (nx := 661) rfl (v := nI 77) (by decide) ?_
            refine g_aloadG_n hx dL_sky_661 rfl (nx := 662) rfl rfl ?_
            refine g_aloadG hx dL_sky_662 (nx := 664) rfl rfl ?_
            refine g_callS_M hx [_, _, _, _, _] (k' := 2767) (n' := 58545) dL_sky_664 (nx := 667) rfl lk_L_165 rfl (Nat.le_of_ble_eq_true rfl) (Nat.le_of_ble_eq_true rfl) (Nat.le_of_ble_eq_true rfl) (Nat.le_of_ble_eq_true rfl) (Nat.le_of_ble_eq_true rfl) (Nat.le_of_ble_eq_true rfl) (Nat.le_of_ble_eq_true rfl) (s_L_isLight (mk := mk) (th := th) (o0 := oI _ 0) hst hK1.C hn0 hK1.A.1 hK1.A.2.1 hK1.f hK1.m hK1.c.2.2.2.1 hK1.c.2.2.1 hK1.t.1 hK1.t.2.2 (hK1.oo 0 hn0).1 (hK1.oo 0 hn0).2 (by decide) (fun I2 L2 i1 i2 i3 => ?_))
            refine g_if_eqN hx dL_sky_667 (tg := 674) (by decide) (nx := 670) rfl (by omega) (fun c667 => ?_) (fun c667 => ?_)
            · exact absurd c667 (by decide)
            · refine g_iconst hx dL_sky_670 (nx := 671) rfl (v := nI 1) (by decide) ?_
              refine g_goto hx dL_sky_671 (tg := 675) (by decide) ?_
              refine g_iret hx dL_sky_675 rfl (by first | rfl | decide) (Nat.le_of_ble_eq_true rfl) (Nat.le_of_ble_eq_true rfl) ?_
              exact hk _ _ _ _
      · exact absurd c70 (by decide)
    | succ r ih =>
      intro j S' I' L' R' n nc mk th c4 c5 w9 w10 w11 w12 w13 w14 hj0 hK hj1 hc4 hc5 hfree
      refine sky_turn (k9 := 200 + 32 * j) (s9 := 2500 + 700 * j) hx hst hN (by show _ ≤ 2860; omega) (by show _ ≤ 59000; omega) hat (by omega) hK hc4 hc5 hfree (fun S9 I9 L9 R9 n9 nc9 mk9 th9 c49 c59 v9 v10 v11 v12 v13 v14 q1 q2 q3 q4 q5 => ?_)
      have K9 := ih (j + 1) S9 I9 L9 R9 n9 nc9 mk9 th9 c49 c59 v9 v10 v11 v12 v13 v14 (by omega) q1 (fun _ => q2) q3 q4 q5
      rw [show 200 + 32 * (j + 1) = 200 + 32 * j + 32 from by omega, show 2500 + 700 * (j + 1) = 2500 + 700 * j + 700 from by omega] at K9
      exact K9
  refine g_new hx dL_sky_0 (nx := 3) rfl (ci := 3) rfl nw_L_11.1 nw_L_11.2.1 nw_L_11.2.2.1 nw_L_11.2.2.2 (q := 3) (hS 3 (by decide)) (by decide) (k' := 1) rfl (n' := 8) rfl (Nat.le_of_ble_eq_true rfl) (Nat.le_of_ble_eq_true rfl) ?_
  refine g_dup hx dL_sky_3 (nx := 4) rfl rfl ?_
  refine g_callI_M hx [] (k' := 14) (n' := 1131) dL_sky_4 (nx := 7) rfl lk_L_122 rfl (Nat.le_of_ble_eq_true rfl) (Nat.le_of_ble_eq_true rfl) (Nat.le_of_ble_eq_true rfl) (Nat.le_of_ble_eq_true rfl) (Nat.le_of_ble_eq_true rfl) (Nat.le_of_ble_eq_true rfl) (Nat.le_of_ble_eq_true rfl) (s_X3_init hst (by rw [au1_n (by decide)]; exact h2) (au1_s _ _ _) (fun k => azr_s _ _ _ _) (fun a a1 a2 => by rw [au1_n (by omega)]; exact hS a (by omega)) (fun j hj => by rw [au1_n (by omega)]; exact hS _ (by omega)) (fun a ha => by rw [au1_n (by omega)]; exact hS _ (by omega)) (fun k hk => by rw [au1_n (by omega)]; exact hS _ (by omega)) (fun S1 I1 L1 R1 g1 g2 g3 g4 g5 g6 g7 g8 g9 => ?_))
  have gS : ∀ a, 10 < a → a < 100 → S1 a = none := fun a a1 a2 => by rw [g2 a (by omega) (by omega), au1_n (by omega)]; exact hS a (by omega)
  refine g_astore_2 hx dL_sky_7 (nx := 8) rfl (by decide) rfl ?_
  refine g_bipush hx dL_sky_8 (nx := 10) rfl (v := nI 6) (by decide) ?_
  refine g_newarrayint hx dL_sky_10 (nx := 12) rfl ac_i (by decide) (N := 6) (by decide) (by decide) (q := 11) (gS 11 (by decide) (by decide)) (by decide) (k' := 15) rfl (n' := 1137) rfl (Nat.le_of_ble_eq_true rfl) (Nat.le_of_ble_eq_true rfl) ?_
  refine g_astore_3 hx dL_sky_12 (nx := 13) rfl (by decide) rfl ?_
  refine g_bipush hx dL_sky_13 (nx := 15) rfl (v := nI 64) (by decide) ?_
  refine g_newarrayint hx dL_sky_15 (nx := 17) rfl ac_i (by decide) (N := 64) (by decide) (by decide) (q := 12) (by rw [au1_n (by decide)]; exact gS 12 (by decide) (by decide)) (by decide) (k' := 16) rfl (n' := 1201) rfl (Nat.le_of_ble_eq_true rfl) (Nat.le_of_ble_eq_true rfl) ?_
  refine g_astore_4 hx dL_sky_17 (nx := 19) rfl (by decide) rfl ?_
  refine g_bipush hx dL_sky_19 (nx := 21) rfl (v := nI 40) (by decide) ?_
  refine g_newarrayint hx dL_sky_21 (nx := 23) rfl ac_i (by decide) (N := 40) (by decide) (by decide) (q := 13) (by rw [au1_n (by decide), au1_n (by decide)]; exact gS 13 (by decide) (by decide)) (by decide) (k' := 17) rfl (n' := 1241) rfl (Nat.le_of_ble_eq_true rfl) (Nat.le_of_ble_eq_true rfl) ?_
  refine g_astore_5 hx dL_sky_23 (nx := 25) rfl (by decide) rfl ?_
  refine g_bipush hx dL_sky_25 (nx := 27) rfl (v := nI 40) (by decide) ?_
  refine g_newarraylong hx dL_sky_27 (nx := 29) rfl ac_l (by decide) (N := 40) (by decide) (by decide) (q := 14) (by rw [au1_n (by decide), au1_n (by decide), au1_n (by decide)]; exact gS 14 (by decide) (by decide)) (by decide) (k' := 18) rfl (n' := 1281) rfl (Nat.le_of_ble_eq_true rfl) (Nat.le_of_ble_eq_true rfl) ?_
  refine g_astore_6 hx dL_sky_29 (nx := 31) rfl (by decide) rfl ?_
  refine g_iconst hx dL_sky_31 (nx := 32) rfl (v := nI 1) (by decide) ?_
  refine g_istore_7 hx dL_sky_32 (nx := 34) rfl (by decide) rfl ?_
  refine g_aloadG_n hx dL_sky_34 rfl (nx := 35) rfl rfl ?_
  refine g_iconst hx dL_sky_35 (nx := 36) rfl (v := nI 2) (by decide) ?_
  refine g_sipush hx dL_sky_36 (nx := 39) rfl (v := nI 1000) (by decide) ?_
  refine g_iastoreN hx dL_sky_39 (nx := 40) rfl (by rw [au1_n (by decide), au1_n (by decide), au1_n (by decide), au1_s]) (by decide) (by omega) (by decide) ?_
  refine g_bipush hx dL_sky_40 (nx := 42) rfl (v := nI 20) (by decide) ?_
  refine g_istore_8 hx dL_sky_42 (nx := 44) rfl (by decide) rfl ?_
  have hS4 : ∀ a, a ≠ 11 → a ≠ 12 → a ≠ 13 → a ≠ 14 → (au1 (au1 (au1 (au1 S1 11 (some (.inl (.int, 6)))) 12 (some (.inl (.int, 64)))) 13 (some (.inl (.int, 40)))) 14 (some (.inl (.long, 40)))) a = S1 a := fun a a1 a2 a3 a4 => by rw [au1_n a4, au1_n a3, au1_n a2, au1_n a1]
  have hR4 : ∀ a k, ¬ (10 < a ∧ a < 100) → (azr (azr (azr (azr R1 11 none) 12 none) 13 none) 14 none) a k = R1 a k := fun a k h => by rw [azr_n (by omega), azr_n (by omega), azr_n (by omega), azr_n (by omega)]
  have hI4 : ∀ a k, a ≠ 11 → a ≠ 12 → a ≠ 13 → a ≠ 14 → (au2 (azr (azr (azr (azr I1 11 0) 12 0) 13 0) 14 0) 11 2 (nI 1000)) a k = I1 a k := fun a k a1 a2 a3 a4 => by rw [au2_n (by omega), azr_n a4, azr_n a3, azr_n a2, azr_n a1]
  have h12 : (au1 (au1 (au1 (au1 S1 11 (some (.inl (.int, 6)))) 12 (some (.inl (.int, 64)))) 13 (some (.inl (.int, 40)))) 14 (some (.inl (.long, 40)))) 12 = some (.inl (.int, 64)) := by rw [au1_n (by decide), au1_n (by decide), au1_s]
  have hA4 : lyA (au1 (au1 (au1 (au1 S1 11 (some (.inl (.int, 6)))) 12 (some (.inl (.int, 64)))) 13 (some (.inl (.int, 40)))) 14 (some (.inl (.long, 40)))) := ⟨by rw [au1_n (by decide), au1_n (by decide), au1_n (by decide), au1_s], h12, by rw [au1_n (by decide), au1_s], au1_s _ _ _⟩
  have hfr : ∀ a, 15 + 0 ≤ a → a < 100 → (au1 (au1 (au1 (au1 S1 11 (some (.inl (.int, 6)))) 12 (some (.inl (.int, 64)))) 13 (some (.inl (.int, 40)))) 14 (some (.inl (.long, 40)))) a = none := fun a a1 a2 => by rw [hS4 a (by omega) (by omega) (by omega) (by omega)]; exact gS a (by omega) a2
  have loop1 : ∀ (r i : Nat) (J : aI), i + r = 40 → 20 ≤ i → (∀ a k, a ≠ 12 → J a k = (au2 (azr (azr (azr (azr I1 11 0) 12 0) 13 0) 14 0) 11 2 (nI 1000)) a k) → (∀ k, 20 ≤ k → k < i → J 12 k = -1) → (∀ k, k < 20 ∨ i ≤ k → J 12 k = 0) → aG p l e rmL_sky s m args below meth c E io0 S 15 (vx_MQ below (aQc E io0 S Kr) (aXC E io0 S Kx) args s rmL_sky.cells rmL_sky.slots (aW E)) 44 [.ref 1, .int (nI at0), .ref 3, .ref 11, .ref 12, .ref 13, .ref 14, .int (nI 1), .int (nI i), aU, aU, aU, aU, aU, aU] [] ((au1 (au1 (au1 (au1 S1 11 (some (.inl (.int, 6)))) 12 (some (.inl (.int, 64)))) 13 (some (.inl (.int, 40)))) 14 (some (.inl (.long, 40))))) (J) ((azr (azr (azr (azr L1 11 0) 12 0) 13 0) 14 0)) ((azr (azr (azr (azr R1 11 none) 12 none) 13 none) 14 none)) 18 1281 := by
    intro r
    induction r with
    | zero =>
      intro i J hi0 hi1 q1 q2 q3
      have hi : 40 = i := by omega
      subst hi
      refine g_iloadG hx dL_sky_44 (nx := 46) rfl rfl ?_
      refine g_bipush hx dL_sky_46 (nx := 48) rfl (v := nI 40) (by decide) ?_
      refine g_icmp_geN hx dL_sky_48 (tg := 63) (by decide) (nx := 51) rfl (by omega) (by omega) (fun c48 => ?_) (fun c48 => ?_)
      · refine g_iconst hx dL_sky_63 (nx := 64) rfl (v := nI 0) (by decide) ?_
        refine g_istore_8 hx dL_sky_64 (nx := 66) rfl (by decide) rfl ?_
        have c11 : ∀ k, k ≠ 2 → J 11 k = 0 := fun k hk => by rw [q1 11 k (by decide), au2_n (by omega), azr_n (by decide), azr_n (by decide), azr_n (by decide), azr_s]
        have cJ : ∀ a k, a ≠ 11 → a ≠ 12 → a ≠ 13 → a ≠ 14 → J a k = I1 a k := fun a k a1 a2 a3 a4 => (q1 a k a2).trans (hI4 a k a1 a2 a3 a4)
        have hK0 : sK (au1 (au1 (au1 (au1 S1 11 (some (.inl (.int, 6)))) 12 (some (.inl (.int, 64)))) 13 (some (.inl (.int, 40)))) 14 (some (.inl (.long, 40)))) J (azr (azr (azr (azr L1 11 0) 12 0) 13 0) 14 0) (azr (azr (azr (azr R1 11 none) 12 none) 13 none) 14 none) 0 0 0 1000 0 0 := by
          refine ⟨lyC_S g1 (fun a ha => hS4 a (by omega) (by omega) (by omega) (by omega)) hR4 (cJ _ _ (by decide) (by decide) (by decide) (by decide)) (cJ _ _ (by decide) (by decide) (by decide) (by decide)), by decide, hA4, ⟨c11 0 (by decide), c11 1 (by decide), ?_, c11 3 (by decide), c11 4 (by decide), c11 5 (by decide)⟩, ⟨?_, by decide, by decide⟩, ⟨by decide, fun s hs => ?_⟩, ⟨fun j hj => ⟨?_, ?_⟩, fun t ht _ => ?_, fun t ht => Or.inl ?_, fun t ht => ⟨0, by decide, ?_⟩⟩, fun k hk => absurd hk (Nat.not_lt_zero _), fun k hk => absurd hk (Nat.not_lt_zero _), fun k hk => absurd hk (Nat.not_lt_zero _), fun k hk => absurd hk (Nat.not_lt_zero _), fun k hk => absurd hk (Nat.not_lt_zero _), ?_, ?_, fun t ht => ?_, fun t ht => ?_⟩
          · rw [q1 11 2 (by decide), au2_s]
          · rw [cJ _ _ (by decide) (by decide) (by decide) (by decide), g4]; rfl
          · rw [cJ _ _ (by decide) (by decide) (by decide) (by decide), g5 s hs, Nat.zero_div]; rfl
          · rw [q2 _ (by omega) (by omega), cJ _ _ (by decide) (by decide) (by decide) (by decide), g8 _ (by omega)]
          · rw [q3 _ (by omega), cJ _ _ (by decide) (by decide) (by decide) (by decide), g9]
          · rw [cJ _ _ (by decide) (by decide) (by decide) (by decide)]; exact g8 t ht
          · rw [cJ _ _ (by decide) (by decide) (by decide) (by decide)]; exact g8 t ht
          · rw [cJ _ _ (by decide) (by decide) (by decide) (by decide)]; exact g9 t
          · show J 200 3 = nI 0
            rw [cJ _ _ (by decide) (by decide) (by decide) (by decide)]; exact g6
          · show J 200 13 = 0
            rw [cJ _ _ (by decide) (by decide) (by decide) (by decide)]; exact g7
          · show J 204 t = -1
            rw [cJ _ _ (by decide) (by decide) (by decide) (by decide)]; exact g8 t ht
          · show J 205 t = 0
            rw [cJ _ _ (by decide) (by decide) (by decide) (by decide)]; exact g9 t
        refine aG.widen (k' := 200 + 32 * 0) (n' := 2500 + 700 * 0) (by decide) (by decide) (mloop 80 0 _ _ _ _ _ _ _ _ _ _ _ _ _ _ _ _ (Nat.zero_add _) hK0 (fun z => absurd z (by decide)) (by decide) (by decide) hfr)
      · exact absurd c48 (by decide)
    | succ r ih =>
      intro i J hi0 hi1 q1 q2 q3
      refine g_iloadG hx dL_sky_44 (nx := 46) rfl rfl ?_
      refine g_bipush hx dL_sky_46 (nx := 48) rfl (v := nI 40) (by decide) ?_
      refine g_icmp_geN hx dL_sky_48 (tg := 63) (by decide) (nx := 51) rfl (by omega) (by omega) (fun c48 => ?_) (fun c48 => ?_)
      · exact absurd c48 (by omega)
      · refine g_aloadG hx dL_sky_51 (nx := 53) rfl rfl ?_
        refine g_iloadG hx dL_sky_53 (nx := 55) rfl rfl ?_
        refine g_iconst hx dL_sky_55 (nx := 56) rfl (v := (-1)) (by decide) ?_
        refine g_iastoreN hx dL_sky_56 (nx := 57) rfl h12 (by decide) (by omega) (by decide) ?_
        refine g_iincN_8 hx dL_sky_57 (nx := 60) rfl (by decide) (b := 1) (by decide) rfl ?_
        refine g_goto hx dL_sky_60 (tg := 44) (by decide) ?_
        refine ih (i + 1) (au2 J 12 i (-1)) (by omega) (by omega) (fun a k ha => by rw [au2_n (by omega)]; exact q1 a k ha) (fun k k1 k2 => ?_) (fun k hk => by rw [au2_n (by omega)]; exact q3 k (by omega))
        by_cases e9 : k = i
        · subst e9; exact au2_s _ _ _ _
        · rw [au2_n (by omega)]; exact q2 k k1 (by omega)
  exact loop1 20 20 _ (by decide) (by decide) (fun _ _ _ => rfl) (fun k k1 k2 => absurd k1 (by omega)) (fun k _ => by rw [au2_n (by omega), azr_n (by decide), azr_n (by decide), azr_s])

