/-! the law: its loop, its beginning, its end -/
set_option maxHeartbeats 4000000 in
set_option maxRecDepth 100000 in
theorem law_loop {p : Program} {l : Launch} {e : Env} {s : State} {m : MethodId} {args : Array Value} {below : List Frame} {meth : Method} {c : Code} {E : aE} {io0 : aM} {S0 : aS} {Q : State → Prop} {N : Nat} {xs : Nat → Int32} (hx : aCx p l s m args meth c RL cL_law 8 ret E) (hst : l.stackTraces = false) (hX9 : rlX N xs E io0 S0 s) (hN2 : N ≤ 2560)
    (fin : ∀ (S : aS) (I : aI) (L : aL) (R : aR) (lv : List Value) (k n : Nat), k ≤ 601024 → n ≤ 7293034 → aG p l e room_1 s m args below meth c E io0 S0 8 Q 1882 lv [.int 1] S I L R k n) :
    ∀ (r t : Nat) (S : aS) (I : aI) (L : aL) (Rf : aR), N < 5 * (t + r) + 5 → t ≤ 512 → Rel N xs S I L Rf → aG p l e room_1 s m args below meth c E io0 S0 8 Q 23 [.ref 1, .ref 3, .ref 20, .ref 10, .int (nI (5 * t)), aU, aU, aU] [] S I L Rf (42 + 9 * t) (5278 + 568 * t) := by
  intro r
  induction r with
  | zero =>
    intro t S I L Rf hr ht hR
    refine g_iloadG hx dL_law_23 (nx := 25) rfl rfl ?_
    refine g_aloadG_n hx dL_law_25 rfl (nx := 26) rfl rfl ?_
    refine g_slen hx dL_law_26 (nx := 27) rfl hX9 ?_
    refine g_iconst hx dL_law_27 (nx := 28) rfl (v := 5) (by decide) ?_
    refine g_isub hx dL_law_28 (nx := 29) rfl ?_
    refine g_icmp_gt hx dL_law_29 (tg := 1881) (by decide) (nx := 32) rfl (fun c29 => ?_) (fun c29 => ?_)
    · refine g_iconst hx dL_law_1881 (nx := 1882) rfl (v := 1) (by decide) ?_
      exact fin _ _ _ _ _ _ _ (by omega) (by omega)
    · exfalso
      apply c29
      have ee : (nI N - 5).toInt = (N : Int) - 5 := by
        rw [Int32.toInt_sub, nI_toInt (by omega), show (5 : Int32).toInt = 5 by decide, bm32 (by omega) (by omega)]
      rw [Int32.lt_iff_toInt_lt, ee, nI_toInt (by omega)]
      omega
  | succ r ih =>
    intro t S I L Rf hr ht hR
    refine g_iloadG hx dL_law_23 (nx := 25) rfl rfl ?_
    refine g_aloadG_n hx dL_law_25 rfl (nx := 26) rfl rfl ?_
    refine g_slen hx dL_law_26 (nx := 27) rfl hX9 ?_
    refine g_iconst hx dL_law_27 (nx := 28) rfl (v := 5) (by decide) ?_
    refine g_isub hx dL_law_28 (nx := 29) rfl ?_
    refine g_icmp_gt hx dL_law_29 (tg := 1881) (by decide) (nx := 32) rfl (fun c29 => ?_) (fun c29 => ?_)
    · refine g_iconst hx dL_law_1881 (nx := 1882) rfl (v := 1) (by decide) ?_
      exact fin _ _ _ _ _ _ _ (by omega) (by omega)
    · have ee : (nI N - 5).toInt = (N : Int) - 5 := by
        rw [Int32.toInt_sub, nI_toInt (by omega), show (5 : Int32).toInt = 5 by decide, bm32 (by omega) (by omega)]
      rw [Int32.lt_iff_toInt_lt, ee, nI_toInt (by omega)] at c29
      have hN : 5 * t + 5 ≤ N := by omega
      have hN3 : N < 2 ^ 31 := by omega
      have hk9 : 42 + 9 * t + 9 ≤ room_1.cells := by show _ ≤ 601024; omega
      have hn9 : 5278 + 568 * t + 568 ≤ room_1.slots := by show _ ≤ 7293034; omega
      have back : ∀ (S' : aS) (I' : aI) (L' : aL) (R' : aR) (w5 w6 w7 : Value), Rel N xs S' I' L' R' → aG p l e room_1 s m args below meth c E io0 S0 8 Q 1875 [.ref 1, .ref 3, .ref 20, .ref 10, .int (nI (5 * t)), w5, w6, w7] [] S' I' L' R' (42 + 9 * t + 9) (5278 + 568 * t + 568) := by
        intro S' I' L' R' w5 w6 w7 hR'
        refine g_iinc_4 hx dL_law_1875 (nx := 1878) rfl (by decide) (v := 5) (by decide) rfl ?_
        refine g_goto hx dL_law_1878 (tg := 23) (by decide) ?_
        have ei : nI (5 * t) + 5 = nI (5 * (t + 1)) := nI_add (5 * t) 5
        rw [ei, show 42 + 9 * t + 9 = 42 + 9 * (t + 1) by omega, show 5278 + 568 * t + 568 = 5278 + 568 * (t + 1) by omega]
        refine aG_lv (fun i v hi hk => ?_) (ih (t + 1) S' I' L' R' (by omega) (by omega) hR')
        match i, hi with
        | 0, hi => exact hi
        | 1, hi => exact hi
        | 2, hi => exact hi
        | 3, hi => exact hi
        | 4, hi => exact hi
        | 5, hi => cases hi; cases hk
        | 6, hi => cases hi; cases hk
        | 7, hi => cases hi; cases hk
        | i + 8, hi => simp at hi
      refine g_aloadG_n hx dL_law_32 rfl (nx := 33) rfl rfl ?_
      refine g_iloadG hx dL_law_33 (nx := 35) rfl rfl ?_
      refine g_scr hx dL_law_35 (nx := 36) rfl hX9 rfl (by omega) hN3 ?_
      refine g_bipush hx dL_law_36 (nx := 38) rfl (v := 31) (by decide) ?_
      refine g_iand hx dL_law_38 (nx := 39) rfl ?_
      obtain ⟨j, hj, ej⟩ := pk_andE (xs (5 * t)) (m := 31) 5 (by decide)
      rw [ej]
      match j, hj with
      | 0, _ => exact g_tabIn hx dL_law_39 (by decide +kernel) (by decide +kernel) (off := 113) rfl (tg := 152) (by decide) (lc_0 hx hst hX9 hN hN3 hk9 hn9 hR back)
      | 1, _ => exact g_tabIn hx dL_law_39 (by decide +kernel) (by decide +kernel) (off := 193) rfl (tg := 232) (by decide) (lc_1 hx hst hX9 hN hN3 hk9 hn9 hR back)
      | 2, _ => exact g_tabIn hx dL_law_39 (by decide +kernel) (by decide +kernel) (off := 249) rfl (tg := 288) (by decide) (lc_2 hx hst hX9 hN hN3 hk9 hn9 hR back)
      | 3, _ => exact g_tabIn hx dL_law_39 (by decide +kernel) (by decide +kernel) (off := 341) rfl (tg := 380) (by decide) (lc_3 hx hst hX9 hN hN3 hk9 hn9 hR back)
      | 4, _ => exact g_tabIn hx dL_law_39 (by decide +kernel) (by decide +kernel) (off := 409) rfl (tg := 448) (by decide) (lc_4 hx hst hX9 hN hN3 hk9 hn9 hR back)
      | 5, _ => exact g_tabIn hx dL_law_39 (by decide +kernel) (by decide +kernel) (off := 500) rfl (tg := 539) (by decide) (lc_5 hx hst hX9 hN hN3 hk9 hn9 hR back)
      | 6, _ => exact g_tabIn hx dL_law_39 (by decide +kernel) (by decide +kernel) (off := 556) rfl (tg := 595) (by decide) (lc_6 hx hst hX9 hN hN3 hk9 hn9 hR back)
      | 7, _ => exact g_tabIn hx dL_law_39 (by decide +kernel) (by decide +kernel) (off := 624) rfl (tg := 663) (by decide) (lc_7 hx hst hX9 hN hN3 hk9 hn9 hR back)
      | 8, _ => exact g_tabIn hx dL_law_39 (by decide +kernel) (by decide +kernel) (off := 680) rfl (tg := 719) (by decide) (lc_8 hx hst hX9 hN hN3 hk9 hn9 hR back)
      | 9, _ => exact g_tabIn hx dL_law_39 (by decide +kernel) (by decide +kernel) (off := 760) rfl (tg := 799) (by decide) (lc_9 hx hst hX9 hN hN3 hk9 hn9 hR back)
      | 10, _ => exact g_tabIn hx dL_law_39 (by decide +kernel) (by decide +kernel) (off := 828) rfl (tg := 867) (by decide) (lc_10 hx hst hX9 hN hN3 hk9 hn9 hR back)
      | 11, _ => exact g_tabIn hx dL_law_39 (by decide +kernel) (by decide +kernel) (off := 884) rfl (tg := 923) (by decide) (lc_11 hx hst hX9 hN hN3 hk9 hn9 hR back)
      | 12, _ => exact g_tabIn hx dL_law_39 (by decide +kernel) (by decide +kernel) (off := 952) rfl (tg := 991) (by decide) (lc_12 hx hst hX9 hN hN3 hk9 hn9 hR back)
      | 13, _ => exact g_tabIn hx dL_law_39 (by decide +kernel) (by decide +kernel) (off := 1008) rfl (tg := 1047) (by decide) (lc_13 hx hst hX9 hN hN3 hk9 hn9 hR back)
      | 14, _ => exact g_tabIn hx dL_law_39 (by decide +kernel) (by decide +kernel) (off := 1021) rfl (tg := 1060) (by decide) (lc_14 hx hst hX9 hN hN3 hk9 hn9 hR back)
      | 15, _ => exact g_tabIn hx dL_law_39 (by decide +kernel) (by decide +kernel) (off := 1089) rfl (tg := 1128) (by decide) (lc_15 hx hst hX9 hN hN3 hk9 hn9 hR back)
      | 16, _ => exact g_tabIn hx dL_law_39 (by decide +kernel) (by decide +kernel) (off := 1145) rfl (tg := 1184) (by decide) (lc_16 hx hst hX9 hN hN3 hk9 hn9 hR back)
      | 17, _ => exact g_tabIn hx dL_law_39 (by decide +kernel) (by decide +kernel) (off := 1237) rfl (tg := 1276) (by decide) (lc_17 hx hst hX9 hN hN3 hk9 hn9 hR back)
      | 18, _ => exact g_tabIn hx dL_law_39 (by decide +kernel) (by decide +kernel) (off := 1293) rfl (tg := 1332) (by decide) (lc_18 hx hst hX9 hN hN3 hk9 hn9 hR back)
      | 19, _ => exact g_tabIn hx dL_law_39 (by decide +kernel) (by decide +kernel) (off := 1373) rfl (tg := 1412) (by decide) (lc_19 hx hst hX9 hN hN3 hk9 hn9 hR back)
      | 20, _ => exact g_tabIn hx dL_law_39 (by decide +kernel) (by decide +kernel) (off := 1452) rfl (tg := 1491) (by decide) (lc_20 hx hst hX9 hN hN3 hk9 hn9 hR back)
      | 21, _ => exact g_tabIn hx dL_law_39 (by decide +kernel) (by decide +kernel) (off := 1519) rfl (tg := 1558) (by decide) (lc_21 hx hst hX9 hN hN3 hk9 hn9 hR back)
      | 22, _ => exact g_tabIn hx dL_law_39 (by decide +kernel) (by decide +kernel) (off := 1606) rfl (tg := 1645) (by decide) (lc_22 hx hst hX9 hN hN3 hk9 hn9 hR back)
      | 23, _ => exact g_tabIn hx dL_law_39 (by decide +kernel) (by decide +kernel) (off := 1705) rfl (tg := 1744) (by decide) (lc_23 hx hst hX9 hN hN3 hk9 hn9 hR back)
      | 24, _ => exact g_tabIn hx dL_law_39 (by decide +kernel) (by decide +kernel) (off := 1773) rfl (tg := 1812) (by decide) (lc_24 hx hst hX9 hN hN3 hk9 hn9 hR back)
      | j + 25, hj =>
        have h9 : (nI (j + 25)).toInt = ((j + 25 : Nat) : Int) := nI_toInt (by omega)
        exact g_tabOut hx dL_law_39 (Or.inr (by rw [h9]; omega)) (tg := 1875) (by decide) (aG.widen (Nat.le_add_right _ _) (Nat.le_add_right _ _) (back S I L Rf aU aU aU hR))
set_option maxHeartbeats 4000000 in
set_option maxRecDepth 100000 in
theorem law_begin {p : Program} {l : Launch} {e : Env} {s : State} {m : MethodId} {args : Array Value} {below : List Frame} {meth : Method} {c : Code} {E : aE} {io0 : aM} {S0 : aS} {Q : State → Prop} {N : Nat} {xs : Nat → Int32} {S : aS} {I : aI} {L : aL} {Rf : aR} (hx : aCx p l s m args meth c RL cL_law 8 ret E) (hst : l.stackTraces = false) (h1 : S 1 = some (.inl (.int, N))) (h2 : S 2 = some (.inl (.float, 64))) (hI : ∀ j, j < N → I 1 j = xs j) (hn : ∀ a, 3 ≤ a → S a = none)
    (go : ∀ (S' : aS) (I' : aI) (L' : aL) (R' : aR), Rel N xs S' I' L' R' → aG p l e room_1 s m args below meth c E io0 S0 8 Q 23 [.ref 1, .ref 3, .ref 20, .ref 10, .int (nI (5 * 0)), aU, aU, aU] [] S' I' L' R' (42 + 9 * 0) (5278 + 568 * 0)) : aG p l e room_1 s m args below meth c E io0 S0 8 Q 0 [.ref 1, aU, aU, aU, aU, aU, aU, aU] [] S I L Rf 0 0 := by
  refine g_new hx dL_law_0 (nx := 3) rfl (ci := 3) rfl nw_L_8.1 nw_L_8.2.1 nw_L_8.2.2.1 nw_L_8.2.2.2 (q := 3) (hn 3 (by decide)) (by decide) (k' := 1) rfl (n' := 8) rfl (Nat.le_of_ble_eq_true rfl) (Nat.le_of_ble_eq_true rfl) ?_
  refine g_dup hx dL_law_3 (nx := 4) rfl rfl ?_
  refine g_callI_M hx [] (k' := 14) (n' := 1131) dL_law_4 (nx := 7) rfl lk_L_97 rfl (Nat.le_of_ble_eq_true rfl) (Nat.le_of_ble_eq_true rfl) (Nat.le_of_ble_eq_true rfl) (Nat.le_of_ble_eq_true rfl) (Nat.le_of_ble_eq_true rfl) (Nat.le_of_ble_eq_true rfl) (Nat.le_of_ble_eq_true rfl) (s_X3_init hst (by rw [au1_n (by decide)]; exact h2) (au1_s _ _ _) (fun k => azr_s _ _ _ _) (fun a z1 z2 => by rw [au1_n (by omega)]; exact hn a (by omega)) (fun j z1 => by rw [au1_n (by omega)]; exact hn _ (by omega)) (fun a z1 => by rw [au1_n (by omega)]; exact hn _ (by omega)) (fun k z1 => by rw [au1_n (by omega)]; exact hn _ (by omega)) (fun S1 I1 L1 R1 gC eS eI w4 w5 w3 w13 wc ws => ?_))
  have bS : ∀ a, (a < 3 ∨ 9 < a) → (a < 200 ∨ 206 < a) → S1 a = S a := fun a z1 z2 => (eS a (by omega) z2).trans (au1_n (by omega))
  have bI : ∀ a k, (a < 3 ∨ 9 < a) → (a < 200 ∨ 206 < a) → I1 a k = I a k := fun a k z1 z2 => (eI a k z1 z2).1.trans (azr_n (by omega))
  have h13 : S1 3 = some (.inr 3) := gC.1.1 0 _ rfl
  refine g_astore_1 hx dL_law_7 (nx := 8) rfl (by decide) rfl ?_
  refine g_new hx dL_law_8 (nx := 11) rfl (ci := 4) rfl nw_L_98.1 nw_L_98.2.1 nw_L_98.2.2.1 nw_L_98.2.2.2 (q := 20) ((bS 20 (by omega) (by omega)).trans (hn 20 (by decide))) (by decide) (k' := 15) rfl (n' := 1163) rfl (Nat.le_of_ble_eq_true rfl) (Nat.le_of_ble_eq_true rfl) ?_
  refine g_dup hx dL_law_11 (nx := 12) rfl rfl ?_
  refine g_callI_M hx [] (k' := 41) (n' := 5277) dL_law_12 (nx := 15) rfl lk_L_100 rfl (Nat.le_of_ble_eq_true rfl) (Nat.le_of_ble_eq_true rfl) (Nat.le_of_ble_eq_true rfl) (Nat.le_of_ble_eq_true rfl) (Nat.le_of_ble_eq_true rfl) (Nat.le_of_ble_eq_true rfl) (Nat.le_of_ble_eq_true rfl) (s_X4_init hst (au1_s _ _ _) (fun k => azr_s _ _ _ _) (fun a z1 z2 => by rw [au1_n (by omega)]; exact (bS a (by omega) (by omega)).trans (hn a (by omega))) (fun S2 I2 L2 R2 gM eS2 eI2 w20 wT w31 w32 w33 w35 => ?_))
  have cS : ∀ a, (a < 20 ∨ 50 < a) → S2 a = S1 a := fun a z => (eS2 a z).trans (au1_n (by omega))
  have cI : ∀ a b, (a < 20 ∨ 50 < a) → I2 a b = I1 a b := fun a b z => (eI2 a b z).1.trans (azr_n (by omega))
  have cR : ∀ a b, (a < 20 ∨ 50 < a) → R2 a b = R1 a b := fun a b z => (eI2 a b z).2.2.trans (azr_n (by omega))
  refine g_astore_2 hx dL_law_15 (nx := 16) rfl (by decide) rfl ?_
  refine g_iconst hx dL_law_16 (nx := 17) rfl (v := 1) (by decide) ?_
  refine g_newarraylong hx dL_law_17 (nx := 19) rfl ac_l (by decide) (N := 1) (by decide) (by decide) (q := 10) ((cS 10 (by omega)).trans ((bS 10 (by omega) (by omega)).trans (hn 10 (by decide)))) (by decide) (k' := 42) rfl (n' := 5278) rfl (Nat.le_of_ble_eq_true rfl) (Nat.le_of_ble_eq_true rfl) ?_
  refine g_astore_3 hx dL_law_19 (nx := 20) rfl (by decide) rfl ?_
  refine g_iconst hx dL_law_20 (nx := 21) rfl (v := 0) (by decide) ?_
  refine g_istore_4 hx dL_law_21 (nx := 23) rfl (by decide) rfl ?_
  refine go _ _ _ _ ⟨0, 0, 0, ?_, ?_, ⟨?_, ?_, ?_⟩, ⟨?_, ?_, ?_, ?_, ?_⟩, ⟨Nat.zero_le _, ?_, ?_, fun i hi => absurd hi (Nat.not_lt_zero _)⟩, ⟨?_, ?_, ?_⟩, fun k hk => absurd hk (Nat.not_lt_zero _), fun k hk => absurd hk (Nat.not_lt_zero _), fun k hk => absurd hk (Nat.not_lt_zero _)⟩
  · obtain ⟨a1, a2, a3, a4, a5, a6, a7, a8, a9, a10, a11⟩ := gC
    have dS : ∀ a, (a < 20 ∨ 50 < a) → a ≠ 10 → au1 S2 10 (some (.inl (.long, 1))) a = S1 a := fun a z1 z2 => (au1_n z2).trans (cS a z1)
    have dR : ∀ a b, (a < 20 ∨ 50 < a) → a ≠ 10 → azr R2 10 none a b = R1 a b := fun a b z1 z2 => (azr_n z2).trans (cR a b z1)
    have dI : ∀ a b, (a < 20 ∨ 50 < a) → a ≠ 10 → azr I2 10 0 a b = I1 a b := fun a b z1 z2 => (azr_n z2).trans (cI a b z1)
    refine ⟨⟨fun j x hj => ?_, ?_, ?_, ?_, ?_, ?_, ?_, ?_⟩, a2, a3, ?_, ?_, ?_, fun k hk => ⟨fun j x hj => ?_, fun q j hj => ?_, (a7 k hk).2.2⟩, fun k hk => absurd hk (Nat.not_lt_zero _), fun k hk => absurd hk (Nat.not_lt_zero _), fun a ha => ?_, fun k z1 z2 => ?_⟩
    · have hj7 : j ≤ 6 := Nat.not_lt.mp fun z => by
        match j, z, hj with
        | j + 7, _, hj => cases hj
      rw [dS _ (by omega) (by omega)]; exact a1.1 j x hj
    · rw [dR _ _ (by omega) (by omega)]; exact a1.2.1
    · rw [dR _ _ (by omega) (by omega)]; exact a1.2.2.1
    · rw [dR _ _ (by omega) (by omega)]; exact a1.2.2.2.1
    · rw [dR _ _ (by omega) (by omega)]; exact a1.2.2.2.2.1
    · rw [dR _ _ (by omega) (by omega)]; exact a1.2.2.2.2.2.1
    · rw [dR _ _ (by omega) (by omega)]; exact a1.2.2.2.2.2.2.1
    · rw [dS _ (by omega) (by omega)]; exact a1.2.2.2.2.2.2.2
    · rw [dI _ _ (by omega) (by omega)]; exact a4
    · rw [dI _ _ (by omega) (by omega)]; exact a5
    · rw [dR _ _ (by omega) (by omega)]; exact a6
    · rw [dS _ (by omega) (by omega)]; exact (a7 k hk).1 j x hj
    · rw [dR _ _ (by omega) (by omega)]; exact (a7 k hk).2.1 q j hj
    · rw [dS _ (by omega) (by omega)]; exact a10 a ha
    · rw [dS _ (by omega) (by omega)]; exact a11 k z1 z2
  · exact gM.c (fun a z1 z2 => au1_n (by omega)) (fun k => azr_n (by omega))
  · rw [au1_n (by omega)]; exact (cS 1 (by omega)).trans ((bS 1 (by omega) (by omega)).trans h1)
  · intro j hj
    rw [azr_n (by omega)]; exact (cI 1 j (by omega)).trans ((bI 1 j (by omega) (by omega)).trans (hI j hj))
  · exact au1_s _ _ _
  · rw [azr_n (by omega)]; exact w20 4
  · rw [azr_n (by omega)]; exact w20 21
  · exact wT.y (fun b => azr_n (by omega))
  · rw [azr_n (by omega), azr_n (by omega), cI 3 4 (by omega), w4]; exact w20 14
  · intro j hj
    rw [azr_n (by omega), azr_n (by omega), w33, cI 5 j (by omega), w5 j hj]
    exact ⟨rfl, Or.inl rfl⟩
  · rw [azr_n (by omega), cI _ _ (by omega)]; exact w3
  · rw [azr_n (by omega)]; exact w20 0
  · rw [azr_n (by omega), cI _ _ (by omega)]; exact w13
  · intro t ht
    rw [azr_n (by omega), azr_n (by omega), cI _ _ (by omega), cI _ _ (by omega)]
    exact ⟨wc t ht, ws t⟩
  · intro k z1 z2
    refine ⟨by rw [azr_n (by omega)]; exact w35 k, fun t ht => ?_⟩
    rw [azr_n (by omega), azr_n (by omega)]
    exact ⟨w31 _ (by omega), w32 _⟩
