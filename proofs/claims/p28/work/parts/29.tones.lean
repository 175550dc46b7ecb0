/-! the law: tones -/
theorem prs_e {I J : aI} {b : Nat} (h4 : ∀ t, J (b + 4) t = I (b + 4) t) (h5 : ∀ t, J (b + 5) t = I (b + 5) t) (hm : ∀ j, J 5 j = I 5 j) : prs J b = prs I b := by
  funext t
  simp only [prs]
  rw [h4, h5, hm]
theorem laid_e {I J : aI} {b : Nat} (h4 : ∀ t, J (b + 4) t = I (b + 4) t) (h5 : ∀ t, J (b + 5) t = I (b + 5) t) (h6 : ∀ t, J (b + 6) t = I (b + 6) t) (hm : ∀ j, J 5 j = I 5 j) (x : Int32) (k : Nat) : laid J b x k = laid I b x k := by
  have e : cts J b = cts I b := funext fun t => by simp only [cts]; rw [h4]
  have e2 : (fun i => J (b + 6) i) = fun i => I (b + 6) i := funext h6
  simp only [laid]
  rw [prs_e h4 h5 hm, e, e2]
theorem pkP_x {I J : aI} {b o : Nat} {x y : Int32} (h : eqX J I) (hb : 100 ≤ b) : pkP J b x o y ↔ pkP I b x o y := by
  unfold pkP
  rw [prs_x h hb, laid_x h hb, h 3 4 (by decide) (by decide) (by decide)]
/-- a claim more, on both sides -/
def grew (n nc : Nat) (S : aS) (I : aI) (S' : aS) (I' : aI) (L' : aL) (R' : aR) : Prop := lyC S' R' I' n (nc + 1) ∧ (∀ a, a ≠ 100 + nc → S' a = S a) ∧ (∀ a k, a ≠ 7 → a ≠ 8 → a ≠ 9 → a ≠ 100 + nc → a ≠ 13 → ¬ (a = 3 ∧ k = 6) → ¬ (a = 11 ∧ k = 1) → I' a k = I a k) ∧ gC I' L' n (nc + 1) ∧ gH I' (nc + 1) (sv I') ∧ I' 11 1 = nI (nc + 1) ∧ nc < 40
theorem gH.xs {I J : aI} {nc : Nat} (h : gH I nc (sv I)) (e : eqX J I) : gH J nc (sv J) := fun i hi => by
  have e2 : sv J i = sv I i := by unfold sv; rw [e _ _ (by omega) (by omega) (by omega)]
  rw [e2]; exact h.x e i hi
theorem grew.x {n nc : Nat} {S S' : aS} {I I' I2 : aI} {L' L2 : aL} {R' : aR} (h : grew n nc S I S' I' L' R') (e : eqX I2 I') (e2 : eqX L2 L') : grew n nc S I S' I2 L2 R' := by
  obtain ⟨h1, h2, h3, h4, h5, h6, h7⟩ := h
  exact ⟨h1.I (e _ _ (by decide) (by decide) (by decide)) (e _ _ (by decide) (by decide) (by decide)), h2, fun a k a1 a2 a3 a4 a5 a6 a7 => (e a k a1 a2 a3).trans (h3 a k a1 a2 a3 a4 a5 a6 a7), h4.x e e2, h5.xs e, (e _ _ (by decide) (by decide) (by decide)).trans h6, h7⟩
theorem bqP_or {a b : Int64} {j : Nat} (hj : j < 40) : bqP (a ||| b) j ↔ bqP a j ∨ bqP b j := by rw [bqP_bt hj, bqP_bt hj, bqP_bt hj, or_bt]
theorem bqP_bit1 {k j : Nat} (hk : k < 40) (hj : j < 40) : bqP (bitL (nI k)) j ↔ j = k := by rw [bqP_bt hj, bit_bt hk]
theorem bqP_0 {j : Nat} (hj : j < 40) : ¬ bqP 0 j := by
  rw [bqP_bt hj]
  intro z
  have : (0#64).getLsbD j = true := z
  rw [BitVec.getLsbD_zero] at this; cases this
theorem grew_of {n nc kd sr ln dc : Nat} {S S1 : aS} {I I0 I1 : aI} {L L1 : aL} {R R1 : aR} {fl : Int32} {po : Int64} {ag : Int32} {ci : Int64} (hlt : nc < 40) (hn6 : n ≤ 6) (hN : newC n nc S I L R S1 I1 L1 R1 (nI kd) (nI sr) (nI ln) fl (nI dc) po ag ci) (hG : gC I L n nc) (hH : gH I nc (sv I)) (e0 : eqX I I0)
    (b0 : kd ≤ 2) (b2 : sr < n) (b3 : ln < 32) (b4 : dc ≤ 6) (hA : kd = 1 → ∃ a, a < 100 ∧ ag = nI a) (hB : kd ≠ 1 → ag = -1) (hc : ci.toBitVec.toNat < 2 ^ nc) (hx : ∀ j, j < nc → bqP ci j → I (100 + j) 8 ≠ 0) :
    grew n nc S I0 S1 (au2 (au2 I1 13 nc (nI (100000 * kd + 10000 + 1000 * sr + ln))) 11 1 (nI (nc + 1))) (au2 L1 14 nc ci) R1 := by
  obtain ⟨h1, h2, h3, h4, h5, k0, k1, k2, k3, k4, k5, k6, k7, k8⟩ := hN
  have eI : ∀ a k, a ≠ 13 → ¬ (a = 11 ∧ k = 1) → au2 (au2 I1 13 nc (nI (100000 * kd + 10000 + 1000 * sr + ln))) 11 1 (nI (nc + 1)) a k = I1 a k := fun a k a1 a2 => by rw [au2_n a2, au2_n (by omega)]
  have eL : ∀ a k, a ≠ 14 → au2 L1 14 nc ci a k = L1 a k := fun a k a1 => au2_n (by omega)
  refine ⟨h1.I (eI _ _ (by decide) (by omega)) (eI _ _ (by decide) (by omega)), h2, fun a k a1 a2 a3 a4 a5 a6 a7 => by rw [eI a k a5 a7, h3 a k a1 a2 a3 a4 a6]; exact e0 a k a1 a2 a3, fun i hi => ?_, fun i hi => ?_, au2_s _ _ _ _, hlt⟩
  · by_cases e : i = nc
    · subst e
      refine ⟨⟨kd, 1, sr, ln, dc, ⟨b0, by omega, b2, b3, b4⟩, ?_, ?_, ?_, ?_, ?_, fun z => ?_, fun z => ?_⟩, ⟨?_, ?_⟩, fun _ j hj hb => ?_⟩
      · rw [eI _ _ (by omega) (by omega)]; exact k0
      · rw [eI _ _ (by omega) (by omega)]; exact k1
      · rw [eI _ _ (by omega) (by omega)]; exact k2
      · rw [eI _ _ (by omega) (by omega)]; exact k4
      · rw [eI _ _ (by omega) (by omega)]; exact k8
      · rw [eI _ _ (by omega) (by omega), k6]; exact hA z
      · rw [eI _ _ (by omega) (by omega), k6]; exact hB z
      · rw [eL (100 + i) 7 (by omega), k7]; exact hc
      · rw [eL (100 + i) 7 (by omega), k7]; exact au2_s _ _ _ _
      · rw [eL _ _ (by omega), k7] at hb
        rw [eI _ _ (by omega) (by omega), h3 _ _ (by omega) (by omega) (by omega) (by omega) (by omega)]
        exact hx j hj hb
    · have hi' : i < nc := by omega
      obtain ⟨g1, ⟨g2, g3⟩, g4⟩ := hG i hi'
      have eC : ∀ k, au2 (au2 I1 13 nc (nI (100000 * kd + 10000 + 1000 * sr + ln))) 11 1 (nI (nc + 1)) (100 + i) k = I (100 + i) k := fun k => by rw [eI _ _ (by omega) (by omega), h3 _ _ (by omega) (by omega) (by omega) (by omega) (by omega)]
      refine ⟨g1.x eC, ⟨?_, ?_⟩, fun z j hj hb => ?_⟩
      · rw [eL (100 + i) 7 (by omega), h4 _ _ (by omega) (by omega) (by omega) (by omega)]; exact g2
      · rw [eL (100 + i) 7 (by omega), h4 (100 + i) 7 (by omega) (by omega) (by omega) (by omega), au2_n (by omega), h4 14 i (by omega) (by omega) (by omega) (by omega)]; exact g3
      · rw [eC] at z
        rw [eL _ _ (by omega), h4 _ _ (by omega) (by omega) (by omega) (by omega)] at hb
        rw [eI _ _ (by omega) (by omega), h3 _ _ (by omega) (by omega) (by omega) (by omega) (by omega)]
        exact g4 z j hj hb
  · by_cases e : i = nc
    · subst e
      unfold clH sv
      rw [eI (100 + i) 0 (by omega) (by omega), eI (100 + i) 1 (by omega) (by omega), eI (100 + i) 2 (by omega) (by omega), eI (100 + i) 8 (by omega) (by omega), k0, k1, k2, k8, nI_clamp (by omega), nI_clamp (by omega), nI_clamp (by omega), au2_n (by omega), au2_s]
      congr 1
    · have eC : ∀ k, au2 (au2 I1 13 nc (nI (100000 * kd + 10000 + 1000 * sr + ln))) 11 1 (nI (nc + 1)) (100 + i) k = I (100 + i) k := fun k => by rw [eI _ _ (by omega) (by omega), h3 _ _ (by omega) (by omega) (by omega) (by omega) (by omega)]
      have e2 : sv (au2 (au2 I1 13 nc (nI (100000 * kd + 10000 + 1000 * sr + ln))) 11 1 (nI (nc + 1))) i = sv I i := by unfold sv; rw [eC]
      rw [e2]
      refine (hH i (by omega)).x eC ?_
      rw [au2_n (by omega), au2_n (by omega), h3 _ _ (by omega) (by omega) (by omega) (by omega) (by omega)]
abbrev rmL_tones : Room := { frames := 9, cells := 14, slots := 90, locals := 192 }
set_option maxHeartbeats 4000000 in
set_option maxRecDepth 100000 in
theorem s_L_tones {l : Launch} {E : aE} {S : aS} {I : aI} {L : aL} {Rf : aR} {Kr : aK} {Kx : aX} (hst : l.stackTraces = false) {n nc x : Nat} (hC : lyC S Rf I n nc) (hn0 : 0 < n) (h11 : S 11 = some (.inl (.int, 6))) (h13 : S 13 = some (.inl (.int, 40))) (h14 : S 14 = some (.inl (.long, 40))) (hc0 : I 11 0 = nI n) (hc1 : I 11 1 = nI nc) (hsi : gSI I n) (hoo : gOO I n) (hG : gC I L n nc) (hH : gH I nc (sv I)) (hx9 : x < 2 ^ 30) (hk1 : ∀ I' L', eqX I' I → gC I' L' n nc → Kr (some (.int (nI 1))) S I' L' Rf) (hk2 : ∀ S' I' L' R', grew n nc S I S' I' L' R' → Kr (some (.int (nI 1))) S' I' L' R') : aMet l E yL_tones cL_tones 9 (some .boolean) rmL_tones [.ref 3, .int (nI x), .ref 11, .ref 13, .ref 14] S I L Rf Kr Kx := by
  refine aMet.of (lv0 := [.ref 3, .int (nI x), .ref 11, .ref 13, .ref 14, aU, aU, aU, aU]) (z := 4) (by decide +kernel) hst rfl (Nat.le_of_ble_eq_true rfl) ?_
  intro p e s m args below meth c io0 hx hin hno
  have hx : aCx p l s m args meth c RL cL_tones 9 (some .boolean) E := hx
  have hX := hC.1
  have hn6 := hC.2.1
  have hc40 := hC.2.2.1
  obtain ⟨kk, hkk⟩ : ∃ k, k = x % n := ⟨_, rfl⟩
  have hk9 : kk < n := by rw [hkk]; exact Nat.mod_lt _ hn0
  obtain ⟨fl, hfl⟩ : ∃ k, k = x / 8 % 3 := ⟨_, rfl⟩
  have hfl3 : fl < 3 := by omega
  have J80A : ∀ (I' : aI) (L' : aL) (w8 : Value), eqX I' I → eqX L' L → aG p l e rmL_tones s m args below meth c E io0 S 9 (vx_MQ below (aQc E io0 S Kr) (aXC E io0 S Kx) args s rmL_tones.cells rmL_tones.slots (aW E)) 80 [.ref 3, .int (nI x), .ref 11, .ref 13, .ref 14, .int (nI kk), .int (nI fl), .int (-1), w8] [] (S) (I') (L') (Rf) 0 0 := by
    intro I' L' w8 ex ex2
    have hC' : lyC S Rf I' n nc := hC.I (ex _ _ (by decide) (by decide) (by decide)) (ex _ _ (by decide) (by decide) (by decide))
    have hs' := hsi.x ex
    have ho' := hoo.x ex
    have hG' := hG.x ex ex2
    have hH' := hH.xs ex
    have hc1' : I' 11 1 = nI nc := (ex _ _ (by decide) (by decide) (by decide)).trans hc1
    refine g_iloadG hx dL_tones_80 (nx := 82) rfl rfl ?_
    refine g_if_lt hx dL_tones_82 (tg := 93) (by decide) (nx := 85) rfl (fun c82 => ?_) (fun c82 => ?_)
    · refine g_aloadG_n hx dL_tones_93 rfl (nx := 94) rfl rfl ?_
      refine g_iconst hx dL_tones_94 (nx := 95) rfl (v := nI 2) (by decide) ?_
      refine g_iloadG hx dL_tones_95 (nx := 97) rfl rfl ?_
      refine g_iloadG hx dL_tones_97 (nx := 99) rfl rfl ?_
      refine g_bipush hx dL_tones_99 (nx := 101) rfl (v := nI 31) (by decide) ?_
      refine g_callW hx [_, _, _, _, _] (k' := 7) (n' := 45) dL_tones_101 (nx := 104) rfl lk_L_95 rfl (Nat.le_of_ble_eq_true rfl) (Nat.le_of_ble_eq_true rfl) (Nat.le_of_ble_eq_true rfl) (Nat.le_of_ble_eq_true rfl) (Nat.le_of_ble_eq_true rfl) (Nat.le_of_ble_eq_true rfl) (Nat.le_of_ble_eq_true rfl) (s_asks_claimTone hst hC' hs' ho' hk9 hfl3 (by decide) (fun e9 I2 L2 e1 e2 => ?_) (fun e1 e2 e3 S2 I2 L2 R2 e4 => ?_))
      · refine g_ldc2 hx dL_tones_104 (nx := 107) rfl kl_L_52 ?_
        refine g_lc_ne hx dL_tones_107 (p2 := 108) rfl dL_tones_108 (tg := 115) (by decide) (nx := 111) rfl (fun c107 => ?_) (fun c107 => ?_)
        · exact absurd rfl c107
        · refine g_iconst hx dL_tones_111 (nx := 112) rfl (v := nI 1) (by decide) ?_
          refine g_goto hx dL_tones_112 (tg := 116) (by decide) ?_
          refine g_iret hx dL_tones_116 rfl (by first | rfl | decide) (Nat.le_of_ble_eq_true rfl) (Nat.le_of_ble_eq_true rfl) ?_
          exact hk1 I2 L2 (e1.trans ex) ((hG.x ex ex2).x e1 e2)
      · obtain ⟨k9, z1, z2, z3⟩ := e2
        have := nI_inj (by decide) (by omega) z3
        omega
    · exact absurd (by decide) c82
  have J80B : ∀ (I' : aI) (L' : aL) (ln : Nat) (w8 : Value), eqX I' I → eqX L' L → 1 ≤ ln → ln ≤ 30 → pkP I' (200 + 8 * kk) (nI fl) (oI I' kk) (nI ln) → aG p l e rmL_tones s m args below meth c E io0 S 9 (vx_MQ below (aQc E io0 S Kr) (aXC E io0 S Kx) args s rmL_tones.cells rmL_tones.slots (aW E)) 80 [.ref 3, .int (nI x), .ref 11, .ref 13, .ref 14, .int (nI kk), .int (nI fl), .int (nI ln), w8] [] (S) (I') (L') (Rf) 0 0 := by
    intro I' L' ln w8 ex ex2 hl1 hl2 hpk
    have hC' : lyC S Rf I' n nc := hC.I (ex _ _ (by decide) (by decide) (by decide)) (ex _ _ (by decide) (by decide) (by decide))
    have hs' := hsi.x ex
    have ho' := hoo.x ex
    have hG' := hG.x ex ex2
    have hH' := hH.xs ex
    have hc1' : I' 11 1 = nI nc := (ex _ _ (by decide) (by decide) (by decide)).trans hc1
    refine g_iloadG hx dL_tones_80 (nx := 82) rfl rfl ?_
    refine g_if_ltN hx dL_tones_82 (tg := 93) (by decide) (nx := 85) rfl (by omega) (fun c82 => ?_) (fun c82 => ?_)
    · exact absurd c82 (by omega)
    · refine g_aloadG_n hx dL_tones_85 rfl (nx := 86) rfl rfl ?_
      refine g_iconst hx dL_tones_86 (nx := 87) rfl (v := nI 1) (by decide) ?_
      refine g_ialoadN hx dL_tones_87 (nx := 88) rfl h11 (by decide) (by omega) (by decide) (v := nI nc) (hc1') ?_
      refine g_bipush hx dL_tones_88 (nx := 90) rfl (v := nI 40) (by decide) ?_
      refine g_icmp_neN hx dL_tones_90 (tg := 117) (by decide) (nx := 93) rfl (by omega) (by omega) (fun c90 => ?_) (fun c90 => ?_)
      · refine g_aloadG_n hx dL_tones_117 rfl (nx := 118) rfl rfl ?_
        refine g_aloadG_n hx dL_tones_118 rfl (nx := 119) rfl rfl ?_
        refine g_iconst hx dL_tones_119 (nx := 120) rfl (v := nI 2) (by decide) ?_
        refine g_iloadG hx dL_tones_120 (nx := 122) rfl rfl ?_
        refine g_iloadG hx dL_tones_122 (nx := 124) rfl rfl ?_
        refine g_iloadG hx dL_tones_124 (nx := 126) rfl rfl ?_
        refine g_callW hx [_, _, _, _, _] (k' := 7) (n' := 45) dL_tones_126 (nx := 129) rfl lk_L_95 rfl (Nat.le_of_ble_eq_true rfl) (Nat.le_of_ble_eq_true rfl) (Nat.le_of_ble_eq_true rfl) (Nat.le_of_ble_eq_true rfl) (Nat.le_of_ble_eq_true rfl) (Nat.le_of_ble_eq_true rfl) (Nat.le_of_ble_eq_true rfl) (s_asks_claimTone hst hC' hs' ho' hk9 hfl3 (by omega) (fun e9 I2 L2 e1 e2 => ?_) (fun hlt _ _ S2 I2 L2 R2 hN => ?_))
        · exact absurd ⟨by omega, ⟨ln, hl1, hl2, rfl⟩, hpk⟩ e9
        · have hS2 := hN.2.1
          have h11' : S2 11 = some (.inl (.int, 6)) := by rw [hS2 _ (by omega)]; exact h11
          have h13' : S2 13 = some (.inl (.int, 40)) := by rw [hS2 _ (by omega)]; exact h13
          have h14' : S2 14 = some (.inl (.long, 40)) := by rw [hS2 _ (by omega)]; exact h14
          have hX2 := hN.1.1
          have hI2 := hN.2.2.1
          have hW := grew_of (kd := 0) hlt hn6 hN hG' hH' ex (by decide) hk9 (by omega) (ho' kk hk9).2 (fun z => absurd z (by decide)) (fun _ => rfl) (show (0 : Int64).toBitVec.toNat < 2 ^ nc from Nat.two_pow_pos nc) (fun j hj hb => absurd hb (bqP_0 (by omega)))
          refine g_iconst hx dL_tones_129 (nx := 130) rfl (v := nI 0) (by decide) ?_
          refine g_iloadG hx dL_tones_130 (nx := 132) rfl rfl ?_
          refine g_iloadG hx dL_tones_132 (nx := 134) rfl rfl ?_
          refine g_lconst hx dL_tones_134 (nx := 135) rfl (v := lN 0) (by decide) ?_
          refine g_aloadG_n hx dL_tones_135 rfl (nx := 136) rfl rfl ?_
          refine g_aloadG_n hx dL_tones_136 rfl (nx := 137) rfl rfl ?_
          refine g_aloadG hx dL_tones_137 (nx := 139) rfl rfl ?_
          refine g_callS_M hx [_, _, _, _, _, _, _, _, _] (k' := 7) (n' := 45) dL_tones_139 (nx := 142) rfl lk_L_109 rfl (Nat.le_of_ble_eq_true rfl) (Nat.le_of_ble_eq_true rfl) (Nat.le_of_ble_eq_true rfl) (Nat.le_of_ble_eq_true rfl) (Nat.le_of_ble_eq_true rfl) (Nat.le_of_ble_eq_true rfl) (Nat.le_of_ble_eq_true rfl) (s_L_makes hst hN.1 h11' h13' h14' (by rw [hI2 _ _ (by omega) (by omega) (by omega) (by omega) (by omega)]; exact hc1') hN.2.2.2.2.2.2.2.2.2.2.2.2.2 ?_)
          have hCJ := hW.1
          have hIJ := hW.2.2.1
          refine g_if_eqN hx dL_tones_142 (tg := 161) (by decide) (nx := 145) rfl (by omega) (fun c142 => ?_) (fun c142 => ?_)
          · exact absurd c142 (by decide)
          · refine g_aloadG_n hx dL_tones_145 rfl (nx := 146) rfl rfl ?_
            refine g_aloadG_n hx dL_tones_146 rfl (nx := 147) rfl rfl ?_
            refine g_iconst hx dL_tones_147 (nx := 148) rfl (v := nI 1) (by decide) ?_
            refine g_ialoadN hx dL_tones_148 (nx := 149) rfl h11' (by decide) (by omega) (by decide) (v := nI (nc + 1)) (au2_s _ _ _ _) ?_
            refine g_iconst hx dL_tones_149 (nx := 150) rfl (v := nI 1) (by decide) ?_
            refine g_isubN hx dL_tones_150 (nx := 151) rfl (by omega) ?_
            rw [Nat.add_sub_cancel]
            refine g_callV_M hx [_] (k' := 7) (n' := 45) dL_tones_151 (nx := 154) rfl lk_L_105 (hX2.1 0 _ rfl) (by decide) rfl rfl (Nat.le_of_ble_eq_true rfl) (Nat.le_of_ble_eq_true rfl) (Nat.le_of_ble_eq_true rfl) (Nat.le_of_ble_eq_true rfl) (Nat.le_of_ble_eq_true rfl) (Nat.le_of_ble_eq_true rfl) (Nat.le_of_ble_eq_true rfl) (s_X3_isSoundk (oo := oI (au2 (au2 I2 13 nc (nI (100000 * 0 + 10000 + 1000 * kk + ln))) 11 1 (nI (nc + 1)))) (s9 := kk) (d9 := oI I' kk) hst hCJ (Nat.lt_succ_self nc) ?_ ?_ hk9 ?_ ?_ (ho' kk hk9).2 (fun I3 L3 e1 e2 => ?_))
            · exact fun k hk t ht => by rw [hIJ _ _ (by omega) (by omega) (by omega) (by omega) (by omega) (by omega) (by omega)]; exact hsi k hk t ht
            · intro k hk
              have h9 := hoo k hk
              unfold oI at h9 ⊢
              rw [hIJ _ _ (by omega) (by omega) (by omega) (by omega) (by omega) (by omega) (by omega)]
              exact h9
            · rw [au2_n (by omega), au2_n (by omega)]; exact hN.2.2.2.2.2.2.1
            · rw [au2_n (by omega), au2_n (by omega)]; exact hN.2.2.2.2.2.2.2.2.2.1
            · have hO : oI (au2 (au2 I2 13 nc (nI (100000 * 0 + 10000 + 1000 * kk + ln))) 11 1 (nI (nc + 1))) kk = oI I' kk := by
                unfold oI
                rw [hIJ _ _ (by omega) (by omega) (by omega) (by omega) (by omega) (by omega) (by omega), ex _ _ (by omega) (by omega) (by omega)]
              have hE : ∀ a k, 200 ≤ a ∨ a = 5 → (au2 (au2 I2 13 nc (nI (100000 * 0 + 10000 + 1000 * kk + ln))) 11 1 (nI (nc + 1))) a k = I' a k := fun a k h => by rw [hIJ _ _ (by omega) (by omega) (by omega) (by omega) (by omega) (by omega) (by omega), ex _ _ (by omega) (by omega) (by omega)]
              have hL : hlP (au2 (au2 I2 13 nc (nI (100000 * 0 + 10000 + 1000 * kk + ln))) 11 1 (nI (nc + 1))) (au2 L2 14 nc (lN 0)) (100 + nc) (200 + 8 * kk) (min (oI I' kk) (oI (au2 (au2 I2 13 nc (nI (100000 * 0 + 10000 + 1000 * kk + ln))) 11 1 (nI (nc + 1))) kk)) := by
                refine ⟨fun _ => ?_, fun z => ?_⟩
                · rw [hO, Nat.min_self, prs_e (fun t => hE _ _ (by omega)) (fun t => hE _ _ (by omega)) (fun t => hE _ _ (by omega)), laid_e (fun t => hE _ _ (by omega)) (fun t => hE _ _ (by omega)) (fun t => hE _ _ (by omega)) (fun t => hE _ _ (by omega)), au2_n (by omega), au2_n (by omega), au2_n (by omega), au2_n (by omega), au2_n (by omega), hN.2.2.2.2.2.2.2.1, hN.2.2.2.2.2.2.2.2.1]; exact hN.2.2.2.2.2.2.2.2.2.2.1.symm
                · rw [au2_n (by omega), au2_n (by omega), hN.2.2.2.2.2.1] at z; exact absurd z (by decide)
              rw [zI_t hL]
              refine g_if_eq hx dL_tones_154 (tg := 161) (by decide) (nx := 157) rfl (fun c154 => ?_) (fun c154 => ?_)
              · exact absurd c154 (by decide)
              · refine g_iconst hx dL_tones_157 (nx := 158) rfl (v := nI 1) (by decide) ?_
                refine g_goto hx dL_tones_158 (tg := 162) (by decide) ?_
                refine g_iret hx dL_tones_162 rfl (by first | rfl | decide) (Nat.le_of_ble_eq_true rfl) (Nat.le_of_ble_eq_true rfl) ?_
                exact hk2 S2 I3 L3 R2 (hW.x e1 e2)
      · refine g_aloadG_n hx dL_tones_93 rfl (nx := 94) rfl rfl ?_
        refine g_iconst hx dL_tones_94 (nx := 95) rfl (v := nI 2) (by decide) ?_
        refine g_iloadG hx dL_tones_95 (nx := 97) rfl rfl ?_
        refine g_iloadG hx dL_tones_97 (nx := 99) rfl rfl ?_
        refine g_bipush hx dL_tones_99 (nx := 101) rfl (v := nI 31) (by decide) ?_
        refine g_callW hx [_, _, _, _, _] (k' := 7) (n' := 45) dL_tones_101 (nx := 104) rfl lk_L_95 rfl (Nat.le_of_ble_eq_true rfl) (Nat.le_of_ble_eq_true rfl) (Nat.le_of_ble_eq_true rfl) (Nat.le_of_ble_eq_true rfl) (Nat.le_of_ble_eq_true rfl) (Nat.le_of_ble_eq_true rfl) (Nat.le_of_ble_eq_true rfl) (s_asks_claimTone hst hC' hs' ho' hk9 hfl3 (by decide) (fun e9 I2 L2 e1 e2 => ?_) (fun e1 e2 e3 S2 I2 L2 R2 e4 => ?_))
        · refine g_ldc2 hx dL_tones_104 (nx := 107) rfl kl_L_52 ?_
          refine g_lc_ne hx dL_tones_107 (p2 := 108) rfl dL_tones_108 (tg := 115) (by decide) (nx := 111) rfl (fun c107 => ?_) (fun c107 => ?_)
          · exact absurd rfl c107
          · refine g_iconst hx dL_tones_111 (nx := 112) rfl (v := nI 1) (by decide) ?_
            refine g_goto hx dL_tones_112 (tg := 116) (by decide) ?_
            refine g_iret hx dL_tones_116 rfl (by first | rfl | decide) (Nat.le_of_ble_eq_true rfl) (Nat.le_of_ble_eq_true rfl) ?_
            exact hk1 I2 L2 (e1.trans ex) ((hG.x ex ex2).x e1 e2)
        · obtain ⟨k9, z1, z2, z3⟩ := e2
          have := nI_inj (by decide) (by omega) z3
          omega
  have loop1 : ∀ (r j : Nat) (I' : aI) (L' : aL), 31 ≤ j + r → 1 ≤ j → j < 40 → eqX I' I → eqX L' L → aG p l e rmL_tones s m args below meth c E io0 S 9 (vx_MQ below (aQc E io0 S Kr) (aXC E io0 S Kx) args s rmL_tones.cells rmL_tones.slots (aW E)) 29 [.ref 3, .int (nI x), .ref 11, .ref 13, .ref 14, .int (nI kk), .int (nI fl), .int (-1), .int (nI j)] [] (S) (I') (L') (Rf) 0 0 := by
    intro r
    induction r with
    | zero =>
      intro j I' L' hj0 hj1 hj2 ex ex2
      refine g_iloadG hx dL_tones_29 (nx := 31) rfl rfl ?_
      refine g_bipush hx dL_tones_31 (nx := 33) rfl (v := nI 31) (by decide) ?_
      refine g_icmp_geN hx dL_tones_33 (tg := 80) (by decide) (nx := 36) rfl (by omega) (by omega) (fun c33 => ?_) (fun c33 => ?_)
      · exact J80A I' L' _ ex ex2
      · exact absurd c33 (by omega)
    | succ r ih =>
      intro j I' L' hj0 hj1 hj2 ex ex2
      have hC' : lyC S Rf I' n nc := hC.I (ex _ _ (by decide) (by decide) (by decide)) (ex _ _ (by decide) (by decide) (by decide))
      have hs' := hsi.x ex
      have ho' := hoo.x ex
      have hG' := hG.x ex ex2
      have hH' := hH.xs ex
      have hc1' : I' 11 1 = nI nc := (ex _ _ (by decide) (by decide) (by decide)).trans hc1
      refine g_iloadG hx dL_tones_29 (nx := 31) rfl rfl ?_
      refine g_bipush hx dL_tones_31 (nx := 33) rfl (v := nI 31) (by decide) ?_
      refine g_icmp_geN hx dL_tones_33 (tg := 80) (by decide) (nx := 36) rfl (by omega) (by omega) (fun c33 => ?_) (fun c33 => ?_)
      · exact J80A I' L' _ ex ex2
      · refine g_iloadG hx dL_tones_36 (nx := 38) rfl rfl ?_
        refine g_if_ge hx dL_tones_38 (tg := 80) (by decide) (nx := 41) rfl (fun c38 => ?_) (fun c38 => ?_)
        · exact absurd c38 (by decide)
        · refine g_aloadG_n hx dL_tones_41 rfl (nx := 42) rfl rfl ?_
          refine g_iloadG hx dL_tones_42 (nx := 44) rfl rfl ?_
          refine g_iloadG hx dL_tones_44 (nx := 46) rfl rfl ?_
          refine g_iloadG hx dL_tones_46 (nx := 48) rfl rfl ?_
          refine g_callV_M hx [_, _, _] (k' := 0) (n' := 0) dL_tones_48 (nx := 51) rfl lk_L_91 (hX.1 0 _ rfl) (by decide) rfl rfl (Nat.le_of_ble_eq_true rfl) (Nat.le_of_ble_eq_true rfl) (Nat.le_of_ble_eq_true rfl) (Nat.le_of_ble_eq_true rfl) (Nat.le_of_ble_eq_true rfl) (Nat.le_of_ble_eq_true rfl) (Nat.le_of_ble_eq_true rfl) (s_X3_isPeakk hst hC' hk9 hfl3 (hs' kk hk9) (ho' kk hk9).1 (ho' kk hk9).2 (fun r9 hr9 I2 L2 e1 e2 => Or.elim hr9 (fun hr8 => ?_) (fun hr8 => ?_)))
          · obtain ⟨hr7, hr6, hr5⟩ := hr8
            subst hr7
            have hpj : pkP I2 (200 + 8 * kk) (nI fl) (oI I2 kk) (nI j) := by rw [pkP_x e1 (by omega), show oI I2 kk = oI I' kk from by unfold oI; rw [e1 _ _ (by omega) (by omega) (by omega)]]; exact hr5
            refine g_if_eq hx dL_tones_51 (tg := 59) (by decide) (nx := 54) rfl (fun c51 => ?_) (fun c51 => ?_)
            · exact absurd c51 (by decide)
            · refine g_iloadG hx dL_tones_54 (nx := 56) rfl rfl ?_
              refine g_goto hx dL_tones_56 (tg := 61) (by decide) ?_
              refine g_istore_7 hx dL_tones_61 (nx := 63) rfl (by decide) rfl ?_
              refine g_iloadG hx dL_tones_63 (nx := 65) rfl rfl ?_
              refine g_iconst hx dL_tones_65 (nx := 66) rfl (v := nI 1) (by decide) ?_
              refine g_iloadG_n hx dL_tones_66 rfl (nx := 67) rfl rfl ?_
              refine g_sipush hx dL_tones_67 (nx := 70) rfl (v := nI 144) (by decide) ?_
              refine g_idivN hx dL_tones_70 (nx := 71) rfl (by omega) (by omega) (by omega) ?_
              refine g_iconst hx dL_tones_71 (nx := 72) rfl (v := nI 3) (by decide) ?_
              refine g_iremN hx dL_tones_72 (nx := 73) rfl (by omega) (by omega) (by omega) ?_
              refine g_iaddN hx dL_tones_73 (nx := 74) rfl  ?_
              refine g_iaddN hx dL_tones_74 (nx := 75) rfl  ?_
              refine g_istore_8 hx dL_tones_75 (nx := 77) rfl (by decide) rfl ?_
              refine g_goto hx dL_tones_77 (tg := 29) (by decide) ?_
              refine g_iloadG hx dL_tones_29 (nx := 31) rfl rfl ?_
              refine g_bipush hx dL_tones_31 (nx := 33) rfl (v := nI 31) (by decide) ?_
              refine g_icmp_geN hx dL_tones_33 (tg := 80) (by decide) (nx := 36) rfl (by omega) (by omega) (fun c33 => ?_) (fun c33 => ?_)
              · exact J80B I2 L2 j _ (e1.trans ex) (e2.trans ex2) (by omega) (by omega) hpj
              · refine g_iloadG hx dL_tones_36 (nx := 38) rfl rfl ?_
                refine g_if_geN hx dL_tones_38 (tg := 80) (by decide) (nx := 41) rfl (by omega) (fun c38 => ?_) (fun c38 => ?_)
                · exact J80B I2 L2 j _ (e1.trans ex) (e2.trans ex2) (by omega) (by omega) hpj
                · exact absurd c38 (by omega)
          · obtain ⟨hr7, hr6⟩ := hr8
            subst hr7
            refine g_if_eq hx dL_tones_51 (tg := 59) (by decide) (nx := 54) rfl (fun c51 => ?_) (fun c51 => ?_)
            · refine g_iloadG hx dL_tones_59 (nx := 61) rfl rfl ?_
              refine g_istore_7 hx dL_tones_61 (nx := 63) rfl (by decide) rfl ?_
              refine g_iloadG hx dL_tones_63 (nx := 65) rfl rfl ?_
              refine g_iconst hx dL_tones_65 (nx := 66) rfl (v := nI 1) (by decide) ?_
              refine g_iloadG_n hx dL_tones_66 rfl (nx := 67) rfl rfl ?_
              refine g_sipush hx dL_tones_67 (nx := 70) rfl (v := nI 144) (by decide) ?_
              refine g_idivN hx dL_tones_70 (nx := 71) rfl (by omega) (by omega) (by omega) ?_
              refine g_iconst hx dL_tones_71 (nx := 72) rfl (v := nI 3) (by decide) ?_
              refine g_iremN hx dL_tones_72 (nx := 73) rfl (by omega) (by omega) (by omega) ?_
              refine g_iaddN hx dL_tones_73 (nx := 74) rfl  ?_
              refine g_iaddN hx dL_tones_74 (nx := 75) rfl  ?_
              refine g_istore_8 hx dL_tones_75 (nx := 77) rfl (by decide) rfl ?_
              refine g_goto hx dL_tones_77 (tg := 29) (by decide) ?_
              exact ih _ I2 L2 (by omega) (by omega) (by omega) (e1.trans ex) (e2.trans ex2)
            · exact absurd rfl c51
  refine g_iloadG_n hx dL_tones_0 rfl (nx := 1) rfl rfl ?_
  refine g_aloadG_n hx dL_tones_1 rfl (nx := 2) rfl rfl ?_
  refine g_iconst hx dL_tones_2 (nx := 3) rfl (v := nI 0) (by decide) ?_
  refine g_ialoadN hx dL_tones_3 (nx := 4) rfl h11 (by decide) (by omega) (by decide) (v := nI n) (hc0) ?_
  refine g_iremN hx dL_tones_4 (nx := 5) rfl (by omega) (by omega) (by omega) ?_
  rw [← hkk]
  refine g_istore_5 hx dL_tones_5 (nx := 7) rfl (by decide) rfl ?_
  refine g_iloadG_n hx dL_tones_7 rfl (nx := 8) rfl rfl ?_
  refine g_bipush hx dL_tones_8 (nx := 10) rfl (v := nI 8) (by decide) ?_
  refine g_idivN hx dL_tones_10 (nx := 11) rfl (by omega) (by omega) (by omega) ?_
  refine g_iconst hx dL_tones_11 (nx := 12) rfl (v := nI 3) (by decide) ?_
  refine g_iremN hx dL_tones_12 (nx := 13) rfl (by omega) (by omega) (by omega) ?_
  rw [← hfl]
  refine g_istore_6 hx dL_tones_13 (nx := 15) rfl (by decide) rfl ?_
  refine g_iconst hx dL_tones_15 (nx := 16) rfl (v := (-1)) (by decide) ?_
  refine g_istore_7 hx dL_tones_16 (nx := 18) rfl (by decide) rfl ?_
  refine g_iconst hx dL_tones_18 (nx := 19) rfl (v := nI 1) (by decide) ?_
  refine g_iloadG_n hx dL_tones_19 rfl (nx := 20) rfl rfl ?_
  refine g_bipush hx dL_tones_20 (nx := 22) rfl (v := nI 24) (by decide) ?_
  refine g_idivN hx dL_tones_22 (nx := 23) rfl (by omega) (by omega) (by omega) ?_
  refine g_bipush hx dL_tones_23 (nx := 25) rfl (v := nI 6) (by decide) ?_
  refine g_iremN hx dL_tones_25 (nx := 26) rfl (by omega) (by omega) (by omega) ?_
  refine g_iaddN hx dL_tones_26 (nx := 27) rfl  ?_
  refine g_istore_8 hx dL_tones_27 (nx := 29) rfl (by decide) rfl ?_
  exact loop1 31 _ I L (by omega) (by omega) (by omega) (eqX.refl I) (eqX.refl L)

