/-! the law: ages, planets, cites -/
theorem gC_cite {I : aI} {L : aL} {n nc a b : Nat} (h : gC I L n nc) (ha : a < nc) (hnc : nc ≤ 40) (hb : b < a) (h8 : I (100 + b) 8 ≠ 0) : gC I (au2 (au2 L (100 + a) 7 (L (100 + a) 7 ||| bitL (nI b))) 14 a (L 14 a ||| bitL (nI b))) n nc := fun i hi => by
  obtain ⟨h1, ⟨h2, h3⟩, h4⟩ := h i hi
  by_cases e : i = a
  · subst e
    refine ⟨h1, ⟨?_, ?_⟩, fun z j hj hq => ?_⟩
    · rw [au2_n (by omega), au2_s]
      exact or_tb h2 (by rw [bitL_tb (by omega)]; exact Nat.pow_lt_pow_right (by decide) hb)
    · rw [au2_s, au2_n (by omega), au2_s, h3]
    · rw [au2_n (by omega), au2_s, bqP_or (by omega)] at hq
      rcases hq with hq | hq
      · exact h4 z j hj hq
      · rw [bqP_bit1 (by omega) (by omega)] at hq
        rw [hq]; exact h8
  · refine ⟨h1, ⟨?_, ?_⟩, fun z j hj hq => ?_⟩
    · rw [au2_n (by omega), au2_n (by omega)]; exact h2
    · rw [au2_n (by omega), au2_n (by omega), au2_n (by omega), au2_n (by omega)]; exact h3
    · rw [au2_n (by omega), au2_n (by omega)] at hq
      exact h4 z j hj hq
theorem or0 (x : Int64) : x ||| lN 0 = x := by
  apply Int64.toBitVec_inj.mp
  show x.toBitVec ||| 0#64 = x.toBitVec
  simp
theorem eqX_or0 (L : aL) (a : Nat) : eqX (au2 L 14 a (L 14 a ||| lN 0)) L := fun p q _ _ _ => by
  by_cases e : p = 14 ∧ q = a
  · rw [e.1, e.2, au2_s, or0]
  · exact au2_n e
theorem and1 (x : Int64) : x &&& 1 = 0 ∨ x &&& 1 = 1 := by
  rcases Nat.mod_two_eq_zero_or_one x.toBitVec.toNat with h | h
  · left
    apply Int64.toBitVec_inj.mp
    apply BitVec.eq_of_toNat_eq
    show (x.toBitVec &&& 1#64).toNat = 0
    rw [BitVec.toNat_and, show (1#64).toNat = 2 ^ 1 - 1 by decide, Nat.and_two_pow_sub_one_eq_mod]; omega
  · right
    apply Int64.toBitVec_inj.mp
    apply BitVec.eq_of_toNat_eq
    show (x.toBitVec &&& 1#64).toNat = 1
    rw [BitVec.toNat_and, show (1#64).toNat = 2 ^ 1 - 1 by decide, Nat.and_two_pow_sub_one_eq_mod]; omega
theorem iabs_f {a b : Nat} (ha : a < 32) (hb : b < 32) : iabs (nI a - nI b) = nI (if b < a then a - b else b - a) := by
  have e : (nI a - nI b).toInt = (a : Int) - b := pk_sub_toInt (by omega) (by omega)
  apply Int32.toInt_inj.mp
  rw [iabs_ti (by omega) (by omega), e]
  split
  · rw [nI_toInt (by omega)]; omega
  · rw [nI_toInt (by omega)]; omega
theorem ab_p {X l : Nat} (hX : X < 2 ^ 29) (hl : l < 2 ^ 29) (h : 0 ≤ nI X - nI l) : iabs (nI l - nI X) = nI X - nI l := by
  have e1 : (nI X - nI l).toInt = (X : Int) - l := pk_sub_toInt (by omega) (by omega)
  have e2 : (nI l - nI X).toInt = (l : Int) - X := pk_sub_toInt (by omega) (by omega)
  rw [Int32.le_iff_toInt_le, Int32.toInt_zero, e1] at h
  apply Int32.toInt_inj.mp
  rw [iabs_ti (by omega) (by omega), e1, e2]; omega
theorem ab_m {X l : Nat} (hX : X < 2 ^ 29) (hl : l < 2 ^ 29) (h : ¬ 0 ≤ nI X - nI l) : iabs (nI l - nI X) = -(nI X - nI l) := by
  have e1 : (nI X - nI l).toInt = (X : Int) - l := pk_sub_toInt (by omega) (by omega)
  have e2 : (nI l - nI X).toInt = (l : Int) - X := pk_sub_toInt (by omega) (by omega)
  rw [Int32.le_iff_toInt_le, Int32.toInt_zero, e1] at h
  apply Int32.toInt_inj.mp
  rw [iabs_ti (by omega) (by omega), Int32.toInt_neg, e1, e2, bm32 (by omega) (by omega)]; omega
abbrev rmL_others : Room := { frames := 9, cells := 7, slots := 45, locals := 192 }
set_option maxHeartbeats 4000000 in
set_option maxRecDepth 100000 in
theorem s_L_others {l : Launch} {E : aE} {S : aS} {I : aI} {L : aL} {Rf : aR} {Kr : aK} {Kx : aX} (hst : l.stackTraces = false) {n nc x y : Nat} (hC : lyC S Rf I n nc) (hn0 : 0 < n) (hnc0 : 0 < nc) (h11 : S 11 = some (.inl (.int, 6))) (h13 : S 13 = some (.inl (.int, 40))) (h14 : S 14 = some (.inl (.long, 40))) (hc0 : I 11 0 = nI n) (hc1 : I 11 1 = nI nc) (hZ : ∀ k, k < n → zS I k) (hG : gC I L n nc) (hH : gH I nc (sv I)) (hx9 : x < 2 ^ 30) (hy9 : y < 2 ^ 30) (hk1 : ∀ I' L', eqX I' I → gC I' L' n nc → Kr (some (.int (nI 1))) S I' L' Rf) (hk2 : ∀ S' I' L' R', grew n nc S I S' I' L' R' → Kr (some (.int (nI 1))) S' I' L' R') : aMet l E yL_others cL_others 19 (some .boolean) rmL_others [.ref 3, .int (nI x), .int (nI y), .ref 11, .ref 13, .ref 14] S I L Rf Kr Kx := by
  refine aMet.of (lv0 := [.ref 3, .int (nI x), .int (nI y), .ref 11, .ref 13, .ref 14, aU, aU, aU, aU, aU, aU, aU, aU, aU, aU, aU, aU, aU]) (z := 13) (by decide +kernel) hst rfl (Nat.le_of_ble_eq_true rfl) ?_
  intro p e s m args below meth c io0 hx hin hno
  have hx : aCx p l s m args meth c RL cL_others 19 (some .boolean) E := hx
  have hX := hC.1
  have hn6 := hC.2.1
  have hc40 := hC.2.2.1
  obtain ⟨aa, haa⟩ : ∃ k, k = x % nc := ⟨_, rfl⟩
  obtain ⟨bb, hbb⟩ : ∃ k, k = y % nc := ⟨_, rfl⟩
  have ha9 : aa < nc := by rw [haa]; exact Nat.mod_lt _ hnc0
  have hb9 : bb < nc := by rw [hbb]; exact Nat.mod_lt _ hnc0
  obtain ⟨wt, hwt⟩ : ∃ k, k = x / 64 % 3 := ⟨_, rfl⟩
  obtain ⟨⟨ka, sa, ra, la, da, ⟨b0a, b1a, b2a, b3a, b4a⟩, ha0, ha1, ha2, ha4, ha8, hAa, hBa⟩, ⟨q1a, q2a⟩, hxa⟩ := hG aa ha9
  have h9a := (hH aa ha9).n ha0 ha1 ha2 b0a (by omega) b3a
  rw [sv_of ha8 b1a] at h9a
  obtain ⟨⟨kb, sb, rb, lb, db, ⟨b0b, b1b, b2b, b3b, b4b⟩, hb0, hb1, hb2, hb4, hb8, hAb, hBb⟩, ⟨q1b, q2b⟩, hxb⟩ := hG bb hb9
  have h9b := (hH bb hb9).n hb0 hb1 hb2 b0b (by omega) b3b
  rw [sv_of hb8 b1b] at h9b
  have hOK : (I (100 + aa) 0 = 0 ∧ I (100 + bb) 0 = 0 ∧ I (100 + aa) 1 = I (100 + bb) 1 ∧ I (100 + aa) 2 ≠ I (100 + bb) 2) ↔ (ka = 0 ∧ kb = 0 ∧ ra = rb ∧ la ≠ lb) := by
    rw [ha0, hb0, ha1, hb1, ha2, hb2]
    exact and_congr (nI_eq (b := 0) (by omega) (by decide)) (and_congr (nI_eq (b := 0) (by omega) (by decide)) (and_congr (nI_eq (by omega) (by omega)) (not_congr (nI_eq (by omega) (by omega)))))
  have J153 : ∀ (on bo gd : Nat) (hon : on = 1 ↔ sa = 1) (hon1 : on ≤ 1) (hbo : bo = 1 ↔ sa = 1 ∧ sb = 1) (hbo1 : bo ≤ 1) (hgd : gd = 1 ↔ (ka = 0 ∧ kb = 0 ∧ ra = rb ∧ la ≠ lb)) (hgd1 : gd ≤ 1), aG p l e rmL_others s m args below meth c E io0 S 19 (vx_MQ below (aQc E io0 S Kr) (aXC E io0 S Kx) args s rmL_others.cells rmL_others.slots (aW E)) 153 [.ref 3, .int (nI x), .int (nI y), .ref 11, .ref 13, .ref 14, .int (nI aa), .int (nI bb), .int (nI wt), .int (nI on), .int (nI bo), .int (nI gd), aU, aU, aU, aU, aU, aU, aU] [] (S) (I) (L) (Rf) 0 0 := by
    intro on bo gd hon hon1 hbo hbo1 hgd hgd1
    refine g_aloadG_n hx dL_others_153 rfl (nx := 154) rfl rfl ?_
    refine g_iconst hx dL_others_154 (nx := 155) rfl (v := nI 3) (by decide) ?_
    refine g_iloadG hx dL_others_155 (nx := 157) rfl rfl ?_
    refine g_iloadG hx dL_others_157 (nx := 159) rfl rfl ?_
    refine g_iconst hx dL_others_159 (nx := 160) rfl (v := nI 0) (by decide) ?_
    refine g_callW hx [_, _, _, _, _] (k' := 7) (n' := 45) dL_others_160 (nx := 163) rfl lk_L_95 rfl (Nat.le_of_ble_eq_true rfl) (Nat.le_of_ble_eq_true rfl) (Nat.le_of_ble_eq_true rfl) (Nat.le_of_ble_eq_true rfl) (Nat.le_of_ble_eq_true rfl) (Nat.le_of_ble_eq_true rfl) (Nat.le_of_ble_eq_true rfl) (s_asks_claimAge hst hC ha9 hb9 (fun e9 => ?_) (fun e9 e8 => ?_) (fun e9 hlt n8a n8b S2 I2 L2 R2 hN => ?_))
    · have hg : gd = 0 := by have := mt hOK.mpr e9; omega
      refine g_lstore_12 hx dL_others_163 (nx := 165) rfl (by decide) rfl ?_
      refine g_iloadG hx dL_others_165 (nx := 167) rfl rfl ?_
      refine g_if_eqN hx dL_others_167 (tg := 183) (by decide) (nx := 170) rfl (by omega) (fun c167 => ?_) (fun c167 => ?_)
      · refine g_lloadG hx dL_others_183 (nx := 185) rfl rfl ?_
        refine g_iloadG hx dL_others_185 (nx := 187) rfl rfl ?_
        refine g_if_eqN hx dL_others_187 (tg := 196) (by decide) (nx := 190) rfl (by omega) (fun c187 => ?_) (fun c187 => ?_)
        · refine g_ldc2 hx dL_others_196 (nx := 199) rfl kl_L_48 ?_
          refine g_lc_ne hx dL_others_199 (p2 := 200) rfl dL_others_200 (tg := 207) (by decide) (nx := 203) rfl (fun c199 => ?_) (fun c199 => ?_)
          · exact absurd rfl c199
          · refine g_iconst hx dL_others_203 (nx := 204) rfl (v := nI 1) (by decide) ?_
            refine g_goto hx dL_others_204 (tg := 208) (by decide) ?_
            refine g_iret hx dL_others_208 rfl (by first | rfl | decide) (Nat.le_of_ble_eq_true rfl) (Nat.le_of_ble_eq_true rfl) ?_
            exact hk1 I L (eqX.refl I) hG
        · exact absurd c187 (by omega)
      · exact absurd c167 (by omega)
    · have hg : gd = 1 := hgd.mpr (hOK.mp e9)
      refine g_lstore_12 hx dL_others_163 (nx := 165) rfl (by decide) rfl ?_
      refine g_iloadG hx dL_others_165 (nx := 167) rfl rfl ?_
      refine g_if_eqN hx dL_others_167 (tg := 183) (by decide) (nx := 170) rfl (by omega) (fun c167 => ?_) (fun c167 => ?_)
      · exact absurd c167 (by omega)
      · refine g_iloadG hx dL_others_170 (nx := 172) rfl rfl ?_
        refine g_if_eqN hx dL_others_172 (tg := 183) (by decide) (nx := 175) rfl (by omega) (fun c172 => ?_) (fun c172 => ?_)
        · refine g_lloadG hx dL_others_183 (nx := 185) rfl rfl ?_
          refine g_iloadG hx dL_others_185 (nx := 187) rfl rfl ?_
          refine g_if_eqN hx dL_others_187 (tg := 196) (by decide) (nx := 190) rfl (by omega) (fun c187 => ?_) (fun c187 => ?_)
          · exact absurd c187 (by omega)
          · refine g_ldc2 hx dL_others_190 (nx := 193) rfl kl_L_52 ?_
            refine g_goto hx dL_others_193 (tg := 199) (by decide) ?_
            refine g_lc_ne hx dL_others_199 (p2 := 200) rfl dL_others_200 (tg := 207) (by decide) (nx := 203) rfl (fun c199 => ?_) (fun c199 => ?_)
            · exact absurd rfl c199
            · refine g_iconst hx dL_others_203 (nx := 204) rfl (v := nI 1) (by decide) ?_
              refine g_goto hx dL_others_204 (tg := 208) (by decide) ?_
              refine g_iret hx dL_others_208 rfl (by first | rfl | decide) (Nat.le_of_ble_eq_true rfl) (Nat.le_of_ble_eq_true rfl) ?_
              exact hk1 I L (eqX.refl I) hG
        · refine g_aloadG_n hx dL_others_175 rfl (nx := 176) rfl rfl ?_
          refine g_iconst hx dL_others_176 (nx := 177) rfl (v := nI 1) (by decide) ?_
          refine g_ialoadN hx dL_others_177 (nx := 178) rfl h11 (by decide) (by omega) (by decide) (v := nI nc) (hc1) ?_
          refine g_bipush hx dL_others_178 (nx := 180) rfl (v := nI 40) (by decide) ?_
          refine g_icmp_neN hx dL_others_180 (tg := 209) (by decide) (nx := 183) rfl (by omega) (by omega) (fun c180 => ?_) (fun c180 => ?_)
          · exact absurd ⟨by omega, (st_ne ha8 b1a).mpr (by omega), (st_ne hb8 b1b).mpr (by omega)⟩ e8
          · refine g_lloadG hx dL_others_183 (nx := 185) rfl rfl ?_
            refine g_iloadG hx dL_others_185 (nx := 187) rfl rfl ?_
            refine g_if_eqN hx dL_others_187 (tg := 196) (by decide) (nx := 190) rfl (by omega) (fun c187 => ?_) (fun c187 => ?_)
            · exact absurd c187 (by omega)
            · refine g_ldc2 hx dL_others_190 (nx := 193) rfl kl_L_52 ?_
              refine g_goto hx dL_others_193 (tg := 199) (by decide) ?_
              refine g_lc_ne hx dL_others_199 (p2 := 200) rfl dL_others_200 (tg := 207) (by decide) (nx := 203) rfl (fun c199 => ?_) (fun c199 => ?_)
              · exact absurd rfl c199
              · refine g_iconst hx dL_others_203 (nx := 204) rfl (v := nI 1) (by decide) ?_
                refine g_goto hx dL_others_204 (tg := 208) (by decide) ?_
                refine g_iret hx dL_others_208 rfl (by first | rfl | decide) (Nat.le_of_ble_eq_true rfl) (Nat.le_of_ble_eq_true rfl) ?_
                exact hk1 I L (eqX.refl I) hG
    · have hg : gd = 1 := hgd.mpr (hOK.mp e9)
      have hb1 : bo = 1 := hbo.mpr ⟨(st_ne ha8 b1a).mp n8a, (st_ne hb8 b1b).mp n8b⟩
      rw [ha1, ha2, hb2, iabs_f b3a b3b] at hN
      obtain ⟨fr, hfr⟩ : ∃ k, k = (if lb < la then la - lb else lb - la) := ⟨_, rfl⟩
      have hfr2 : fr < 32 := by rw [hfr]; split <;> omega
      rw [← hfr, show (40000 : Int32) * nI fr = nI (40000 * fr) from by rw [show (40000 : Int32) = nI 40000 from rfl, nI_mul]] at hN
      have hS2 := hN.2.1
      have h11' : S2 11 = some (.inl (.int, 6)) := by rw [hS2 _ (by omega)]; exact h11
      have h13' : S2 13 = some (.inl (.int, 40)) := by rw [hS2 _ (by omega)]; exact h13
      have h14' : S2 14 = some (.inl (.long, 40)) := by rw [hS2 _ (by omega)]; exact h14
      have hX2 := hN.1.1
      have hI2 := hN.2.2.1
      have hN8 := hN.2.2.2.2.2.2.2.2.2.2.2.2.2
      have hN6 := hN.2.2.2.2.2.2.2.2.2.2.2.1
      refine g_lstore_12 hx dL_others_163 (nx := 165) rfl (by decide) rfl ?_
      refine g_iloadG hx dL_others_165 (nx := 167) rfl rfl ?_
      refine g_if_eqN hx dL_others_167 (tg := 183) (by decide) (nx := 170) rfl (by omega) (fun c167 => ?_) (fun c167 => ?_)
      · exact absurd c167 (by omega)
      · refine g_iloadG hx dL_others_170 (nx := 172) rfl rfl ?_
        refine g_if_eqN hx dL_others_172 (tg := 183) (by decide) (nx := 175) rfl (by omega) (fun c172 => ?_) (fun c172 => ?_)
        · exact absurd c172 (by omega)
        · refine g_aloadG_n hx dL_others_175 rfl (nx := 176) rfl rfl ?_
          refine g_iconst hx dL_others_176 (nx := 177) rfl (v := nI 1) (by decide) ?_
          refine g_ialoadN hx dL_others_177 (nx := 178) rfl h11' (by decide) (by omega) (by decide) (v := nI nc) ((hI2 _ _ (by omega) (by omega) (by omega) (by omega) (by omega)).trans hc1) ?_
          refine g_bipush hx dL_others_178 (nx := 180) rfl (v := nI 40) (by decide) ?_
          refine g_icmp_neN hx dL_others_180 (tg := 209) (by decide) (nx := 183) rfl (by omega) (by omega) (fun c180 => ?_) (fun c180 => ?_)
          · have J267 : ∀ (w15 w16 w17 w18 : Value), aG p l e rmL_others s m args below meth c E io0 S 19 (vx_MQ below (aQc E io0 S Kr) (aXC E io0 S Kx) args s rmL_others.cells rmL_others.slots (aW E)) 267 [.ref 3, .int (nI x), .int (nI y), .ref 11, .ref 13, .ref 14, .int (nI aa), .int (nI bb), .int (nI wt), .int (nI on), .int (nI bo), .int (nI gd), .long (lN nc), aU, .int (nI fr), w15, w16, w17, w18] [] (S2) (I2) (L2) (R2) 7 45 := by
              intro w15 w16 w17 w18
              have hla : ∀ k, k < n → ∃ l, l ≤ 1000000 ∧ I (200 + 8 * k) 6 = nI l := fun k hk => by
                obtain ⟨_, _, l, _, _, _, _, _, _, _, ⟨_, _, _, _, h1⟩, _, _, _, h2, _⟩ := hZ k hk
                exact ⟨l, h1, h2⟩
              have loop1 : ∀ (r i : Nat) (w17 w18 : Value), i + r = n → 0 < i → aG p l e rmL_others s m args below meth c E io0 S 19 (vx_MQ below (aQc E io0 S Kr) (aXC E io0 S Kx) args s rmL_others.cells rmL_others.slots (aW E)) 273 [.ref 3, .int (nI x), .int (nI y), .ref 11, .ref 13, .ref 14, .int (nI aa), .int (nI bb), .int (nI wt), .int (nI on), .int (nI bo), .int (nI gd), .long (lN nc), aU, .int (nI fr), .int (nI (agB (fun k => I (200 + 8 * k) 6) (nI (40000 * fr)) i)), .int (nI i), w17, w18] [] (S2) (I2) (L2) (R2) 7 45 := by
                intro r
                induction r with
                | zero =>
                  intro i w17 w18 hi0 hi1
                  have hi : i = n := by omega
                  have hi9 : n = i := hi.symm
                  subst hi9
                  have hab := agB_lt (fun k => I (200 + 8 * k) 6) (nI (40000 * fr)) n (by omega)
                  obtain ⟨_, _, _, _, _, _, ag9, _, _, _, _, hz4, hz5, _⟩ := hZ _ hab
                  have hag : agN (fun k => I (200 + 8 * k) 6) (fun k => I (200 + 8 * k) 4) (nI (40000 * fr)) n = nI ag9 := by rw [agN, if_neg (by omega)]; exact hz4
                  have hW := grew_of (kd := 1) (dc := 0) hlt hn6 hN hG hH (eqX.refl I) (by decide) b2a b3a (by decide) (fun _ => ⟨ag9, hz5, hag⟩) (fun z => absurd rfl z) (or_tb (by rw [bitL_tb (by omega)]; exact Nat.pow_lt_pow_right (by decide) ha9) (by rw [bitL_tb (by omega)]; exact Nat.pow_lt_pow_right (by decide) hb9)) (fun j hj hq => by
                    rw [bqP_or (by omega), bqP_bit1 (by omega) (by omega), bqP_bit1 (by omega) (by omega)] at hq
                    rcases hq with hq | hq
                    · rw [hq]; exact n8a
                    · rw [hq]; exact n8b)
                  refine g_iloadG hx dL_others_273 (nx := 275) rfl rfl ?_
                  refine g_aloadG_n hx dL_others_275 rfl (nx := 276) rfl rfl ?_
                  refine g_iconst hx dL_others_276 (nx := 277) rfl (v := nI 0) (by decide) ?_
                  refine g_ialoadN hx dL_others_277 (nx := 278) rfl h11' (by decide) (by omega) (by decide) (v := nI n) ((hI2 _ _ (by omega) (by omega) (by omega) (by omega) (by omega)).trans hc0) ?_
                  refine g_icmp_geN hx dL_others_278 (tg := 355) (by decide) (nx := 281) rfl (by omega) (by omega) (fun c278 => ?_) (fun c278 => ?_)
                  · refine g_aloadG_n hx dL_others_355 rfl (nx := 356) rfl rfl ?_
                    refine g_lloadG hx dL_others_356 (nx := 358) rfl rfl ?_
                    refine g_iconst hx dL_others_358 (nx := 359) rfl (v := nI 1) (by decide) ?_
                    refine g_aloadG hx dL_others_359 (nx := 361) rfl rfl ?_
                    refine g_iloadG hx dL_others_361 (nx := 363) rfl rfl ?_
                    refine g_ialoadN hx dL_others_363 (nx := 364) rfl h13' (by decide) (by omega) (by decide) (v := nI (100000 * ka + 10000 * sa + 1000 * ra + la)) ((hI2 _ _ (by omega) (by omega) (by omega) (by omega) (by omega)).trans h9a) ?_
                    refine g_sipush hx dL_others_364 (nx := 367) rfl (v := nI 1000) (by decide) ?_
                    refine g_idivN hx dL_others_367 (nx := 368) rfl (by omega) (by omega) (by omega) ?_
                    refine g_bipush hx dL_others_368 (nx := 370) rfl (v := nI 10) (by decide) ?_
                    refine g_iremN hx dL_others_370 (nx := 371) rfl (by omega) (by omega) (by omega) ?_
                    rw [show (100000 * ka + 10000 * sa + 1000 * ra + la) / 1000 % 10 = ra from by omega]
                    refine g_aloadG hx dL_others_371 (nx := 373) rfl rfl ?_
                    refine g_iloadG hx dL_others_373 (nx := 375) rfl rfl ?_
                    refine g_ialoadN hx dL_others_375 (nx := 376) rfl h13' (by decide) (by omega) (by decide) (v := nI (100000 * ka + 10000 * sa + 1000 * ra + la)) ((hI2 _ _ (by omega) (by omega) (by omega) (by omega) (by omega)).trans h9a) ?_
                    refine g_bipush hx dL_others_376 (nx := 378) rfl (v := nI 100) (by decide) ?_
                    refine g_iremN hx dL_others_378 (nx := 379) rfl (by omega) (by omega) (by omega) ?_
                    rw [show (100000 * ka + 10000 * sa + 1000 * ra + la) % 100 = la from by omega]
                    refine g_lconst hx dL_others_379 (nx := 380) rfl (v := lN 1) (by decide) ?_
                    refine g_iloadG hx dL_others_380 (nx := 382) rfl rfl ?_
                    refine g_lshl hx dL_others_382 (nx := 383) rfl ?_
                    refine g_lconst hx dL_others_383 (nx := 384) rfl (v := lN 1) (by decide) ?_
                    refine g_iloadG hx dL_others_384 (nx := 386) rfl rfl ?_
                    refine g_lshl hx dL_others_386 (nx := 387) rfl ?_
                    refine g_lor hx dL_others_387 (nx := 388) rfl ?_
                    refine g_aloadG_n hx dL_others_388 rfl (nx := 389) rfl rfl ?_
                    refine g_aloadG hx dL_others_389 (nx := 391) rfl rfl ?_
                    refine g_aloadG hx dL_others_391 (nx := 393) rfl rfl ?_
                    refine g_callS_M hx [_, _, _, _, _, _, _, _, _] (k' := 7) (n' := 45) dL_others_393 (nx := 396) rfl lk_L_109 rfl (Nat.le_of_ble_eq_true rfl) (Nat.le_of_ble_eq_true rfl) (Nat.le_of_ble_eq_true rfl) (Nat.le_of_ble_eq_true rfl) (Nat.le_of_ble_eq_true rfl) (Nat.le_of_ble_eq_true rfl) (Nat.le_of_ble_eq_true rfl) (s_L_makes hst hN.1 h11' h13' h14' ((hI2 _ _ (by omega) (by omega) (by omega) (by omega) (by omega)).trans hc1) hN8 ?_)
                    have hCJ := hW.1
                    have hIJ := hW.2.2.1
                    refine g_if_eqN hx dL_others_396 (tg := 423) (by decide) (nx := 399) rfl (by omega) (fun c396 => ?_) (fun c396 => ?_)
                    · exact absurd c396 (by decide)
                    · refine g_aloadG_n hx dL_others_399 rfl (nx := 400) rfl rfl ?_
                      refine g_aloadG_n hx dL_others_400 rfl (nx := 401) rfl rfl ?_
                      refine g_iconst hx dL_others_401 (nx := 402) rfl (v := nI 1) (by decide) ?_
                      refine g_ialoadN hx dL_others_402 (nx := 403) rfl h11' (by decide) (by omega) (by decide) (v := nI (nc + 1)) (au2_s _ _ _ _) ?_
                      refine g_iconst hx dL_others_403 (nx := 404) rfl (v := nI 1) (by decide) ?_
                      refine g_isubN hx dL_others_404 (nx := 405) rfl (by omega) ?_
                      rw [Nat.add_sub_cancel]
                      refine g_iconst hx dL_others_405 (nx := 406) rfl (v := nI 3) (by decide) ?_
                      refine g_callV_M hx [_, _] (k' := 7) (n' := 45) dL_others_406 (nx := 409) rfl lk_L_36 (hX2.1 0 _ rfl) (by decide) rfl rfl (Nat.le_of_ble_eq_true rfl) (Nat.le_of_ble_eq_true rfl) (Nat.le_of_ble_eq_true rfl) (Nat.le_of_ble_eq_true rfl) (Nat.le_of_ble_eq_true rfl) (Nat.le_of_ble_eq_true rfl) (Nat.le_of_ble_eq_true rfl) (s_X3_ofClaim3 hst hCJ (Nat.lt_succ_self nc) ?_)
                      refine g_aloadG_n hx dL_others_409 rfl (nx := 410) rfl rfl ?_
                      refine g_iloadG hx dL_others_410 (nx := 412) rfl rfl ?_
                      refine g_iconst hx dL_others_412 (nx := 413) rfl (v := nI 0) (by decide) ?_
                      refine g_callV_M hx [_, _] (k' := 7) (n' := 45) dL_others_413 (nx := 416) rfl lk_L_39 (hX2.1 0 _ rfl) (by decide) rfl rfl (Nat.le_of_ble_eq_true rfl) (Nat.le_of_ble_eq_true rfl) (Nat.le_of_ble_eq_true rfl) (Nat.le_of_ble_eq_true rfl) (Nat.le_of_ble_eq_true rfl) (Nat.le_of_ble_eq_true rfl) (Nat.le_of_ble_eq_true rfl) (s_X3_ofStar0 hst hCJ hab ?_)
                      refine g_icmp_ne hx dL_others_416 (tg := 423) (by decide) (nx := 419) rfl (fun c416 => ?_) (fun c416 => ?_)
                      · refine absurd ?_ c416
                        have z1 := (hIJ (200 + 8 * agB (fun k => I (200 + 8 * k) 6) (nI (40000 * fr)) n) 4 (by omega) (by omega) (by omega) (by omega) (by omega) (by omega) (by omega)).trans hz4
                        rw [z1, au2_n (by omega), au2_n (by omega), hN6, hag]
                      · refine g_iconst hx dL_others_419 (nx := 420) rfl (v := nI 1) (by decide) ?_
                        refine g_goto hx dL_others_420 (tg := 424) (by decide) ?_
                        refine g_iret hx dL_others_424 rfl (by first | rfl | decide) (Nat.le_of_ble_eq_true rfl) (Nat.le_of_ble_eq_true rfl) ?_
                        exact hk2 _ _ _ _ hW
                  · exact absurd c278 (by omega)
                | succ r ih =>
                  intro i w17 w18 hi0 hi1
                  have hab0 := agB_lt (fun k => I (200 + 8 * k) 6) (nI (40000 * fr)) i (by omega)
                  have hab : agB (fun k => I (200 + 8 * k) 6) (nI (40000 * fr)) i < n := by omega
                  obtain ⟨l1, hl1, hk6⟩ := hla i (by omega)
                  obtain ⟨l2, hl2, hk7⟩ := hla (agB (fun k => I (200 + 8 * k) 6) (nI (40000 * fr)) i) hab
                  refine g_iloadG hx dL_others_273 (nx := 275) rfl rfl ?_
                  refine g_aloadG_n hx dL_others_275 rfl (nx := 276) rfl rfl ?_
                  refine g_iconst hx dL_others_276 (nx := 277) rfl (v := nI 0) (by decide) ?_
                  refine g_ialoadN hx dL_others_277 (nx := 278) rfl h11' (by decide) (by omega) (by decide) (v := nI n) ((hI2 _ _ (by omega) (by omega) (by omega) (by omega) (by omega)).trans hc0) ?_
                  refine g_icmp_geN hx dL_others_278 (tg := 355) (by decide) (nx := 281) rfl (by omega) (by omega) (fun c278 => ?_) (fun c278 => ?_)
                  · exact absurd c278 (by omega)
                  · refine g_ldc hx dL_others_281 (nx := 283) rfl (v := nI 40000) kc_L_113 ?_
                    refine g_iloadG hx dL_others_283 (nx := 285) rfl rfl ?_
                    refine g_imulN hx dL_others_285 (nx := 286) rfl  ?_
                    refine g_aloadG_n hx dL_others_286 rfl (nx := 287) rfl rfl ?_
                    refine g_iloadG hx dL_others_287 (nx := 289) rfl rfl ?_
                    refine g_iconst hx dL_others_289 (nx := 290) rfl (v := nI 2) (by decide) ?_
                    refine g_callV_M hx [_, _] (k' := 7) (n' := 45) dL_others_290 (nx := 293) rfl lk_L_39 (hX2.1 0 _ rfl) (by decide) rfl rfl (Nat.le_of_ble_eq_true rfl) (Nat.le_of_ble_eq_true rfl) (Nat.le_of_ble_eq_true rfl) (Nat.le_of_ble_eq_true rfl) (Nat.le_of_ble_eq_true rfl) (Nat.le_of_ble_eq_true rfl) (Nat.le_of_ble_eq_true rfl) (s_X3_ofStar2 hst hN.1 (show i < n by omega) ?_)
                    rw [hI2 _ _ (by omega) (by omega) (by omega) (by omega) (by omega), hk6]
                    refine g_isub hx dL_others_293 (nx := 294) rfl ?_
                    refine g_istore_17 hx dL_others_294 (nx := 296) rfl (by decide) rfl ?_
                    refine g_ldc hx dL_others_296 (nx := 298) rfl (v := nI 40000) kc_L_113 ?_
                    refine g_iloadG hx dL_others_298 (nx := 300) rfl rfl ?_
                    refine g_imulN hx dL_others_300 (nx := 301) rfl  ?_
                    refine g_aloadG_n hx dL_others_301 rfl (nx := 302) rfl rfl ?_
                    refine g_iloadG hx dL_others_302 (nx := 304) rfl rfl ?_
                    refine g_iconst hx dL_others_304 (nx := 305) rfl (v := nI 2) (by decide) ?_
                    refine g_callV_M hx [_, _] (k' := 7) (n' := 45) dL_others_305 (nx := 308) rfl lk_L_39 (hX2.1 0 _ rfl) (by decide) rfl rfl (Nat.le_of_ble_eq_true rfl) (Nat.le_of_ble_eq_true rfl) (Nat.le_of_ble_eq_true rfl) (Nat.le_of_ble_eq_true rfl) (Nat.le_of_ble_eq_true rfl) (Nat.le_of_ble_eq_true rfl) (Nat.le_of_ble_eq_true rfl) (s_X3_ofStar2 hst hN.1 hab ?_)
                    rw [hI2 _ _ (by omega) (by omega) (by omega) (by omega) (by omega), hk7]
                    refine g_isub hx dL_others_308 (nx := 309) rfl ?_
                    refine g_istore_18 hx dL_others_309 (nx := 311) rfl (by decide) rfl ?_
                    refine g_iloadG hx dL_others_311 (nx := 313) rfl rfl ?_
                    refine g_if_ge hx dL_others_313 (tg := 322) (by decide) (nx := 316) rfl (fun c313 => ?_) (fun c313 => ?_)
                    · refine g_iloadG hx dL_others_322 (nx := 324) rfl rfl ?_
                      refine g_iloadG hx dL_others_324 (nx := 326) rfl rfl ?_
                      refine g_if_ge hx dL_others_326 (tg := 335) (by decide) (nx := 329) rfl (fun c326 => ?_) (fun c326 => ?_)
                      · refine g_iloadG hx dL_others_335 (nx := 337) rfl rfl ?_
                        refine g_icmp_ge hx dL_others_337 (tg := 345) (by decide) (nx := 340) rfl (fun c337 => ?_) (fun c337 => ?_)
                        · refine g_iloadG hx dL_others_345 (nx := 347) rfl rfl ?_
                          refine g_istore_15 hx dL_others_347 (nx := 349) rfl (by decide) rfl ?_
                          refine g_iincN_16 hx dL_others_349 (nx := 352) rfl (by decide) (b := 1) (by decide) rfl ?_
                          refine g_goto hx dL_others_352 (tg := 273) (by decide) ?_
                          have hd1 : iabs (I (200 + 8 * i) 6 - nI (40000 * fr)) = nI (40000 * fr) - nI l1 := by rw [hk6]; exact ab_p (by omega) (by omega) c313
                          have hd2 : iabs (I (200 + 8 * agB (fun k => I (200 + 8 * k) 6) (nI (40000 * fr)) i) 6 - nI (40000 * fr)) = nI (40000 * fr) - nI l2 := by rw [hk7]; exact ab_p (by omega) (by omega) c326
                          have K := ih (i + 1) (.int (nI (40000 * fr) - nI l1)) (.int (nI (40000 * fr) - nI l2)) (by omega) (by omega)
                          rw [show agB (fun k => I (200 + 8 * k) 6) (nI (40000 * fr)) (i + 1) = agB (fun k => I (200 + 8 * k) 6) (nI (40000 * fr)) i from (if_neg (by omega)).trans (if_neg (by show ¬ iabs (I (200 + 8 * i) 6 - _) < iabs (I (200 + 8 * agB (fun k => I (200 + 8 * k) 6) (nI (40000 * fr)) i) 6 - _); rw [hd1, hd2]; exact Int32.not_lt.mpr c337))] at K
                          exact K
                        · refine g_iloadG hx dL_others_340 (nx := 342) rfl rfl ?_
                          refine g_goto hx dL_others_342 (tg := 347) (by decide) ?_
                          refine g_istore_15 hx dL_others_347 (nx := 349) rfl (by decide) rfl ?_
                          refine g_iincN_16 hx dL_others_349 (nx := 352) rfl (by decide) (b := 1) (by decide) rfl ?_
                          refine g_goto hx dL_others_352 (tg := 273) (by decide) ?_
                          have hd1 : iabs (I (200 + 8 * i) 6 - nI (40000 * fr)) = nI (40000 * fr) - nI l1 := by rw [hk6]; exact ab_p (by omega) (by omega) c313
                          have hd2 : iabs (I (200 + 8 * agB (fun k => I (200 + 8 * k) 6) (nI (40000 * fr)) i) 6 - nI (40000 * fr)) = nI (40000 * fr) - nI l2 := by rw [hk7]; exact ab_p (by omega) (by omega) c326
                          have K := ih (i + 1) (.int (nI (40000 * fr) - nI l1)) (.int (nI (40000 * fr) - nI l2)) (by omega) (by omega)
                          rw [show agB (fun k => I (200 + 8 * k) 6) (nI (40000 * fr)) (i + 1) = i from (if_neg (by omega)).trans (if_pos (by show iabs (I (200 + 8 * i) 6 - _) < iabs (I (200 + 8 * agB (fun k => I (200 + 8 * k) 6) (nI (40000 * fr)) i) 6 - _); rw [hd1, hd2]; exact Int32.not_le.mp c337))] at K
                          exact K
                      · refine g_iloadG hx dL_others_329 (nx := 331) rfl rfl ?_
                        refine g_ineg hx dL_others_331 (nx := 332) rfl ?_
                        refine g_goto hx dL_others_332 (tg := 337) (by decide) ?_
                        refine g_icmp_ge hx dL_others_337 (tg := 345) (by decide) (nx := 340) rfl (fun c337 => ?_) (fun c337 => ?_)
                        · refine g_iloadG hx dL_others_345 (nx := 347) rfl rfl ?_
                          refine g_istore_15 hx dL_others_347 (nx := 349) rfl (by decide) rfl ?_
                          refine g_iincN_16 hx dL_others_349 (nx := 352) rfl (by decide) (b := 1) (by decide) rfl ?_
                          refine g_goto hx dL_others_352 (tg := 273) (by decide) ?_
                          have hd1 : iabs (I (200 + 8 * i) 6 - nI (40000 * fr)) = nI (40000 * fr) - nI l1 := by rw [hk6]; exact ab_p (by omega) (by omega) c313
                          have hd2 : iabs (I (200 + 8 * agB (fun k => I (200 + 8 * k) 6) (nI (40000 * fr)) i) 6 - nI (40000 * fr)) = -(nI (40000 * fr) - nI l2) := by rw [hk7]; exact ab_m (by omega) (by omega) c326
                          have K := ih (i + 1) (.int (nI (40000 * fr) - nI l1)) (.int (nI (40000 * fr) - nI l2)) (by omega) (by omega)
                          rw [show agB (fun k => I (200 + 8 * k) 6) (nI (40000 * fr)) (i + 1) = agB (fun k => I (200 + 8 * k) 6) (nI (40000 * fr)) i from (if_neg (by omega)).trans (if_neg (by show ¬ iabs (I (200 + 8 * i) 6 - _) < iabs (I (200 + 8 * agB (fun k => I (200 + 8 * k) 6) (nI (40000 * fr)) i) 6 - _); rw [hd1, hd2]; exact Int32.not_lt.mpr c337))] at K
                          exact K
                        · refine g_iloadG hx dL_others_340 (nx := 342) rfl rfl ?_
                          refine g_goto hx dL_others_342 (tg := 347) (by decide) ?_
                          refine g_istore_15 hx dL_others_347 (nx := 349) rfl (by decide) rfl ?_
                          refine g_iincN_16 hx dL_others_349 (nx := 352) rfl (by decide) (b := 1) (by decide) rfl ?_
                          refine g_goto hx dL_others_352 (tg := 273) (by decide) ?_
                          have hd1 : iabs (I (200 + 8 * i) 6 - nI (40000 * fr)) = nI (40000 * fr) - nI l1 := by rw [hk6]; exact ab_p (by omega) (by omega) c313
                          have hd2 : iabs (I (200 + 8 * agB (fun k => I (200 + 8 * k) 6) (nI (40000 * fr)) i) 6 - nI (40000 * fr)) = -(nI (40000 * fr) - nI l2) := by rw [hk7]; exact ab_m (by omega) (by omega) c326
                          have K := ih (i + 1) (.int (nI (40000 * fr) - nI l1)) (.int (nI (40000 * fr) - nI l2)) (by omega) (by omega)
                          rw [show agB (fun k => I (200 + 8 * k) 6) (nI (40000 * fr)) (i + 1) = i from (if_neg (by omega)).trans (if_pos (by show iabs (I (200 + 8 * i) 6 - _) < iabs (I (200 + 8 * agB (fun k => I (200 + 8 * k) 6) (nI (40000 * fr)) i) 6 - _); rw [hd1, hd2]; exact Int32.not_le.mp c337))] at K
                          exact K
                    · refine g_iloadG hx dL_others_316 (nx := 318) rfl rfl ?_
                      refine g_ineg hx dL_others_318 (nx := 319) rfl ?_
                      refine g_goto hx dL_others_319 (tg := 324) (by decide) ?_
                      refine g_iloadG hx dL_others_324 (nx := 326) rfl rfl ?_
                      refine g_if_ge hx dL_others_326 (tg := 335) (by decide) (nx := 329) rfl (fun c326 => ?_) (fun c326 => ?_)
                      · refine g_iloadG hx dL_others_335 (nx := 337) rfl rfl ?_
                        refine g_icmp_ge hx dL_others_337 (tg := 345) (by decide) (nx := 340) rfl (fun c337 => ?_) (fun c337 => ?_)
                        · refine g_iloadG hx dL_others_345 (nx := 347) rfl rfl ?_
                          refine g_istore_15 hx dL_others_347 (nx := 349) rfl (by decide) rfl ?_
                          refine g_iincN_16 hx dL_others_349 (nx := 352) rfl (by decide) (b := 1) (by decide) rfl ?_
                          refine g_goto hx dL_others_352 (tg := 273) (by decide) ?_
                          have hd1 : iabs (I (200 + 8 * i) 6 - nI (40000 * fr)) = -(nI (40000 * fr) - nI l1) := by rw [hk6]; exact ab_m (by omega) (by omega) c313
                          have hd2 : iabs (I (200 + 8 * agB (fun k => I (200 + 8 * k) 6) (nI (40000 * fr)) i) 6 - nI (40000 * fr)) = nI (40000 * fr) - nI l2 := by rw [hk7]; exact ab_p (by omega) (by omega) c326
                          have K := ih (i + 1) (.int (nI (40000 * fr) - nI l1)) (.int (nI (40000 * fr) - nI l2)) (by omega) (by omega)
                          rw [show agB (fun k => I (200 + 8 * k) 6) (nI (40000 * fr)) (i + 1) = agB (fun k => I (200 + 8 * k) 6) (nI (40000 * fr)) i from (if_neg (by omega)).trans (if_neg (by show ¬ iabs (I (200 + 8 * i) 6 - _) < iabs (I (200 + 8 * agB (fun k => I (200 + 8 * k) 6) (nI (40000 * fr)) i) 6 - _); rw [hd1, hd2]; exact Int32.not_lt.mpr c337))] at K
                          exact K
                        · refine g_iloadG hx dL_others_340 (nx := 342) rfl rfl ?_
                          refine g_goto hx dL_others_342 (tg := 347) (by decide) ?_
                          refine g_istore_15 hx dL_others_347 (nx := 349) rfl (by decide) rfl ?_
                          refine g_iincN_16 hx dL_others_349 (nx := 352) rfl (by decide) (b := 1) (by decide) rfl ?_
                          refine g_goto hx dL_others_352 (tg := 273) (by decide) ?_
                          have hd1 : iabs (I (200 + 8 * i) 6 - nI (40000 * fr)) = -(nI (40000 * fr) - nI l1) := by rw [hk6]; exact ab_m (by omega) (by omega) c313
                          have hd2 : iabs (I (200 + 8 * agB (fun k => I (200 + 8 * k) 6) (nI (40000 * fr)) i) 6 - nI (40000 * fr)) = nI (40000 * fr) - nI l2 := by rw [hk7]; exact ab_p (by omega) (by omega) c326
                          have K := ih (i + 1) (.int (nI (40000 * fr) - nI l1)) (.int (nI (40000 * fr) - nI l2)) (by omega) (by omega)
                          rw [show agB (fun k => I (200 + 8 * k) 6) (nI (40000 * fr)) (i + 1) = i from (if_neg (by omega)).trans (if_pos (by show iabs (I (200 + 8 * i) 6 - _) < iabs (I (200 + 8 * agB (fun k => I (200 + 8 * k) 6) (nI (40000 * fr)) i) 6 - _); rw [hd1, hd2]; exact Int32.not_le.mp c337))] at K
                          exact K
                      · refine g_iloadG hx dL_others_329 (nx := 331) rfl rfl ?_
                        refine g_ineg hx dL_others_331 (nx := 332) rfl ?_
                        refine g_goto hx dL_others_332 (tg := 337) (by decide) ?_
                        refine g_icmp_ge hx dL_others_337 (tg := 345) (by decide) (nx := 340) rfl (fun c337 => ?_) (fun c337 => ?_)
                        · refine g_iloadG hx dL_others_345 (nx := 347) rfl rfl ?_
                          refine g_istore_15 hx dL_others_347 (nx := 349) rfl (by decide) rfl ?_
                          refine g_iincN_16 hx dL_others_349 (nx := 352) rfl (by decide) (b := 1) (by decide) rfl ?_
                          refine g_goto hx dL_others_352 (tg := 273) (by decide) ?_
                          have hd1 : iabs (I (200 + 8 * i) 6 - nI (40000 * fr)) = -(nI (40000 * fr) - nI l1) := by rw [hk6]; exact ab_m (by omega) (by omega) c313
                          have hd2 : iabs (I (200 + 8 * agB (fun k => I (200 + 8 * k) 6) (nI (40000 * fr)) i) 6 - nI (40000 * fr)) = -(nI (40000 * fr) - nI l2) := by rw [hk7]; exact ab_m (by omega) (by omega) c326
                          have K := ih (i + 1) (.int (nI (40000 * fr) - nI l1)) (.int (nI (40000 * fr) - nI l2)) (by omega) (by omega)
                          rw [show agB (fun k => I (200 + 8 * k) 6) (nI (40000 * fr)) (i + 1) = agB (fun k => I (200 + 8 * k) 6) (nI (40000 * fr)) i from (if_neg (by omega)).trans (if_neg (by show ¬ iabs (I (200 + 8 * i) 6 - _) < iabs (I (200 + 8 * agB (fun k => I (200 + 8 * k) 6) (nI (40000 * fr)) i) 6 - _); rw [hd1, hd2]; exact Int32.not_lt.mpr c337))] at K
                          exact K
                        · refine g_iloadG hx dL_others_340 (nx := 342) rfl rfl ?_
                          refine g_goto hx dL_others_342 (tg := 347) (by decide) ?_
                          refine g_istore_15 hx dL_others_347 (nx := 349) rfl (by decide) rfl ?_
                          refine g_iincN_16 hx dL_others_349 (nx := 352) rfl (by decide) (b := 1) (by decide) rfl ?_
                          refine g_goto hx dL_others_352 (tg := 273) (by decide) ?_
                          have hd1 : iabs (I (200 + 8 * i) 6 - nI (40000 * fr)) = -(nI (40000 * fr) - nI l1) := by rw [hk6]; exact ab_m (by omega) (by omega) c313
                          have hd2 : iabs (I (200 + 8 * agB (fun k => I (200 + 8 * k) 6) (nI (40000 * fr)) i) 6 - nI (40000 * fr)) = -(nI (40000 * fr) - nI l2) := by rw [hk7]; exact ab_m (by omega) (by omega) c326
                          have K := ih (i + 1) (.int (nI (40000 * fr) - nI l1)) (.int (nI (40000 * fr) - nI l2)) (by omega) (by omega)
                          rw [show agB (fun k => I (200 + 8 * k) 6) (nI (40000 * fr)) (i + 1) = i from (if_neg (by omega)).trans (if_pos (by show iabs (I (200 + 8 * i) 6 - _) < iabs (I (200 + 8 * agB (fun k => I (200 + 8 * k) 6) (nI (40000 * fr)) i) 6 - _); rw [hd1, hd2]; exact Int32.not_le.mp c337))] at K
                          exact K
              refine g_iconst hx dL_others_267 (nx := 268) rfl (v := nI 0) (by decide) ?_
              refine g_istore_15 hx dL_others_268 (nx := 270) rfl (by decide) rfl ?_
              refine g_iconst hx dL_others_270 (nx := 271) rfl (v := nI 1) (by decide) ?_
              refine g_istore_16 hx dL_others_271 (nx := 273) rfl (by decide) rfl ?_
              exact loop1 (n - 1) 1 _ _ (by omega) (by decide)
            refine g_aloadG hx dL_others_209 (nx := 211) rfl rfl ?_
            refine g_iloadG hx dL_others_211 (nx := 213) rfl rfl ?_
            refine g_ialoadN hx dL_others_213 (nx := 214) rfl h13' (by decide) (by omega) (by decide) (v := nI (100000 * ka + 10000 * sa + 1000 * ra + la)) ((hI2 _ _ (by omega) (by omega) (by omega) (by omega) (by omega)).trans h9a) ?_
            refine g_bipush hx dL_others_214 (nx := 216) rfl (v := nI 100) (by decide) ?_
            refine g_iremN hx dL_others_216 (nx := 217) rfl (by omega) (by omega) (by omega) ?_
            rw [show (100000 * ka + 10000 * sa + 1000 * ra + la) % 100 = la from by omega]
            refine g_aloadG hx dL_others_217 (nx := 219) rfl rfl ?_
            refine g_iloadG hx dL_others_219 (nx := 221) rfl rfl ?_
            refine g_ialoadN hx dL_others_221 (nx := 222) rfl h13' (by decide) (by omega) (by decide) (v := nI (100000 * kb + 10000 * sb + 1000 * rb + lb)) ((hI2 _ _ (by omega) (by omega) (by omega) (by omega) (by omega)).trans h9b) ?_
            refine g_bipush hx dL_others_222 (nx := 224) rfl (v := nI 100) (by decide) ?_
            refine g_iremN hx dL_others_224 (nx := 225) rfl (by omega) (by omega) (by omega) ?_
            rw [show (100000 * kb + 10000 * sb + 1000 * rb + lb) % 100 = lb from by omega]
            refine g_icmp_leN hx dL_others_225 (tg := 248) (by decide) (nx := 228) rfl (by omega) (by omega) (fun c225 => ?_) (fun c225 => ?_)
            · refine g_aloadG hx dL_others_248 (nx := 250) rfl rfl ?_
              refine g_iloadG hx dL_others_250 (nx := 252) rfl rfl ?_
              refine g_ialoadN hx dL_others_252 (nx := 253) rfl h13' (by decide) (by omega) (by decide) (v := nI (100000 * kb + 10000 * sb + 1000 * rb + lb)) ((hI2 _ _ (by omega) (by omega) (by omega) (by omega) (by omega)).trans h9b) ?_
              refine g_bipush hx dL_others_253 (nx := 255) rfl (v := nI 100) (by decide) ?_
              refine g_iremN hx dL_others_255 (nx := 256) rfl (by omega) (by omega) (by omega) ?_
              rw [show (100000 * kb + 10000 * sb + 1000 * rb + lb) % 100 = lb from by omega]
              refine g_aloadG hx dL_others_256 (nx := 258) rfl rfl ?_
              refine g_iloadG hx dL_others_258 (nx := 260) rfl rfl ?_
              refine g_ialoadN hx dL_others_260 (nx := 261) rfl h13' (by decide) (by omega) (by decide) (v := nI (100000 * ka + 10000 * sa + 1000 * ra + la)) ((hI2 _ _ (by omega) (by omega) (by omega) (by omega) (by omega)).trans h9a) ?_
              refine g_bipush hx dL_others_261 (nx := 263) rfl (v := nI 100) (by decide) ?_
              refine g_iremN hx dL_others_263 (nx := 264) rfl (by omega) (by omega) (by omega) ?_
              rw [show (100000 * ka + 10000 * sa + 1000 * ra + la) % 100 = la from by omega]
              refine g_isubN hx dL_others_264 (nx := 265) rfl (by omega) ?_
              rw [show lb - la = fr from by rw [hfr, if_neg (by omega)]]
              refine g_istore_14 hx dL_others_265 (nx := 267) rfl (by decide) rfl ?_
              exact J267 _ _ _ _
            · refine g_aloadG hx dL_others_228 (nx := 230) rfl rfl ?_
              refine g_iloadG hx dL_others_230 (nx := 232) rfl rfl ?_
              refine g_ialoadN hx dL_others_232 (nx := 233) rfl h13' (by decide) (by omega) (by decide) (v := nI (100000 * ka + 10000 * sa + 1000 * ra + la)) ((hI2 _ _ (by omega) (by omega) (by omega) (by omega) (by omega)).trans h9a) ?_
              refine g_bipush hx dL_others_233 (nx := 235) rfl (v := nI 100) (by decide) ?_
              refine g_iremN hx dL_others_235 (nx := 236) rfl (by omega) (by omega) (by omega) ?_
              rw [show (100000 * ka + 10000 * sa + 1000 * ra + la) % 100 = la from by omega]
              refine g_aloadG hx dL_others_236 (nx := 238) rfl rfl ?_
              refine g_iloadG hx dL_others_238 (nx := 240) rfl rfl ?_
              refine g_ialoadN hx dL_others_240 (nx := 241) rfl h13' (by decide) (by omega) (by decide) (v := nI (100000 * kb + 10000 * sb + 1000 * rb + lb)) ((hI2 _ _ (by omega) (by omega) (by omega) (by omega) (by omega)).trans h9b) ?_
              refine g_bipush hx dL_others_241 (nx := 243) rfl (v := nI 100) (by decide) ?_
              refine g_iremN hx dL_others_243 (nx := 244) rfl (by omega) (by omega) (by omega) ?_
              rw [show (100000 * kb + 10000 * sb + 1000 * rb + lb) % 100 = lb from by omega]
              refine g_isubN hx dL_others_244 (nx := 245) rfl (by omega) ?_
              rw [show la - lb = fr from by rw [hfr, if_pos c225]]
              refine g_goto hx dL_others_245 (tg := 265) (by decide) ?_
              refine g_istore_14 hx dL_others_265 (nx := 267) rfl (by decide) rfl ?_
              exact J267 _ _ _ _
          · exact absurd c180 (by omega)
  have J73 : ∀ (on bo : Nat) (hon : on = 1 ↔ sa = 1) (hon1 : on ≤ 1) (hbo : bo = 1 ↔ sa = 1 ∧ sb = 1) (hbo1 : bo ≤ 1), aG p l e rmL_others s m args below meth c E io0 S 19 (vx_MQ below (aQc E io0 S Kr) (aXC E io0 S Kx) args s rmL_others.cells rmL_others.slots (aW E)) 73 [.ref 3, .int (nI x), .int (nI y), .ref 11, .ref 13, .ref 14, .int (nI aa), .int (nI bb), .int (nI wt), .int (nI on), .int (nI bo), aU, aU, aU, aU, aU, aU, aU, aU] [] (S) (I) (L) (Rf) 0 0 := by
    intro on bo hon hon1 hbo hbo1
    refine g_iloadG hx dL_others_73 (nx := 75) rfl rfl ?_
    refine g_if_neN hx dL_others_75 (tg := 425) (by decide) (nx := 78) rfl (by omega) (fun c75 => ?_) (fun c75 => ?_)
    · refine g_iloadG hx dL_others_425 (nx := 427) rfl rfl ?_
      refine g_iconst hx dL_others_427 (nx := 428) rfl (v := nI 1) (by decide) ?_
      refine g_icmp_neN hx dL_others_428 (tg := 535) (by decide) (nx := 431) rfl (by omega) (by omega) (fun c428 => ?_) (fun c428 => ?_)
      · refine g_aloadG_n hx dL_others_535 rfl (nx := 536) rfl rfl ?_
        refine g_iconst hx dL_others_536 (nx := 537) rfl (v := nI 5) (by decide) ?_
        refine g_iloadG hx dL_others_537 (nx := 539) rfl rfl ?_
        refine g_iloadG hx dL_others_539 (nx := 541) rfl rfl ?_
        refine g_iconst hx dL_others_541 (nx := 542) rfl (v := nI 0) (by decide) ?_
        refine g_callW hx [_, _, _, _, _] (k' := 7) (n' := 45) dL_others_542 (nx := 545) rfl lk_L_95 rfl (Nat.le_of_ble_eq_true rfl) (Nat.le_of_ble_eq_true rfl) (Nat.le_of_ble_eq_true rfl) (Nat.le_of_ble_eq_true rfl) (Nat.le_of_ble_eq_true rfl) (Nat.le_of_ble_eq_true rfl) (Nat.le_of_ble_eq_true rfl) (s_asks_cite hst hC ha9 hb9 (fun e9 => ?_) (fun e9 e8 => ?_) (fun e9 n8a n8b e0 => ?_))
        · refine g_lstore_11 hx dL_others_545 (nx := 547) rfl (by decide) rfl ?_
          refine g_iloadG hx dL_others_547 (nx := 549) rfl rfl ?_
          refine g_iloadG hx dL_others_549 (nx := 551) rfl rfl ?_
          refine g_icmp_geN hx dL_others_551 (tg := 578) (by decide) (nx := 554) rfl (by omega) (by omega) (fun c551 => ?_) (fun c551 => ?_)
          · refine g_iconst hx dL_others_578 (nx := 579) rfl (v := nI 0) (by decide) ?_
            refine g_istore_13 hx dL_others_579 (nx := 581) rfl (by decide) rfl ?_
            refine g_aloadG hx dL_others_581 (nx := 583) rfl rfl ?_
            refine g_iloadG hx dL_others_583 (nx := 585) rfl rfl ?_
            refine g_dup2i hx dL_others_585 (nx := 586) rfl rfl rfl ?_
            refine g_laloadN hx dL_others_586 (nx := 587) rfl h14 (by decide) (by omega) (by decide) (v := L 14 aa) (rfl) ?_
            refine g_iloadG hx dL_others_587 (nx := 589) rfl rfl ?_
            refine g_if_eqN hx dL_others_589 (tg := 599) (by decide) (nx := 592) rfl (by omega) (fun c589 => ?_) (fun c589 => ?_)
            · refine g_lconst hx dL_others_599 (nx := 600) rfl (v := lN 0) (by decide) ?_
              refine g_lor hx dL_others_600 (nx := 601) rfl ?_
              refine g_lastoreN hx dL_others_601 (nx := 602) rfl h14 (by decide) (by omega) (by decide) ?_
              refine g_iloadG hx dL_others_602 (nx := 604) rfl rfl ?_
              refine g_if_eqN hx dL_others_604 (tg := 629) (by decide) (nx := 607) rfl (by omega) (fun c604 => ?_) (fun c604 => ?_)
              · refine g_lloadG hx dL_others_629 (nx := 631) rfl rfl ?_
                refine g_iloadG hx dL_others_631 (nx := 633) rfl rfl ?_
                refine g_iloadG hx dL_others_633 (nx := 635) rfl rfl ?_
                refine g_icmp_geN hx dL_others_635 (tg := 644) (by decide) (nx := 638) rfl (by omega) (by omega) (fun c635 => ?_) (fun c635 => ?_)
                · refine g_ldc2 hx dL_others_644 (nx := 647) rfl kl_L_48 ?_
                  refine g_lc_ne hx dL_others_647 (p2 := 648) rfl dL_others_648 (tg := 655) (by decide) (nx := 651) rfl (fun c647 => ?_) (fun c647 => ?_)
                  · exact absurd rfl c647
                  · refine g_iconst hx dL_others_651 (nx := 652) rfl (v := nI 1) (by decide) ?_
                    refine g_goto hx dL_others_652 (tg := 656) (by decide) ?_
                    refine g_iret hx dL_others_656 rfl (by first | rfl | decide) (Nat.le_of_ble_eq_true rfl) (Nat.le_of_ble_eq_true rfl) ?_
                    exact hk1 I _ (eqX.refl I) (hG.x (eqX.refl I) (eqX_or0 L aa))
                · exact absurd c635 (by omega)
              · exact absurd c604 (by decide)
            · exact absurd c589 (by decide)
          · exact absurd c551 (by omega)
        · refine g_lstore_11 hx dL_others_545 (nx := 547) rfl (by decide) rfl ?_
          refine g_iloadG hx dL_others_547 (nx := 549) rfl rfl ?_
          refine g_iloadG hx dL_others_549 (nx := 551) rfl rfl ?_
          refine g_icmp_geN hx dL_others_551 (tg := 578) (by decide) (nx := 554) rfl (by omega) (by omega) (fun c551 => ?_) (fun c551 => ?_)
          · exact absurd c551 (by omega)
          · refine g_iloadG hx dL_others_554 (nx := 556) rfl rfl ?_
            refine g_if_eqN hx dL_others_556 (tg := 578) (by decide) (nx := 559) rfl (by omega) (fun c556 => ?_) (fun c556 => ?_)
            · refine g_iconst hx dL_others_578 (nx := 579) rfl (v := nI 0) (by decide) ?_
              refine g_istore_13 hx dL_others_579 (nx := 581) rfl (by decide) rfl ?_
              refine g_aloadG hx dL_others_581 (nx := 583) rfl rfl ?_
              refine g_iloadG hx dL_others_583 (nx := 585) rfl rfl ?_
              refine g_dup2i hx dL_others_585 (nx := 586) rfl rfl rfl ?_
              refine g_laloadN hx dL_others_586 (nx := 587) rfl h14 (by decide) (by omega) (by decide) (v := L 14 aa) (rfl) ?_
              refine g_iloadG hx dL_others_587 (nx := 589) rfl rfl ?_
              refine g_if_eqN hx dL_others_589 (tg := 599) (by decide) (nx := 592) rfl (by omega) (fun c589 => ?_) (fun c589 => ?_)
              · refine g_lconst hx dL_others_599 (nx := 600) rfl (v := lN 0) (by decide) ?_
                refine g_lor hx dL_others_600 (nx := 601) rfl ?_
                refine g_lastoreN hx dL_others_601 (nx := 602) rfl h14 (by decide) (by omega) (by decide) ?_
                refine g_iloadG hx dL_others_602 (nx := 604) rfl rfl ?_
                refine g_if_eqN hx dL_others_604 (tg := 629) (by decide) (nx := 607) rfl (by omega) (fun c604 => ?_) (fun c604 => ?_)
                · refine g_lloadG hx dL_others_629 (nx := 631) rfl rfl ?_
                  refine g_iloadG hx dL_others_631 (nx := 633) rfl rfl ?_
                  refine g_iloadG hx dL_others_633 (nx := 635) rfl rfl ?_
                  refine g_icmp_geN hx dL_others_635 (tg := 644) (by decide) (nx := 638) rfl (by omega) (by omega) (fun c635 => ?_) (fun c635 => ?_)
                  · exact absurd c635 (by omega)
                  · refine g_ldc2 hx dL_others_638 (nx := 641) rfl kl_L_52 ?_
                    refine g_goto hx dL_others_641 (tg := 647) (by decide) ?_
                    refine g_lc_ne hx dL_others_647 (p2 := 648) rfl dL_others_648 (tg := 655) (by decide) (nx := 651) rfl (fun c647 => ?_) (fun c647 => ?_)
                    · exact absurd rfl c647
                    · refine g_iconst hx dL_others_651 (nx := 652) rfl (v := nI 1) (by decide) ?_
                      refine g_goto hx dL_others_652 (tg := 656) (by decide) ?_
                      refine g_iret hx dL_others_656 rfl (by first | rfl | decide) (Nat.le_of_ble_eq_true rfl) (Nat.le_of_ble_eq_true rfl) ?_
                      exact hk1 I _ (eqX.refl I) (hG.x (eqX.refl I) (eqX_or0 L aa))
                · exact absurd c604 (by decide)
              · exact absurd c589 (by decide)
            · refine g_aloadG hx dL_others_559 (nx := 561) rfl rfl ?_
              refine g_iloadG hx dL_others_561 (nx := 563) rfl rfl ?_
              refine g_laloadN hx dL_others_563 (nx := 564) rfl h14 (by decide) (by omega) (by decide) (v := L 14 aa) (rfl) ?_
              refine g_iloadG hx dL_others_564 (nx := 566) rfl rfl ?_
              refine g_lshr hx dL_others_566 (nx := 567) rfl ?_
              refine g_lconst hx dL_others_567 (nx := 568) rfl (v := lN 1) (by decide) ?_
              refine g_land hx dL_others_568 (nx := 569) rfl ?_
              refine g_lconst hx dL_others_569 (nx := 570) rfl (v := lN 0) (by decide) ?_
              refine g_lc_ne hx dL_others_570 (p2 := 571) rfl dL_others_571 (tg := 578) (by decide) (nx := 574) rfl (fun c570 => ?_) (fun c570 => ?_)
              · refine g_iconst hx dL_others_578 (nx := 579) rfl (v := nI 0) (by decide) ?_
                refine g_istore_13 hx dL_others_579 (nx := 581) rfl (by decide) rfl ?_
                refine g_aloadG hx dL_others_581 (nx := 583) rfl rfl ?_
                refine g_iloadG hx dL_others_583 (nx := 585) rfl rfl ?_
                refine g_dup2i hx dL_others_585 (nx := 586) rfl rfl rfl ?_
                refine g_laloadN hx dL_others_586 (nx := 587) rfl h14 (by decide) (by omega) (by decide) (v := L 14 aa) (rfl) ?_
                refine g_iloadG hx dL_others_587 (nx := 589) rfl rfl ?_
                refine g_if_eqN hx dL_others_589 (tg := 599) (by decide) (nx := 592) rfl (by omega) (fun c589 => ?_) (fun c589 => ?_)
                · refine g_lconst hx dL_others_599 (nx := 600) rfl (v := lN 0) (by decide) ?_
                  refine g_lor hx dL_others_600 (nx := 601) rfl ?_
                  refine g_lastoreN hx dL_others_601 (nx := 602) rfl h14 (by decide) (by omega) (by decide) ?_
                  refine g_iloadG hx dL_others_602 (nx := 604) rfl rfl ?_
                  refine g_if_eqN hx dL_others_604 (tg := 629) (by decide) (nx := 607) rfl (by omega) (fun c604 => ?_) (fun c604 => ?_)
                  · refine g_lloadG hx dL_others_629 (nx := 631) rfl rfl ?_
                    refine g_iloadG hx dL_others_631 (nx := 633) rfl rfl ?_
                    refine g_iloadG hx dL_others_633 (nx := 635) rfl rfl ?_
                    refine g_icmp_geN hx dL_others_635 (tg := 644) (by decide) (nx := 638) rfl (by omega) (by omega) (fun c635 => ?_) (fun c635 => ?_)
                    · exact absurd c635 (by omega)
                    · refine g_ldc2 hx dL_others_638 (nx := 641) rfl kl_L_52 ?_
                      refine g_goto hx dL_others_641 (tg := 647) (by decide) ?_
                      refine g_lc_ne hx dL_others_647 (p2 := 648) rfl dL_others_648 (tg := 655) (by decide) (nx := 651) rfl (fun c647 => ?_) (fun c647 => ?_)
                      · exact absurd rfl c647
                      · refine g_iconst hx dL_others_651 (nx := 652) rfl (v := nI 1) (by decide) ?_
                        refine g_goto hx dL_others_652 (tg := 656) (by decide) ?_
                        refine g_iret hx dL_others_656 rfl (by first | rfl | decide) (Nat.le_of_ble_eq_true rfl) (Nat.le_of_ble_eq_true rfl) ?_
                        exact hk1 I _ (eqX.refl I) (hG.x (eqX.refl I) (eqX_or0 L aa))
                  · exact absurd c604 (by decide)
                · exact absurd c589 (by decide)
              · refine absurd ⟨(st_ne ha8 b1a).mpr (by omega), (st_ne hb8 b1b).mpr (by omega), ?_⟩ e8
                have hz : ¬ bqP (L (100 + aa) 7) bb := fun z => by
                  rw [q2a] at c570
                  exact absurd (c570.symm.trans z) (by decide)
                exact Decidable.byContradiction (mt (bqP_and (c := L (100 + aa) 7) (k := bb) (by omega)).mpr hz)
        · have hb1 : bo = 1 := hbo.mpr ⟨(st_ne ha8 b1a).mp n8a, (st_ne hb8 b1b).mp n8b⟩
          refine g_lstore_11 hx dL_others_545 (nx := 547) rfl (by decide) rfl ?_
          refine g_iloadG hx dL_others_547 (nx := 549) rfl rfl ?_
          refine g_iloadG hx dL_others_549 (nx := 551) rfl rfl ?_
          refine g_icmp_geN hx dL_others_551 (tg := 578) (by decide) (nx := 554) rfl (by omega) (by omega) (fun c551 => ?_) (fun c551 => ?_)
          · exact absurd c551 (by omega)
          · refine g_iloadG hx dL_others_554 (nx := 556) rfl rfl ?_
            refine g_if_eqN hx dL_others_556 (tg := 578) (by decide) (nx := 559) rfl (by omega) (fun c556 => ?_) (fun c556 => ?_)
            · exact absurd c556 (by omega)
            · refine g_aloadG hx dL_others_559 (nx := 561) rfl rfl ?_
              refine g_iloadG hx dL_others_561 (nx := 563) rfl rfl ?_
              refine g_laloadN hx dL_others_563 (nx := 564) rfl h14 (by decide) (by omega) (by decide) (v := L 14 aa) (au2_n (by omega)) ?_
              refine g_iloadG hx dL_others_564 (nx := 566) rfl rfl ?_
              refine g_lshr hx dL_others_566 (nx := 567) rfl ?_
              refine g_lconst hx dL_others_567 (nx := 568) rfl (v := lN 1) (by decide) ?_
              refine g_land hx dL_others_568 (nx := 569) rfl ?_
              refine g_lconst hx dL_others_569 (nx := 570) rfl (v := lN 0) (by decide) ?_
              refine g_lc_ne hx dL_others_570 (p2 := 571) rfl dL_others_571 (tg := 578) (by decide) (nx := 574) rfl (fun c570 => ?_) (fun c570 => ?_)
              · refine absurd ?_ c570
                rw [q2a]
                rcases and1 (L (100 + aa) 7 >>> ((nI bb).toInt64 &&& 63)) with z | z
                · exact z
                · exact absurd ((bqP_and (c := L (100 + aa) 7) (k := bb) (by omega)).mp z) (fun w => w e0)
              · refine g_iconst hx dL_others_574 (nx := 575) rfl (v := nI 1) (by decide) ?_
                refine g_goto hx dL_others_575 (tg := 579) (by decide) ?_
                refine g_istore_13 hx dL_others_579 (nx := 581) rfl (by decide) rfl ?_
                refine g_aloadG hx dL_others_581 (nx := 583) rfl rfl ?_
                refine g_iloadG hx dL_others_583 (nx := 585) rfl rfl ?_
                refine g_dup2i hx dL_others_585 (nx := 586) rfl rfl rfl ?_
                refine g_laloadN hx dL_others_586 (nx := 587) rfl h14 (by decide) (by omega) (by decide) (v := L 14 aa) (au2_n (by omega)) ?_
                refine g_iloadG hx dL_others_587 (nx := 589) rfl rfl ?_
                refine g_if_eqN hx dL_others_589 (tg := 599) (by decide) (nx := 592) rfl (by omega) (fun c589 => ?_) (fun c589 => ?_)
                · exact absurd c589 (by decide)
                · refine g_lconst hx dL_others_592 (nx := 593) rfl (v := lN 1) (by decide) ?_
                  refine g_iloadG hx dL_others_593 (nx := 595) rfl rfl ?_
                  refine g_lshl hx dL_others_595 (nx := 596) rfl ?_
                  refine g_goto hx dL_others_596 (tg := 600) (by decide) ?_
                  refine g_lor hx dL_others_600 (nx := 601) rfl ?_
                  refine g_lastoreN hx dL_others_601 (nx := 602) rfl h14 (by decide) (by omega) (by decide) ?_
                  refine g_iloadG hx dL_others_602 (nx := 604) rfl rfl ?_
                  refine g_if_eqN hx dL_others_604 (tg := 629) (by decide) (nx := 607) rfl (by omega) (fun c604 => ?_) (fun c604 => ?_)
                  · exact absurd c604 (by decide)
                  · refine g_lloadG hx dL_others_607 (nx := 609) rfl rfl ?_
                    refine g_aloadG_n hx dL_others_609 rfl (nx := 610) rfl rfl ?_
                    refine g_iloadG hx dL_others_610 (nx := 612) rfl rfl ?_
                    refine g_iconst hx dL_others_612 (nx := 613) rfl (v := nI 5) (by decide) ?_
                    refine g_callV_M hx [_, _] (k' := 7) (n' := 45) dL_others_613 (nx := 616) rfl lk_L_36 (hX.1 0 _ rfl) (by decide) rfl rfl (Nat.le_of_ble_eq_true rfl) (Nat.le_of_ble_eq_true rfl) (Nat.le_of_ble_eq_true rfl) (Nat.le_of_ble_eq_true rfl) (Nat.le_of_ble_eq_true rfl) (Nat.le_of_ble_eq_true rfl) (Nat.le_of_ble_eq_true rfl) (s_X3_ofClaim5 hst hC ha9 ?_)
                    refine g_i2l hx dL_others_616 (nx := 617) rfl ?_
                    refine g_lc_ne hx dL_others_617 (p2 := 618) rfl dL_others_618 (tg := 625) (by decide) (nx := 621) rfl (fun c617 => ?_) (fun c617 => ?_)
                    · refine absurd ?_ c617
                      show _ = (bcnt (au2 (au2 L (100 + aa) 7 (L (100 + aa) 7 ||| bitL (nI bb))) 14 aa _ (100 + aa) 7)).toInt64
                      rw [au2_n (by omega), au2_s]
                    · refine g_iconst hx dL_others_621 (nx := 622) rfl (v := nI 1) (by decide) ?_
                      refine g_goto hx dL_others_622 (tg := 656) (by decide) ?_
                      refine g_iret hx dL_others_656 rfl (by first | rfl | decide) (Nat.le_of_ble_eq_true rfl) (Nat.le_of_ble_eq_true rfl) ?_
                      refine hk1 I _ (eqX.refl I) ?_
                      exact gC_cite hG ha9 hc40 e9 n8b
      · refine g_aloadG_n hx dL_others_431 rfl (nx := 432) rfl rfl ?_
        refine g_iconst hx dL_others_432 (nx := 433) rfl (v := nI 4) (by decide) ?_
        refine g_iloadG hx dL_others_433 (nx := 435) rfl rfl ?_
        refine g_iconst hx dL_others_435 (nx := 436) rfl (v := nI 0) (by decide) ?_
        refine g_iconst hx dL_others_436 (nx := 437) rfl (v := nI 0) (by decide) ?_
        refine g_callW hx [_, _, _, _, _] (k' := 7) (n' := 45) dL_others_437 (nx := 440) rfl lk_L_95 rfl (Nat.le_of_ble_eq_true rfl) (Nat.le_of_ble_eq_true rfl) (Nat.le_of_ble_eq_true rfl) (Nat.le_of_ble_eq_true rfl) (Nat.le_of_ble_eq_true rfl) (Nat.le_of_ble_eq_true rfl) (Nat.le_of_ble_eq_true rfl) (s_asks_claimPlanet hst hC ha9 (fun e9 => ?_) (fun e9 e8 => ?_) (fun e9 hlt n8a S2 I2 L2 R2 hN => ?_))
        · have hka : ¬ ka = 0 := fun z => e9 (by rw [ha0, z]; rfl)
          refine g_lstore_11 hx dL_others_440 (nx := 442) rfl (by decide) rfl ?_
          refine g_aloadG hx dL_others_442 (nx := 444) rfl rfl ?_
          refine g_iloadG hx dL_others_444 (nx := 446) rfl rfl ?_
          refine g_ialoadN hx dL_others_446 (nx := 447) rfl h13 (by decide) (by omega) (by decide) (v := nI (100000 * ka + 10000 * sa + 1000 * ra + la)) (h9a) ?_
          refine g_ldc hx dL_others_447 (nx := 449) rfl (v := nI 100000) kc_L_104 ?_
          refine g_idivN hx dL_others_449 (nx := 450) rfl (by omega) (by omega) (by omega) ?_
          refine g_if_neN hx dL_others_450 (tg := 466) (by decide) (nx := 453) rfl (by omega) (fun c450 => ?_) (fun c450 => ?_)
          · refine g_lloadG hx dL_others_466 (nx := 468) rfl rfl ?_
            refine g_aloadG hx dL_others_468 (nx := 470) rfl rfl ?_
            refine g_iloadG hx dL_others_470 (nx := 472) rfl rfl ?_
            refine g_ialoadN hx dL_others_472 (nx := 473) rfl h13 (by decide) (by omega) (by decide) (v := nI (100000 * ka + 10000 * sa + 1000 * ra + la)) (h9a) ?_
            refine g_ldc hx dL_others_473 (nx := 475) rfl (v := nI 100000) kc_L_104 ?_
            refine g_idivN hx dL_others_475 (nx := 476) rfl (by omega) (by omega) (by omega) ?_
            refine g_if_eqN hx dL_others_476 (tg := 485) (by decide) (nx := 479) rfl (by omega) (fun c476 => ?_) (fun c476 => ?_)
            · exact absurd c476 (by omega)
            · refine g_ldc2 hx dL_others_479 (nx := 482) rfl kl_L_48 ?_
              refine g_goto hx dL_others_482 (tg := 488) (by decide) ?_
              refine g_lc_ne hx dL_others_488 (p2 := 489) rfl dL_others_489 (tg := 496) (by decide) (nx := 492) rfl (fun c488 => ?_) (fun c488 => ?_)
              · exact absurd rfl c488
              · refine g_iconst hx dL_others_492 (nx := 493) rfl (v := nI 1) (by decide) ?_
                refine g_goto hx dL_others_493 (tg := 497) (by decide) ?_
                refine g_iret hx dL_others_497 rfl (by first | rfl | decide) (Nat.le_of_ble_eq_true rfl) (Nat.le_of_ble_eq_true rfl) ?_
                exact hk1 I L (eqX.refl I) hG
          · exact absurd c450 (by omega)
        · have hka : ka = 0 := (nI_eq (b := 0) (by omega) (by decide)).mp (ha0.symm.trans e9)
          refine g_lstore_11 hx dL_others_440 (nx := 442) rfl (by decide) rfl ?_
          refine g_aloadG hx dL_others_442 (nx := 444) rfl rfl ?_
          refine g_iloadG hx dL_others_444 (nx := 446) rfl rfl ?_
          refine g_ialoadN hx dL_others_446 (nx := 447) rfl h13 (by decide) (by omega) (by decide) (v := nI (100000 * ka + 10000 * sa + 1000 * ra + la)) (h9a) ?_
          refine g_ldc hx dL_others_447 (nx := 449) rfl (v := nI 100000) kc_L_104 ?_
          refine g_idivN hx dL_others_449 (nx := 450) rfl (by omega) (by omega) (by omega) ?_
          refine g_if_neN hx dL_others_450 (tg := 466) (by decide) (nx := 453) rfl (by omega) (fun c450 => ?_) (fun c450 => ?_)
          · exact absurd c450 (by omega)
          · refine g_iloadG hx dL_others_453 (nx := 455) rfl rfl ?_
            refine g_if_eqN hx dL_others_455 (tg := 466) (by decide) (nx := 458) rfl (by omega) (fun c455 => ?_) (fun c455 => ?_)
            · refine g_lloadG hx dL_others_466 (nx := 468) rfl rfl ?_
              refine g_aloadG hx dL_others_468 (nx := 470) rfl rfl ?_
              refine g_iloadG hx dL_others_470 (nx := 472) rfl rfl ?_
              refine g_ialoadN hx dL_others_472 (nx := 473) rfl h13 (by decide) (by omega) (by decide) (v := nI (100000 * ka + 10000 * sa + 1000 * ra + la)) (h9a) ?_
              refine g_ldc hx dL_others_473 (nx := 475) rfl (v := nI 100000) kc_L_104 ?_
              refine g_idivN hx dL_others_475 (nx := 476) rfl (by omega) (by omega) (by omega) ?_
              refine g_if_eqN hx dL_others_476 (tg := 485) (by decide) (nx := 479) rfl (by omega) (fun c476 => ?_) (fun c476 => ?_)
              · refine g_ldc2 hx dL_others_485 (nx := 488) rfl kl_L_52 ?_
                refine g_lc_ne hx dL_others_488 (p2 := 489) rfl dL_others_489 (tg := 496) (by decide) (nx := 492) rfl (fun c488 => ?_) (fun c488 => ?_)
                · exact absurd rfl c488
                · refine g_iconst hx dL_others_492 (nx := 493) rfl (v := nI 1) (by decide) ?_
                  refine g_goto hx dL_others_493 (tg := 497) (by decide) ?_
                  refine g_iret hx dL_others_497 rfl (by first | rfl | decide) (Nat.le_of_ble_eq_true rfl) (Nat.le_of_ble_eq_true rfl) ?_
                  exact hk1 I L (eqX.refl I) hG
              · exact absurd c476 (by omega)
            · refine g_aloadG_n hx dL_others_458 rfl (nx := 459) rfl rfl ?_
              refine g_iconst hx dL_others_459 (nx := 460) rfl (v := nI 1) (by decide) ?_
              refine g_ialoadN hx dL_others_460 (nx := 461) rfl h11 (by decide) (by omega) (by decide) (v := nI nc) (hc1) ?_
              refine g_bipush hx dL_others_461 (nx := 463) rfl (v := nI 40) (by decide) ?_
              refine g_icmp_neN hx dL_others_463 (tg := 498) (by decide) (nx := 466) rfl (by omega) (by omega) (fun c463 => ?_) (fun c463 => ?_)
              · exact absurd ⟨by omega, (st_ne ha8 b1a).mpr (hon.mp (by omega))⟩ e8
              · refine g_lloadG hx dL_others_466 (nx := 468) rfl rfl ?_
                refine g_aloadG hx dL_others_468 (nx := 470) rfl rfl ?_
                refine g_iloadG hx dL_others_470 (nx := 472) rfl rfl ?_
                refine g_ialoadN hx dL_others_472 (nx := 473) rfl h13 (by decide) (by omega) (by decide) (v := nI (100000 * ka + 10000 * sa + 1000 * ra + la)) (h9a) ?_
                refine g_ldc hx dL_others_473 (nx := 475) rfl (v := nI 100000) kc_L_104 ?_
                refine g_idivN hx dL_others_475 (nx := 476) rfl (by omega) (by omega) (by omega) ?_
                refine g_if_eqN hx dL_others_476 (tg := 485) (by decide) (nx := 479) rfl (by omega) (fun c476 => ?_) (fun c476 => ?_)
                · refine g_ldc2 hx dL_others_485 (nx := 488) rfl kl_L_52 ?_
                  refine g_lc_ne hx dL_others_488 (p2 := 489) rfl dL_others_489 (tg := 496) (by decide) (nx := 492) rfl (fun c488 => ?_) (fun c488 => ?_)
                  · exact absurd rfl c488
                  · refine g_iconst hx dL_others_492 (nx := 493) rfl (v := nI 1) (by decide) ?_
                    refine g_goto hx dL_others_493 (tg := 497) (by decide) ?_
                    refine g_iret hx dL_others_497 rfl (by first | rfl | decide) (Nat.le_of_ble_eq_true rfl) (Nat.le_of_ble_eq_true rfl) ?_
                    exact hk1 I L (eqX.refl I) hG
                · exact absurd c476 (by omega)
        · have hka : ka = 0 := (nI_eq (b := 0) (by omega) (by decide)).mp (ha0.symm.trans e9)
          have hon9 : on = 1 := hon.mpr ((st_ne ha8 b1a).mp n8a)
          rw [ha1, ha2] at hN
          have hS2 := hN.2.1
          have h11' : S2 11 = some (.inl (.int, 6)) := by rw [hS2 _ (by omega)]; exact h11
          have h13' : S2 13 = some (.inl (.int, 40)) := by rw [hS2 _ (by omega)]; exact h13
          have h14' : S2 14 = some (.inl (.long, 40)) := by rw [hS2 _ (by omega)]; exact h14
          have hX2 := hN.1.1
          have hI2 := hN.2.2.1
          have hN8 := hN.2.2.2.2.2.2.2.2.2.2.2.2.2
          have hN6 := hN.2.2.2.2.2.2.2.2.2.2.2.1
          have hW := grew_of (kd := 2) (dc := 0) hlt hn6 hN hG hH (eqX.refl I) (by decide) b2a b3a (by decide) (fun z => absurd z (by decide)) (fun _ => rfl) (by rw [bitL_tb (by omega)]; exact Nat.pow_lt_pow_right (by decide) ha9) (fun j hj hq => by
            rw [bqP_bit1 (by omega) (by omega)] at hq
            rw [hq]; exact n8a)
          refine g_lstore_11 hx dL_others_440 (nx := 442) rfl (by decide) rfl ?_
          refine g_aloadG hx dL_others_442 (nx := 444) rfl rfl ?_
          refine g_iloadG hx dL_others_444 (nx := 446) rfl rfl ?_
          refine g_ialoadN hx dL_others_446 (nx := 447) rfl h13' (by decide) (by omega) (by decide) (v := nI (100000 * ka + 10000 * sa + 1000 * ra + la)) ((hI2 _ _ (by omega) (by omega) (by omega) (by omega) (by omega)).trans h9a) ?_
          refine g_ldc hx dL_others_447 (nx := 449) rfl (v := nI 100000) kc_L_104 ?_
          refine g_idivN hx dL_others_449 (nx := 450) rfl (by omega) (by omega) (by omega) ?_
          refine g_if_neN hx dL_others_450 (tg := 466) (by decide) (nx := 453) rfl (by omega) (fun c450 => ?_) (fun c450 => ?_)
          · exact absurd c450 (by omega)
          · refine g_iloadG hx dL_others_453 (nx := 455) rfl rfl ?_
            refine g_if_eqN hx dL_others_455 (tg := 466) (by decide) (nx := 458) rfl (by omega) (fun c455 => ?_) (fun c455 => ?_)
            · exact absurd c455 (by omega)
            · refine g_aloadG_n hx dL_others_458 rfl (nx := 459) rfl rfl ?_
              refine g_iconst hx dL_others_459 (nx := 460) rfl (v := nI 1) (by decide) ?_
              refine g_ialoadN hx dL_others_460 (nx := 461) rfl h11' (by decide) (by omega) (by decide) (v := nI nc) ((hI2 _ _ (by omega) (by omega) (by omega) (by omega) (by omega)).trans hc1) ?_
              refine g_bipush hx dL_others_461 (nx := 463) rfl (v := nI 40) (by decide) ?_
              refine g_icmp_neN hx dL_others_463 (tg := 498) (by decide) (nx := 466) rfl (by omega) (by omega) (fun c463 => ?_) (fun c463 => ?_)
              · refine g_aloadG_n hx dL_others_498 rfl (nx := 499) rfl rfl ?_
                refine g_lloadG hx dL_others_499 (nx := 501) rfl rfl ?_
                refine g_iconst hx dL_others_501 (nx := 502) rfl (v := nI 2) (by decide) ?_
                refine g_aloadG hx dL_others_502 (nx := 504) rfl rfl ?_
                refine g_iloadG hx dL_others_504 (nx := 506) rfl rfl ?_
                refine g_ialoadN hx dL_others_506 (nx := 507) rfl h13' (by decide) (by omega) (by decide) (v := nI (100000 * ka + 10000 * sa + 1000 * ra + la)) ((hI2 _ _ (by omega) (by omega) (by omega) (by omega) (by omega)).trans h9a) ?_
                refine g_sipush hx dL_others_507 (nx := 510) rfl (v := nI 1000) (by decide) ?_
                refine g_idivN hx dL_others_510 (nx := 511) rfl (by omega) (by omega) (by omega) ?_
                refine g_bipush hx dL_others_511 (nx := 513) rfl (v := nI 10) (by decide) ?_
                refine g_iremN hx dL_others_513 (nx := 514) rfl (by omega) (by omega) (by omega) ?_
                rw [show (100000 * ka + 10000 * sa + 1000 * ra + la) / 1000 % 10 = ra from by omega]
                refine g_aloadG hx dL_others_514 (nx := 516) rfl rfl ?_
                refine g_iloadG hx dL_others_516 (nx := 518) rfl rfl ?_
                refine g_ialoadN hx dL_others_518 (nx := 519) rfl h13' (by decide) (by omega) (by decide) (v := nI (100000 * ka + 10000 * sa + 1000 * ra + la)) ((hI2 _ _ (by omega) (by omega) (by omega) (by omega) (by omega)).trans h9a) ?_
                refine g_bipush hx dL_others_519 (nx := 521) rfl (v := nI 100) (by decide) ?_
                refine g_iremN hx dL_others_521 (nx := 522) rfl (by omega) (by omega) (by omega) ?_
                rw [show (100000 * ka + 10000 * sa + 1000 * ra + la) % 100 = la from by omega]
                refine g_lconst hx dL_others_522 (nx := 523) rfl (v := lN 1) (by decide) ?_
                refine g_iloadG hx dL_others_523 (nx := 525) rfl rfl ?_
                refine g_lshl hx dL_others_525 (nx := 526) rfl ?_
                refine g_aloadG_n hx dL_others_526 rfl (nx := 527) rfl rfl ?_
                refine g_aloadG hx dL_others_527 (nx := 529) rfl rfl ?_
                refine g_aloadG hx dL_others_529 (nx := 531) rfl rfl ?_
                refine g_callS_M hx [_, _, _, _, _, _, _, _, _] (k' := 7) (n' := 45) dL_others_531 (nx := 534) rfl lk_L_109 rfl (Nat.le_of_ble_eq_true rfl) (Nat.le_of_ble_eq_true rfl) (Nat.le_of_ble_eq_true rfl) (Nat.le_of_ble_eq_true rfl) (Nat.le_of_ble_eq_true rfl) (Nat.le_of_ble_eq_true rfl) (Nat.le_of_ble_eq_true rfl) (s_L_makes hst hN.1 h11' h13' h14' ((hI2 _ _ (by omega) (by omega) (by omega) (by omega) (by omega)).trans hc1) hN8 ?_)
                refine g_iret hx dL_others_534 rfl (by first | rfl | decide) (Nat.le_of_ble_eq_true rfl) (Nat.le_of_ble_eq_true rfl) ?_
                exact hk2 _ _ _ _ hW
              · exact absurd c463 (by omega)
    · refine g_aloadG hx dL_others_78 (nx := 80) rfl rfl ?_
      refine g_iloadG hx dL_others_80 (nx := 82) rfl rfl ?_
      refine g_ialoadN hx dL_others_82 (nx := 83) rfl h13 (by decide) (by omega) (by decide) (v := nI (100000 * ka + 10000 * sa + 1000 * ra + la)) (h9a) ?_
      refine g_ldc hx dL_others_83 (nx := 85) rfl (v := nI 100000) kc_L_104 ?_
      refine g_idivN hx dL_others_85 (nx := 86) rfl (by omega) (by omega) (by omega) ?_
      refine g_if_neN hx dL_others_86 (tg := 150) (by decide) (nx := 89) rfl (by omega) (fun c86 => ?_) (fun c86 => ?_)
      · refine g_iconst hx dL_others_150 (nx := 151) rfl (v := nI 0) (by decide) ?_
        refine g_istore_11 hx dL_others_151 (nx := 153) rfl (by decide) rfl ?_
        exact J153 on bo _ hon hon1 hbo hbo1 (by omega) (by omega)
      · refine g_aloadG hx dL_others_89 (nx := 91) rfl rfl ?_
        refine g_iloadG hx dL_others_91 (nx := 93) rfl rfl ?_
        refine g_ialoadN hx dL_others_93 (nx := 94) rfl h13 (by decide) (by omega) (by decide) (v := nI (100000 * kb + 10000 * sb + 1000 * rb + lb)) (h9b) ?_
        refine g_ldc hx dL_others_94 (nx := 96) rfl (v := nI 100000) kc_L_104 ?_
        refine g_idivN hx dL_others_96 (nx := 97) rfl (by omega) (by omega) (by omega) ?_
        refine g_if_neN hx dL_others_97 (tg := 150) (by decide) (nx := 100) rfl (by omega) (fun c97 => ?_) (fun c97 => ?_)
        · refine g_iconst hx dL_others_150 (nx := 151) rfl (v := nI 0) (by decide) ?_
          refine g_istore_11 hx dL_others_151 (nx := 153) rfl (by decide) rfl ?_
          exact J153 on bo _ hon hon1 hbo hbo1 (by omega) (by omega)
        · refine g_aloadG hx dL_others_100 (nx := 102) rfl rfl ?_
          refine g_iloadG hx dL_others_102 (nx := 104) rfl rfl ?_
          refine g_ialoadN hx dL_others_104 (nx := 105) rfl h13 (by decide) (by omega) (by decide) (v := nI (100000 * ka + 10000 * sa + 1000 * ra + la)) (h9a) ?_
          refine g_sipush hx dL_others_105 (nx := 108) rfl (v := nI 1000) (by decide) ?_
          refine g_idivN hx dL_others_108 (nx := 109) rfl (by omega) (by omega) (by omega) ?_
          refine g_bipush hx dL_others_109 (nx := 111) rfl (v := nI 10) (by decide) ?_
          refine g_iremN hx dL_others_111 (nx := 112) rfl (by omega) (by omega) (by omega) ?_
          refine g_aloadG hx dL_others_112 (nx := 114) rfl rfl ?_
          refine g_iloadG hx dL_others_114 (nx := 116) rfl rfl ?_
          refine g_ialoadN hx dL_others_116 (nx := 117) rfl h13 (by decide) (by omega) (by decide) (v := nI (100000 * kb + 10000 * sb + 1000 * rb + lb)) (h9b) ?_
          refine g_sipush hx dL_others_117 (nx := 120) rfl (v := nI 1000) (by decide) ?_
          refine g_idivN hx dL_others_120 (nx := 121) rfl (by omega) (by omega) (by omega) ?_
          refine g_bipush hx dL_others_121 (nx := 123) rfl (v := nI 10) (by decide) ?_
          refine g_iremN hx dL_others_123 (nx := 124) rfl (by omega) (by omega) (by omega) ?_
          refine g_icmp_neN hx dL_others_124 (tg := 150) (by decide) (nx := 127) rfl (by omega) (by omega) (fun c124 => ?_) (fun c124 => ?_)
          · refine g_iconst hx dL_others_150 (nx := 151) rfl (v := nI 0) (by decide) ?_
            refine g_istore_11 hx dL_others_151 (nx := 153) rfl (by decide) rfl ?_
            exact J153 on bo _ hon hon1 hbo hbo1 (by omega) (by omega)
          · refine g_aloadG hx dL_others_127 (nx := 129) rfl rfl ?_
            refine g_iloadG hx dL_others_129 (nx := 131) rfl rfl ?_
            refine g_ialoadN hx dL_others_131 (nx := 132) rfl h13 (by decide) (by omega) (by decide) (v := nI (100000 * ka + 10000 * sa + 1000 * ra + la)) (h9a) ?_
            refine g_bipush hx dL_others_132 (nx := 134) rfl (v := nI 100) (by decide) ?_
            refine g_iremN hx dL_others_134 (nx := 135) rfl (by omega) (by omega) (by omega) ?_
            refine g_aloadG hx dL_others_135 (nx := 137) rfl rfl ?_
            refine g_iloadG hx dL_others_137 (nx := 139) rfl rfl ?_
            refine g_ialoadN hx dL_others_139 (nx := 140) rfl h13 (by decide) (by omega) (by decide) (v := nI (100000 * kb + 10000 * sb + 1000 * rb + lb)) (h9b) ?_
            refine g_bipush hx dL_others_140 (nx := 142) rfl (v := nI 100) (by decide) ?_
            refine g_iremN hx dL_others_142 (nx := 143) rfl (by omega) (by omega) (by omega) ?_
            refine g_icmp_eqN hx dL_others_143 (tg := 150) (by decide) (nx := 146) rfl (by omega) (by omega) (fun c143 => ?_) (fun c143 => ?_)
            · refine g_iconst hx dL_others_150 (nx := 151) rfl (v := nI 0) (by decide) ?_
              refine g_istore_11 hx dL_others_151 (nx := 153) rfl (by decide) rfl ?_
              exact J153 on bo _ hon hon1 hbo hbo1 (by omega) (by omega)
            · refine g_iconst hx dL_others_146 (nx := 147) rfl (v := nI 1) (by decide) ?_
              refine g_goto hx dL_others_147 (tg := 151) (by decide) ?_
              refine g_istore_11 hx dL_others_151 (nx := 153) rfl (by decide) rfl ?_
              exact J153 on bo _ hon hon1 hbo hbo1 (by omega) (by omega)
  refine g_iloadG_n hx dL_others_0 rfl (nx := 1) rfl rfl ?_
  refine g_aloadG_n hx dL_others_1 rfl (nx := 2) rfl rfl ?_
  refine g_iconst hx dL_others_2 (nx := 3) rfl (v := nI 1) (by decide) ?_
  refine g_ialoadN hx dL_others_3 (nx := 4) rfl h11 (by decide) (by omega) (by decide) (v := nI nc) (hc1) ?_
  refine g_iremN hx dL_others_4 (nx := 5) rfl (by omega) (by omega) (by omega) ?_
  rw [← haa]
  refine g_istore_6 hx dL_others_5 (nx := 7) rfl (by decide) rfl ?_
  refine g_iloadG_n hx dL_others_7 rfl (nx := 8) rfl rfl ?_
  refine g_aloadG_n hx dL_others_8 rfl (nx := 9) rfl rfl ?_
  refine g_iconst hx dL_others_9 (nx := 10) rfl (v := nI 1) (by decide) ?_
  refine g_ialoadN hx dL_others_10 (nx := 11) rfl h11 (by decide) (by omega) (by decide) (v := nI nc) (hc1) ?_
  refine g_iremN hx dL_others_11 (nx := 12) rfl (by omega) (by omega) (by omega) ?_
  rw [← hbb]
  refine g_istore_7 hx dL_others_12 (nx := 14) rfl (by decide) rfl ?_
  refine g_iloadG_n hx dL_others_14 rfl (nx := 15) rfl rfl ?_
  refine g_bipush hx dL_others_15 (nx := 17) rfl (v := nI 64) (by decide) ?_
  refine g_idivN hx dL_others_17 (nx := 18) rfl (by omega) (by omega) (by omega) ?_
  refine g_iconst hx dL_others_18 (nx := 19) rfl (v := nI 3) (by decide) ?_
  refine g_iremN hx dL_others_19 (nx := 20) rfl (by omega) (by omega) (by omega) ?_
  rw [← hwt]
  refine g_istore_8 hx dL_others_20 (nx := 22) rfl (by decide) rfl ?_
  refine g_aloadG hx dL_others_22 (nx := 24) rfl rfl ?_
  refine g_iloadG hx dL_others_24 (nx := 26) rfl rfl ?_
  refine g_ialoadN hx dL_others_26 (nx := 27) rfl h13 (by decide) (by omega) (by decide) (v := nI (100000 * ka + 10000 * sa + 1000 * ra + la)) (h9a) ?_
  refine g_sipush hx dL_others_27 (nx := 30) rfl (v := nI 10000) (by decide) ?_
  refine g_idivN hx dL_others_30 (nx := 31) rfl (by omega) (by omega) (by omega) ?_
  refine g_bipush hx dL_others_31 (nx := 33) rfl (v := nI 10) (by decide) ?_
  refine g_iremN hx dL_others_33 (nx := 34) rfl (by omega) (by omega) (by omega) ?_
  refine g_iconst hx dL_others_34 (nx := 35) rfl (v := nI 1) (by decide) ?_
  refine g_icmp_neN hx dL_others_35 (tg := 42) (by decide) (nx := 38) rfl (by omega) (by omega) (fun c35 => ?_) (fun c35 => ?_)
  · refine g_iconst hx dL_others_42 (nx := 43) rfl (v := nI 0) (by decide) ?_
    refine g_istore_9 hx dL_others_43 (nx := 45) rfl (by decide) rfl ?_
    refine g_iloadG hx dL_others_45 (nx := 47) rfl rfl ?_
    refine g_if_eqN hx dL_others_47 (tg := 70) (by decide) (nx := 50) rfl (by omega) (fun c47 => ?_) (fun c47 => ?_)
    · refine g_iconst hx dL_others_70 (nx := 71) rfl (v := nI 0) (by decide) ?_
      refine g_istore_10 hx dL_others_71 (nx := 73) rfl (by decide) rfl ?_
      exact J73 _ _ (by omega) (by omega) (by omega) (by omega)
    · exact absurd c47 (by decide)
  · refine g_iconst hx dL_others_38 (nx := 39) rfl (v := nI 1) (by decide) ?_
    refine g_goto hx dL_others_39 (tg := 43) (by decide) ?_
    refine g_istore_9 hx dL_others_43 (nx := 45) rfl (by decide) rfl ?_
    refine g_iloadG hx dL_others_45 (nx := 47) rfl rfl ?_
    refine g_if_eqN hx dL_others_47 (tg := 70) (by decide) (nx := 50) rfl (by omega) (fun c47 => ?_) (fun c47 => ?_)
    · exact absurd c47 (by decide)
    · refine g_aloadG hx dL_others_50 (nx := 52) rfl rfl ?_
      refine g_iloadG hx dL_others_52 (nx := 54) rfl rfl ?_
      refine g_ialoadN hx dL_others_54 (nx := 55) rfl h13 (by decide) (by omega) (by decide) (v := nI (100000 * kb + 10000 * sb + 1000 * rb + lb)) (h9b) ?_
      refine g_sipush hx dL_others_55 (nx := 58) rfl (v := nI 10000) (by decide) ?_
      refine g_idivN hx dL_others_58 (nx := 59) rfl (by omega) (by omega) (by omega) ?_
      refine g_bipush hx dL_others_59 (nx := 61) rfl (v := nI 10) (by decide) ?_
      refine g_iremN hx dL_others_61 (nx := 62) rfl (by omega) (by omega) (by omega) ?_
      refine g_iconst hx dL_others_62 (nx := 63) rfl (v := nI 1) (by decide) ?_
      refine g_icmp_neN hx dL_others_63 (tg := 70) (by decide) (nx := 66) rfl (by omega) (by omega) (fun c63 => ?_) (fun c63 => ?_)
      · refine g_iconst hx dL_others_70 (nx := 71) rfl (v := nI 0) (by decide) ?_
        refine g_istore_10 hx dL_others_71 (nx := 73) rfl (by decide) rfl ?_
        exact J73 _ _ (by omega) (by omega) (by omega) (by omega)
      · refine g_iconst hx dL_others_66 (nx := 67) rfl (v := nI 1) (by decide) ?_
        refine g_goto hx dL_others_67 (tg := 71) (by decide) ?_
        refine g_istore_10 hx dL_others_71 (nx := 73) rfl (by decide) rfl ?_
        exact J73 _ _ (by omega) (by omega) (by omega) (by omega)

