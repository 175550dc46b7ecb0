/-! the law: a star -/
/-- what the law asks of a star -/
def zS (I : aI) (k : Nat) : Prop := ∃ (ss cr la sm tu g0 ag : Nat) (f g : Nat → Nat), (ss ≤ 8 ∧ I (200 + 8 * k) 3 = nI ss ∧ ∀ i, i < ss → I (200 + 8 * k + 1) i = nI (f i) ∧ I (200 + 8 * k + 2) i = nI (g i) ∧ f i ≤ 99 ∧ 1 ≤ g i ∧ g i ≤ 99) ∧ (crS (fun i => I (200 + 8 * k + 1) i) (fun i => I (200 + 8 * k + 2) i) ss = nI cr ∧ 10 ≤ cr ∧ cr ≤ 1000000 ∧ la = 10000000 / cr ∧ la ≤ 1000000) ∧ I (200 + 8 * k) 4 = nI ag ∧ ag < 100 ∧ I (200 + 8 * k) 5 = nI cr ∧ I (200 + 8 * k) 6 = nI la ∧ I (200 + 8 * k) 7 = nI sm ∧ sm ≤ 1000 ∧ I (200 + 8 * k) 8 = nI tu ∧ tu < 10 ∧ I (200 + 8 * k) 9 = nI (3 * la + 100 * g0) ∧ 1 ≤ g0 ∧ g0 ≤ 99
section TN
variable {la sm tu co o d : Nat} {p t : Int32}
theorem zt_t (h1 : la ≤ 1000000) (h3 : o ≤ 12) (h4 : d ≤ 3) : rg0 (nI la) (nI sm) (nI o) (nI d) = nI (la * (2 * o + d + 3) / 2) - nI (sm * d * (d + 1)) := by
  have e : nI la * (2 * nI o + nI d + 3) = nI (la * (2 * o + d + 3)) := by
    rw [show (2 : Int32) = nI 2 from rfl, show (3 : Int32) = nI 3 from rfl, nI_mul, nI_add, nI_add, nI_mul]
  have hb : la * (2 * o + d + 3) ≤ 1000000 * 30 := Nat.mul_le_mul h1 (by omega)
  have e2 : nI sm * nI d * (nI d + 1) = nI (sm * d * (d + 1)) := by
    rw [← nI_succ, nI_mul, nI_mul]
  rw [rg0, e, e2, show (2 : Int32) = nI 2 from rfl, fdI_N (by omega) (by omega), pk_div (by omega) (by omega) (by omega)]
theorem zt_D (ht : rg0 (nI la) (nI sm) (nI o) (nI d) = t) : rgD (nI la) (nI sm) (nI tu) (nI co) (nI o) (nI d) p = rg1 t (nI co) (nI d) + nI (10 * tu) * p := by
  rw [rgD, ht, show (10 : Int32) = nI 10 from rfl, nI_mul]
theorem zt_n (h : ¬ d = 1) (hd : d ≤ 3) : rg1 t (nI co) (nI d) = t := by
  rw [rg1, if_neg]
  intro z
  exact h ((nI_eq (b := 1) (by omega) (by decide)).mp z)
theorem zt_hi (h : d = 1) (h0 : 0 ≤ t - nI co) (h5 : ¬ t - nI co < nI 500) : rg1 t (nI co) (nI d) = t := by
  subst h
  have h5 : ¬ t - nI co < 500 := h5
  rw [rg1, if_pos (show nI 1 = 1 from rfl), iabs, if_pos h0, if_neg h5]
theorem zt_lo (h : d = 1) (h0 : ¬ 0 ≤ t - nI co) (h5 : ¬ -(t - nI co) < nI 500) : rg1 t (nI co) (nI d) = t := by
  subst h
  have h5 : ¬ -(t - nI co) < 500 := h5
  rw [rg1, if_pos (show nI 1 = 1 from rfl), iabs, if_neg h0, if_neg h5]
theorem zt_hp (h : d = 1) (ht : sm29 t) (hc : sm29 (nI co)) (h0 : 0 ≤ t - nI co) (h5 : t - nI co < nI 500) : rg1 t (nI co) (nI d) = t + (nI 500 - (t - nI co)) / nI 2 := by
  subst h
  have e := sub_ti ht hc
  rw [Int32.le_iff_toInt_le, Int32.toInt_zero, e] at h0
  have h9 : ¬ t < nI co := fun z => by rw [Int32.lt_iff_toInt_lt] at z; omega
  have h0' : 0 ≤ t - nI co := by rw [Int32.le_iff_toInt_le, Int32.toInt_zero, e]; exact h0
  have h5 : t - nI co < 500 := h5
  rw [rg1, if_pos (show nI 1 = 1 from rfl), iabs, if_pos h0', if_pos h5, if_neg h9]
  rfl
theorem zt_lp (h : d = 1) (ht : sm29 t) (hc : sm29 (nI co)) (h0 : ¬ 0 ≤ t - nI co) (h5 : -(t - nI co) < nI 500) : rg1 t (nI co) (nI d) = t - (nI 500 - -(t - nI co)) / nI 2 := by
  subst h
  have e := sub_ti ht hc
  have h9 : t < nI co := by
    rw [Int32.le_iff_toInt_le, Int32.toInt_zero, e] at h0
    rw [Int32.lt_iff_toInt_lt]; omega
  have h5 : -(t - nI co) < 500 := h5
  rw [rg1, if_pos (show nI 1 = 1 from rfl), iabs, if_neg h0, if_pos h5, if_pos h9, ← Int32.sub_eq_add_neg]
  rfl
theorem zt_p {a : Nat} (hd : d ≤ 3) (ha : a ≤ 2 * d) : iout (nI a - nI d) (-nI d) (nI d) = 0 := by
  have e1 : (nI a - nI d).toInt = (a : Int) - d := pk_sub_toInt (by omega) (by omega)
  have e2 : (-nI d).toInt = -(d : Int) := by rw [Int32.toInt_neg, nI_toInt (by omega), bm32 (by omega) (by omega)]
  have e3 : (nI d).toInt = (d : Int) := nI_toInt (by omega)
  unfold iout
  rw [if_neg]
  rintro (z | z)
  · rw [Int32.lt_iff_toInt_lt, e1, e2] at z; omega
  · rw [Int32.lt_iff_toInt_lt, e1, e3] at z; omega
end TN
abbrev rmL_isStar : Room := { frames := 8, cells := 0, slots := 0, locals := 136 }
set_option maxHeartbeats 4000000 in
set_option maxRecDepth 100000 in
theorem s_L_isStar {l : Launch} {E : aE} {S : aS} {I : aI} {L : aL} {Rf : aR} {Kr : aK} {Kx : aX} (hst : l.stackTraces = false) {n nc k x : Nat} (hC : lyC S Rf I n nc) (hk9 : k < n) (hz : zS I k) (hx9 : x < 2 ^ 30) (hk : Kr (some (.int (nI 1))) S I L Rf) : aMet l E yL_isStar cL_isStar 12 (some .boolean) rmL_isStar [.ref 3, .int (nI k), .int (nI x)] S I L Rf Kr Kx := by
  refine aMet.of (lv0 := [.ref 3, .int (nI k), .int (nI x), aU, aU, aU, aU, aU, aU, aU, aU, aU]) (z := 9) (by decide +kernel) hst rfl (Nat.le_of_ble_eq_true rfl) ?_
  intro p e s m args below meth c io0 hx hin hno
  have hx : aCx p l s m args meth c RL cL_isStar 12 (some .boolean) E := hx
  have hX := hC.1
  obtain ⟨ss, cr, la, sm, tu, g0, ag, ff, gg, ⟨hs8, h3, hsh⟩, ⟨hcr, hcr1, hcr2, hla, hla2⟩, h4, hag, h5, h6, h7, hsm, h8, htu, h9, hg1, hg2⟩ := hz
  obtain ⟨od, hod⟩ : ∃ od, od = 1 + x % 12 := ⟨_, rfl⟩
  obtain ⟨dg, hdg⟩ : ∃ dg, dg = x / 12 % 4 := ⟨_, rfl⟩
  obtain ⟨pa, hpa⟩ : ∃ pa, pa = x / 48 % (2 * dg + 1) := ⟨_, rfl⟩
  have hpa2 : pa < 2 * dg + 1 := by rw [hpa]; exact Nat.mod_lt _ (by omega)
  have hA : la * (2 * od + dg + 3) ≤ 1000000 * 30 := Nat.mul_le_mul hla2 (by omega)
  have hT := zt_t (la := la) (sm := sm) (o := od) (d := dg) hla2 (by omega) (by omega)
  have hS9 := rg0_sm (la := la) (sm := sm) (o := od) (d := dg) hla2 (by omega) (by omega) (by omega)
  rw [hT] at hS9
  have hC9 : sm29 (nI (3 * la + 100 * g0)) := nI_sm (by omega)
  refine g_aloadG_n hx dL_isStar_0 rfl (nx := 1) rfl rfl ?_
  refine g_iloadG_n hx dL_isStar_1 rfl (nx := 2) rfl rfl ?_
  refine g_iconst hx dL_isStar_2 (nx := 3) rfl (v := nI 1) (by decide) ?_
  refine g_callV_M hx [_, _] (k' := 0) (n' := 0) dL_isStar_3 (nx := 6) rfl lk_L_39 (hX.1 0 _ rfl) (by decide) rfl rfl (Nat.le_of_ble_eq_true rfl) (Nat.le_of_ble_eq_true rfl) (Nat.le_of_ble_eq_true rfl) (Nat.le_of_ble_eq_true rfl) (Nat.le_of_ble_eq_true rfl) (Nat.le_of_ble_eq_true rfl) (Nat.le_of_ble_eq_true rfl) (s_X3_ofStar1 hst hC hk9 ?_)
  rw [h5]
  refine g_istore_3 hx dL_isStar_6 (nx := 7) rfl (by decide) rfl ?_
  refine g_aloadG_n hx dL_isStar_7 rfl (nx := 8) rfl rfl ?_
  refine g_iloadG_n hx dL_isStar_8 rfl (nx := 9) rfl rfl ?_
  refine g_iconst hx dL_isStar_9 (nx := 10) rfl (v := nI 2) (by decide) ?_
  refine g_callV_M hx [_, _] (k' := 0) (n' := 0) dL_isStar_10 (nx := 13) rfl lk_L_39 (hX.1 0 _ rfl) (by decide) rfl rfl (Nat.le_of_ble_eq_true rfl) (Nat.le_of_ble_eq_true rfl) (Nat.le_of_ble_eq_true rfl) (Nat.le_of_ble_eq_true rfl) (Nat.le_of_ble_eq_true rfl) (Nat.le_of_ble_eq_true rfl) (Nat.le_of_ble_eq_true rfl) (s_X3_ofStar2 hst hC hk9 ?_)
  rw [h6]
  refine g_istore_4 hx dL_isStar_13 (nx := 15) rfl (by decide) rfl ?_
  refine g_iconst hx dL_isStar_15 (nx := 16) rfl (v := nI 1) (by decide) ?_
  refine g_iloadG_n hx dL_isStar_16 rfl (nx := 17) rfl rfl ?_
  refine g_bipush hx dL_isStar_17 (nx := 19) rfl (v := nI 12) (by decide) ?_
  refine g_iremN hx dL_isStar_19 (nx := 20) rfl (by omega) (by omega) (by omega) ?_
  refine g_iaddN hx dL_isStar_20 (nx := 21) rfl  ?_
  rw [← hod]
  refine g_istore_5 hx dL_isStar_21 (nx := 23) rfl (by decide) rfl ?_
  refine g_iloadG_n hx dL_isStar_23 rfl (nx := 24) rfl rfl ?_
  refine g_bipush hx dL_isStar_24 (nx := 26) rfl (v := nI 12) (by decide) ?_
  refine g_idivN hx dL_isStar_26 (nx := 27) rfl (by omega) (by omega) (by omega) ?_
  refine g_iconst hx dL_isStar_27 (nx := 28) rfl (v := nI 4) (by decide) ?_
  refine g_iremN hx dL_isStar_28 (nx := 29) rfl (by omega) (by omega) (by omega) ?_
  rw [← hdg]
  refine g_istore_6 hx dL_isStar_29 (nx := 31) rfl (by decide) rfl ?_
  refine g_iloadG_n hx dL_isStar_31 rfl (nx := 32) rfl rfl ?_
  refine g_bipush hx dL_isStar_32 (nx := 34) rfl (v := nI 48) (by decide) ?_
  refine g_idivN hx dL_isStar_34 (nx := 35) rfl (by omega) (by omega) (by omega) ?_
  refine g_iconst hx dL_isStar_35 (nx := 36) rfl (v := nI 2) (by decide) ?_
  refine g_iloadG hx dL_isStar_36 (nx := 38) rfl rfl ?_
  refine g_imulN hx dL_isStar_38 (nx := 39) rfl  ?_
  refine g_iconst hx dL_isStar_39 (nx := 40) rfl (v := nI 1) (by decide) ?_
  refine g_iaddN hx dL_isStar_40 (nx := 41) rfl  ?_
  refine g_iremN hx dL_isStar_41 (nx := 42) rfl (by omega) (by omega) (by omega) ?_
  rw [← hpa]
  refine g_iloadG hx dL_isStar_42 (nx := 44) rfl rfl ?_
  refine g_isub hx dL_isStar_44 (nx := 45) rfl ?_
  refine g_istore_7 hx dL_isStar_45 (nx := 47) rfl (by decide) rfl ?_
  refine g_iloadG hx dL_isStar_47 (nx := 49) rfl rfl ?_
  refine g_iconst hx dL_isStar_49 (nx := 50) rfl (v := nI 2) (by decide) ?_
  refine g_iloadG hx dL_isStar_50 (nx := 52) rfl rfl ?_
  refine g_imulN hx dL_isStar_52 (nx := 53) rfl  ?_
  refine g_iloadG hx dL_isStar_53 (nx := 55) rfl rfl ?_
  refine g_iaddN hx dL_isStar_55 (nx := 56) rfl  ?_
  refine g_iconst hx dL_isStar_56 (nx := 57) rfl (v := nI 3) (by decide) ?_
  refine g_iaddN hx dL_isStar_57 (nx := 58) rfl  ?_
  refine g_imulN hx dL_isStar_58 (nx := 59) rfl  ?_
  refine g_iconst hx dL_isStar_59 (nx := 60) rfl (v := nI 2) (by decide) ?_
  refine g_idivN hx dL_isStar_60 (nx := 61) rfl (by omega) (by decide) (by decide) ?_
  refine g_aloadG_n hx dL_isStar_61 rfl (nx := 62) rfl rfl ?_
  refine g_iloadG_n hx dL_isStar_62 rfl (nx := 63) rfl rfl ?_
  refine g_iconst hx dL_isStar_63 (nx := 64) rfl (v := nI 3) (by decide) ?_
  refine g_callV_M hx [_, _] (k' := 0) (n' := 0) dL_isStar_64 (nx := 67) rfl lk_L_39 (hX.1 0 _ rfl) (by decide) rfl rfl (Nat.le_of_ble_eq_true rfl) (Nat.le_of_ble_eq_true rfl) (Nat.le_of_ble_eq_true rfl) (Nat.le_of_ble_eq_true rfl) (Nat.le_of_ble_eq_true rfl) (Nat.le_of_ble_eq_true rfl) (Nat.le_of_ble_eq_true rfl) (s_X3_ofStar3 hst hC hk9 ?_)
  rw [h7]
  refine g_iloadG hx dL_isStar_67 (nx := 69) rfl rfl ?_
  refine g_imulN hx dL_isStar_69 (nx := 70) rfl  ?_
  refine g_iloadG hx dL_isStar_70 (nx := 72) rfl rfl ?_
  refine g_iconst hx dL_isStar_72 (nx := 73) rfl (v := nI 1) (by decide) ?_
  refine g_iaddN hx dL_isStar_73 (nx := 74) rfl  ?_
  refine g_imulN hx dL_isStar_74 (nx := 75) rfl  ?_
  refine g_isub hx dL_isStar_75 (nx := 76) rfl ?_
  refine g_istore_8 hx dL_isStar_76 (nx := 78) rfl (by decide) rfl ?_
  refine g_iloadG hx dL_isStar_78 (nx := 80) rfl rfl ?_
  refine g_aloadG_n hx dL_isStar_80 rfl (nx := 81) rfl rfl ?_
  refine g_iloadG_n hx dL_isStar_81 rfl (nx := 82) rfl rfl ?_
  refine g_iconst hx dL_isStar_82 (nx := 83) rfl (v := nI 5) (by decide) ?_
  refine g_callV_M hx [_, _] (k' := 0) (n' := 0) dL_isStar_83 (nx := 86) rfl lk_L_39 (hX.1 0 _ rfl) (by decide) rfl rfl (Nat.le_of_ble_eq_true rfl) (Nat.le_of_ble_eq_true rfl) (Nat.le_of_ble_eq_true rfl) (Nat.le_of_ble_eq_true rfl) (Nat.le_of_ble_eq_true rfl) (Nat.le_of_ble_eq_true rfl) (Nat.le_of_ble_eq_true rfl) (s_X3_ofStar5 hst hC hk9 ?_)
  rw [h9]
  refine g_isub hx dL_isStar_86 (nx := 87) rfl ?_
  refine g_istore_9 hx dL_isStar_87 (nx := 89) rfl (by decide) rfl ?_
  refine g_iloadG hx dL_isStar_89 (nx := 91) rfl rfl ?_
  refine g_if_ge hx dL_isStar_91 (tg := 100) (by decide) (nx := 94) rfl (fun c91 => ?_) (fun c91 => ?_)
  · refine g_iloadG hx dL_isStar_100 (nx := 102) rfl rfl ?_
    refine g_istore_10 hx dL_isStar_102 (nx := 104) rfl (by decide) rfl ?_
    refine g_iloadG hx dL_isStar_104 (nx := 106) rfl rfl ?_
    refine g_iconst hx dL_isStar_106 (nx := 107) rfl (v := nI 1) (by decide) ?_
    refine g_icmp_neN hx dL_isStar_107 (tg := 118) (by decide) (nx := 110) rfl (by omega) (by omega) (fun c107 => ?_) (fun c107 => ?_)
    · refine g_iloadG hx dL_isStar_118 (nx := 120) rfl rfl ?_
      refine g_goto hx dL_isStar_120 (tg := 153) (by decide) ?_
      refine g_istore_11 hx dL_isStar_153 (nx := 155) rfl (by decide) rfl ?_
      refine g_iloadG_n hx dL_isStar_155 rfl (nx := 156) rfl rfl ?_
      refine g_if_leN hx dL_isStar_156 (tg := 269) (by decide) (nx := 159) rfl (by omega) (fun c156 => ?_) (fun c156 => ?_)
      · exact absurd c156 (by omega)
      · refine g_iloadG_n hx dL_isStar_159 rfl (nx := 160) rfl rfl ?_
        refine g_aloadG_n hx dL_isStar_160 rfl (nx := 161) rfl rfl ?_
        refine g_iloadG_n hx dL_isStar_161 rfl (nx := 162) rfl rfl ?_
        refine g_callV_M hx [_] (k' := 0) (n' := 0) dL_isStar_162 (nx := 165) rfl lk_L_54 (hX.1 0 _ rfl) (by decide) rfl rfl (Nat.le_of_ble_eq_true rfl) (Nat.le_of_ble_eq_true rfl) (Nat.le_of_ble_eq_true rfl) (Nat.le_of_ble_eq_true rfl) (Nat.le_of_ble_eq_true rfl) (Nat.le_of_ble_eq_true rfl) (Nat.le_of_ble_eq_true rfl) (s_X3_crossingAnewk (ff := ff) (gg := gg) hst hC hk9 h3 hs8 hsh ?_)
        rw [hcr]
        refine g_icmp_neN hx dL_isStar_165 (tg := 269) (by decide) (nx := 168) rfl (by omega) (by omega) (fun c165 => ?_) (fun c165 => ?_)
        · exact absurd c165 (by omega)
        · refine g_iloadG hx dL_isStar_168 (nx := 170) rfl rfl ?_
          refine g_ldc hx dL_isStar_170 (nx := 172) rfl (v := nI 10000000) kc_L_57 ?_
          refine g_iloadG_n hx dL_isStar_172 rfl (nx := 173) rfl rfl ?_
          refine g_idivN hx dL_isStar_173 (nx := 174) rfl (by omega) (by omega) (by omega) ?_
          rw [← hla]
          refine g_icmp_neN hx dL_isStar_174 (tg := 269) (by decide) (nx := 177) rfl (by omega) (by omega) (fun c174 => ?_) (fun c174 => ?_)
          · exact absurd c174 (by omega)
          · refine g_aloadG_n hx dL_isStar_177 rfl (nx := 178) rfl rfl ?_
            refine g_iloadG_n hx dL_isStar_178 rfl (nx := 179) rfl rfl ?_
            refine g_iconst hx dL_isStar_179 (nx := 180) rfl (v := nI 3) (by decide) ?_
            refine g_callV_M hx [_, _] (k' := 0) (n' := 0) dL_isStar_180 (nx := 183) rfl lk_L_39 (hX.1 0 _ rfl) (by decide) rfl rfl (Nat.le_of_ble_eq_true rfl) (Nat.le_of_ble_eq_true rfl) (Nat.le_of_ble_eq_true rfl) (Nat.le_of_ble_eq_true rfl) (Nat.le_of_ble_eq_true rfl) (Nat.le_of_ble_eq_true rfl) (Nat.le_of_ble_eq_true rfl) (s_X3_ofStar3 hst hC hk9 ?_)
            rw [h7]
            refine g_if_ltN hx dL_isStar_183 (tg := 269) (by decide) (nx := 186) rfl (by omega) (fun c183 => ?_) (fun c183 => ?_)
            · exact absurd c183 (by omega)
            · refine g_aloadG_n hx dL_isStar_186 rfl (nx := 187) rfl rfl ?_
              refine g_iloadG_n hx dL_isStar_187 rfl (nx := 188) rfl rfl ?_
              refine g_iconst hx dL_isStar_188 (nx := 189) rfl (v := nI 4) (by decide) ?_
              refine g_callV_M hx [_, _] (k' := 0) (n' := 0) dL_isStar_189 (nx := 192) rfl lk_L_39 (hX.1 0 _ rfl) (by decide) rfl rfl (Nat.le_of_ble_eq_true rfl) (Nat.le_of_ble_eq_true rfl) (Nat.le_of_ble_eq_true rfl) (Nat.le_of_ble_eq_true rfl) (Nat.le_of_ble_eq_true rfl) (Nat.le_of_ble_eq_true rfl) (Nat.le_of_ble_eq_true rfl) (s_X3_ofStar4 hst hC hk9 ?_)
              rw [h8]
              refine g_if_ltN hx dL_isStar_192 (tg := 269) (by decide) (nx := 195) rfl (by omega) (fun c192 => ?_) (fun c192 => ?_)
              · exact absurd c192 (by omega)
              · refine g_aloadG_n hx dL_isStar_195 rfl (nx := 196) rfl rfl ?_
                refine g_iloadG_n hx dL_isStar_196 rfl (nx := 197) rfl rfl ?_
                refine g_iconst hx dL_isStar_197 (nx := 198) rfl (v := nI 4) (by decide) ?_
                refine g_callV_M hx [_, _] (k' := 0) (n' := 0) dL_isStar_198 (nx := 201) rfl lk_L_39 (hX.1 0 _ rfl) (by decide) rfl rfl (Nat.le_of_ble_eq_true rfl) (Nat.le_of_ble_eq_true rfl) (Nat.le_of_ble_eq_true rfl) (Nat.le_of_ble_eq_true rfl) (Nat.le_of_ble_eq_true rfl) (Nat.le_of_ble_eq_true rfl) (Nat.le_of_ble_eq_true rfl) (s_X3_ofStar4 hst hC hk9 ?_)
                rw [h8]
                refine g_bipush hx dL_isStar_201 (nx := 203) rfl (v := nI 10) (by decide) ?_
                refine g_icmp_geN hx dL_isStar_203 (tg := 269) (by decide) (nx := 206) rfl (by omega) (by omega) (fun c203 => ?_) (fun c203 => ?_)
                · exact absurd c203 (by omega)
                · refine g_aloadG_n hx dL_isStar_206 rfl (nx := 207) rfl rfl ?_
                  refine g_iloadG_n hx dL_isStar_207 rfl (nx := 208) rfl rfl ?_
                  refine g_iconst hx dL_isStar_208 (nx := 209) rfl (v := nI 5) (by decide) ?_
                  refine g_callV_M hx [_, _] (k' := 0) (n' := 0) dL_isStar_209 (nx := 212) rfl lk_L_39 (hX.1 0 _ rfl) (by decide) rfl rfl (Nat.le_of_ble_eq_true rfl) (Nat.le_of_ble_eq_true rfl) (Nat.le_of_ble_eq_true rfl) (Nat.le_of_ble_eq_true rfl) (Nat.le_of_ble_eq_true rfl) (Nat.le_of_ble_eq_true rfl) (Nat.le_of_ble_eq_true rfl) (s_X3_ofStar5 hst hC hk9 ?_)
                  rw [h9]
                  refine g_iconst hx dL_isStar_212 (nx := 213) rfl (v := nI 3) (by decide) ?_
                  refine g_iloadG hx dL_isStar_213 (nx := 215) rfl rfl ?_
                  refine g_imulN hx dL_isStar_215 (nx := 216) rfl  ?_
                  refine g_icmp_leN hx dL_isStar_216 (tg := 269) (by decide) (nx := 219) rfl (by omega) (by omega) (fun c216 => ?_) (fun c216 => ?_)
                  · exact absurd c216 (by omega)
                  · refine g_aloadG_n hx dL_isStar_219 rfl (nx := 220) rfl rfl ?_
                    refine g_iloadG_n hx dL_isStar_220 rfl (nx := 221) rfl rfl ?_
                    refine g_iconst hx dL_isStar_221 (nx := 222) rfl (v := nI 5) (by decide) ?_
                    refine g_callV_M hx [_, _] (k' := 0) (n' := 0) dL_isStar_222 (nx := 225) rfl lk_L_39 (hX.1 0 _ rfl) (by decide) rfl rfl (Nat.le_of_ble_eq_true rfl) (Nat.le_of_ble_eq_true rfl) (Nat.le_of_ble_eq_true rfl) (Nat.le_of_ble_eq_true rfl) (Nat.le_of_ble_eq_true rfl) (Nat.le_of_ble_eq_true rfl) (Nat.le_of_ble_eq_true rfl) (s_X3_ofStar5 hst hC hk9 ?_)
                    rw [h9]
                    refine g_iconst hx dL_isStar_225 (nx := 226) rfl (v := nI 3) (by decide) ?_
                    refine g_iloadG hx dL_isStar_226 (nx := 228) rfl rfl ?_
                    refine g_imulN hx dL_isStar_228 (nx := 229) rfl  ?_
                    refine g_sipush hx dL_isStar_229 (nx := 232) rfl (v := nI 9900) (by decide) ?_
                    refine g_iaddN hx dL_isStar_232 (nx := 233) rfl  ?_
                    refine g_icmp_gtN hx dL_isStar_233 (tg := 269) (by decide) (nx := 236) rfl (by omega) (by omega) (fun c233 => ?_) (fun c233 => ?_)
                    · exact absurd c233 (by omega)
                    · refine g_aloadG_n hx dL_isStar_236 rfl (nx := 237) rfl rfl ?_
                      refine g_iloadG_n hx dL_isStar_237 rfl (nx := 238) rfl rfl ?_
                      refine g_iloadG hx dL_isStar_238 (nx := 240) rfl rfl ?_
                      refine g_iloadG hx dL_isStar_240 (nx := 242) rfl rfl ?_
                      refine g_iloadG hx dL_isStar_242 (nx := 244) rfl rfl ?_
                      refine g_callV_M hx [_, _, _, _] (k' := 0) (n' := 0) dL_isStar_244 (nx := 247) rfl lk_L_58 (hX.1 0 _ rfl) (by decide) rfl rfl (Nat.le_of_ble_eq_true rfl) (Nat.le_of_ble_eq_true rfl) (Nat.le_of_ble_eq_true rfl) (Nat.le_of_ble_eq_true rfl) (Nat.le_of_ble_eq_true rfl) (Nat.le_of_ble_eq_true rfl) (Nat.le_of_ble_eq_true rfl) (s_X3_tonek hst hC hk9 (by omega) (by omega) (by omega) (zt_p (by omega) (by omega)) ?_)
                      refine g_iloadG hx dL_isStar_247 (nx := 249) rfl rfl ?_
                      refine g_bipush hx dL_isStar_249 (nx := 251) rfl (v := nI 10) (by decide) ?_
                      refine g_aloadG_n hx dL_isStar_251 rfl (nx := 252) rfl rfl ?_
                      refine g_iloadG_n hx dL_isStar_252 rfl (nx := 253) rfl rfl ?_
                      refine g_iconst hx dL_isStar_253 (nx := 254) rfl (v := nI 4) (by decide) ?_
                      refine g_callV_M hx [_, _] (k' := 0) (n' := 0) dL_isStar_254 (nx := 257) rfl lk_L_39 (hX.1 0 _ rfl) (by decide) rfl rfl (Nat.le_of_ble_eq_true rfl) (Nat.le_of_ble_eq_true rfl) (Nat.le_of_ble_eq_true rfl) (Nat.le_of_ble_eq_true rfl) (Nat.le_of_ble_eq_true rfl) (Nat.le_of_ble_eq_true rfl) (Nat.le_of_ble_eq_true rfl) (s_X3_ofStar4 hst hC hk9 ?_)
                      rw [h8]
                      refine g_imulN hx dL_isStar_257 (nx := 258) rfl  ?_
                      refine g_iloadG hx dL_isStar_258 (nx := 260) rfl rfl ?_
                      refine g_imul hx dL_isStar_260 (nx := 261) rfl ?_
                      refine g_iadd hx dL_isStar_261 (nx := 262) rfl ?_
                      refine g_icmp_ne hx dL_isStar_262 (tg := 269) (by decide) (nx := 265) rfl (fun c262 => ?_) (fun c262 => ?_)
                      · exact absurd (by rw [rgS, h6, h7, h8, h9, zt_D hT, zt_n c107 (by omega)]) c262
                      · refine g_iconst hx dL_isStar_265 (nx := 266) rfl (v := nI 1) (by decide) ?_
                        refine g_goto hx dL_isStar_266 (tg := 270) (by decide) ?_
                        refine g_iret hx dL_isStar_270 rfl (by first | rfl | decide) (Nat.le_of_ble_eq_true rfl) (Nat.le_of_ble_eq_true rfl) ?_
                        exact hk
    · refine g_iloadG hx dL_isStar_110 (nx := 112) rfl rfl ?_
      refine g_sipush hx dL_isStar_112 (nx := 115) rfl (v := nI 500) (by decide) ?_
      refine g_icmp_lt hx dL_isStar_115 (tg := 123) (by decide) (nx := 118) rfl (fun c115 => ?_) (fun c115 => ?_)
      · refine g_iloadG hx dL_isStar_123 (nx := 125) rfl rfl ?_
        refine g_if_ge hx dL_isStar_125 (tg := 142) (by decide) (nx := 128) rfl (fun c125 => ?_) (fun c125 => ?_)
        · refine g_iloadG hx dL_isStar_142 (nx := 144) rfl rfl ?_
          refine g_sipush hx dL_isStar_144 (nx := 147) rfl (v := nI 500) (by decide) ?_
          refine g_iloadG hx dL_isStar_147 (nx := 149) rfl rfl ?_
          refine g_isub hx dL_isStar_149 (nx := 150) rfl ?_
          refine g_iconst hx dL_isStar_150 (nx := 151) rfl (v := nI 2) (by decide) ?_
          refine g_idiv hx dL_isStar_151 (nx := 152) rfl (by decide) ?_
          refine g_iadd hx dL_isStar_152 (nx := 153) rfl ?_
          refine g_istore_11 hx dL_isStar_153 (nx := 155) rfl (by decide) rfl ?_
          refine g_iloadG_n hx dL_isStar_155 rfl (nx := 156) rfl rfl ?_
          refine g_if_leN hx dL_isStar_156 (tg := 269) (by decide) (nx := 159) rfl (by omega) (fun c156 => ?_) (fun c156 => ?_)
          · exact absurd c156 (by omega)
          · refine g_iloadG_n hx dL_isStar_159 rfl (nx := 160) rfl rfl ?_
            refine g_aloadG_n hx dL_isStar_160 rfl (nx := 161) rfl rfl ?_
            refine g_iloadG_n hx dL_isStar_161 rfl (nx := 162) rfl rfl ?_
            refine g_callV_M hx [_] (k' := 0) (n' := 0) dL_isStar_162 (nx := 165) rfl lk_L_54 (hX.1 0 _ rfl) (by decide) rfl rfl (Nat.le_of_ble_eq_true rfl) (Nat.le_of_ble_eq_true rfl) (Nat.le_of_ble_eq_true rfl) (Nat.le_of_ble_eq_true rfl) (Nat.le_of_ble_eq_true rfl) (Nat.le_of_ble_eq_true rfl) (Nat.le_of_ble_eq_true rfl) (s_X3_crossingAnewk (ff := ff) (gg := gg) hst hC hk9 h3 hs8 hsh ?_)
            rw [hcr]
            refine g_icmp_neN hx dL_isStar_165 (tg := 269) (by decide) (nx := 168) rfl (by omega) (by omega) (fun c165 => ?_) (fun c165 => ?_)
            · exact absurd c165 (by omega)
            · refine g_iloadG hx dL_isStar_168 (nx := 170) rfl rfl ?_
              refine g_ldc hx dL_isStar_170 (nx := 172) rfl (v := nI 10000000) kc_L_57 ?_
              refine g_iloadG_n hx dL_isStar_172 rfl (nx := 173) rfl rfl ?_
              refine g_idivN hx dL_isStar_173 (nx := 174) rfl (by omega) (by omega) (by omega) ?_
              rw [← hla]
              refine g_icmp_neN hx dL_isStar_174 (tg := 269) (by decide) (nx := 177) rfl (by omega) (by omega) (fun c174 => ?_) (fun c174 => ?_)
              · exact absurd c174 (by omega)
              · refine g_aloadG_n hx dL_isStar_177 rfl (nx := 178) rfl rfl ?_
                refine g_iloadG_n hx dL_isStar_178 rfl (nx := 179) rfl rfl ?_
                refine g_iconst hx dL_isStar_179 (nx := 180) rfl (v := nI 3) (by decide) ?_
                refine g_callV_M hx [_, _] (k' := 0) (n' := 0) dL_isStar_180 (nx := 183) rfl lk_L_39 (hX.1 0 _ rfl) (by decide) rfl rfl (Nat.le_of_ble_eq_true rfl) (Nat.le_of_ble_eq_true rfl) (Nat.le_of_ble_eq_true rfl) (Nat.le_of_ble_eq_true rfl) (Nat.le_of_ble_eq_true rfl) (Nat.le_of_ble_eq_true rfl) (Nat.le_of_ble_eq_true rfl) (s_X3_ofStar3 hst hC hk9 ?_)
                rw [h7]
                refine g_if_ltN hx dL_isStar_183 (tg := 269) (by decide) (nx := 186) rfl (by omega) (fun c183 => ?_) (fun c183 => ?_)
                · exact absurd c183 (by omega)
                · refine g_aloadG_n hx dL_isStar_186 rfl (nx := 187) rfl rfl ?_
                  refine g_iloadG_n hx dL_isStar_187 rfl (nx := 188) rfl rfl ?_
                  refine g_iconst hx dL_isStar_188 (nx := 189) rfl (v := nI 4) (by decide) ?_
                  refine g_callV_M hx [_, _] (k' := 0) (n' := 0) dL_isStar_189 (nx := 192) rfl lk_L_39 (hX.1 0 _ rfl) (by decide) rfl rfl (Nat.le_of_ble_eq_true rfl) (Nat.le_of_ble_eq_true rfl) (Nat.le_of_ble_eq_true rfl) (Nat.le_of_ble_eq_true rfl) (Nat.le_of_ble_eq_true rfl) (Nat.le_of_ble_eq_true rfl) (Nat.le_of_ble_eq_true rfl) (s_X3_ofStar4 hst hC hk9 ?_)
                  rw [h8]
                  refine g_if_ltN hx dL_isStar_192 (tg := 269) (by decide) (nx := 195) rfl (by omega) (fun c192 => ?_) (fun c192 => ?_)
                  · exact absurd c192 (by omega)
                  · refine g_aloadG_n hx dL_isStar_195 rfl (nx := 196) rfl rfl ?_
                    refine g_iloadG_n hx dL_isStar_196 rfl (nx := 197) rfl rfl ?_
                    refine g_iconst hx dL_isStar_197 (nx := 198) rfl (v := nI 4) (by decide) ?_
                    refine g_callV_M hx [_, _] (k' := 0) (n' := 0) dL_isStar_198 (nx := 201) rfl lk_L_39 (hX.1 0 _ rfl) (by decide) rfl rfl (Nat.le_of_ble_eq_true rfl) (Nat.le_of_ble_eq_true rfl) (Nat.le_of_ble_eq_true rfl) (Nat.le_of_ble_eq_true rfl) (Nat.le_of_ble_eq_true rfl) (Nat.le_of_ble_eq_true rfl) (Nat.le_of_ble_eq_true rfl) (s_X3_ofStar4 hst hC hk9 ?_)
                    rw [h8]
                    refine g_bipush hx dL_isStar_201 (nx := 203) rfl (v := nI 10) (by decide) ?_
                    refine g_icmp_geN hx dL_isStar_203 (tg := 269) (by decide) (nx := 206) rfl (by omega) (by omega) (fun c203 => ?_) (fun c203 => ?_)
                    · exact absurd c203 (by omega)
                    · refine g_aloadG_n hx dL_isStar_206 rfl (nx := 207) rfl rfl ?_
                      refine g_iloadG_n hx dL_isStar_207 rfl (nx := 208) rfl rfl ?_
                      refine g_iconst hx dL_isStar_208 (nx := 209) rfl (v := nI 5) (by decide) ?_
                      refine g_callV_M hx [_, _] (k' := 0) (n' := 0) dL_isStar_209 (nx := 212) rfl lk_L_39 (hX.1 0 _ rfl) (by decide) rfl rfl (Nat.le_of_ble_eq_true rfl) (Nat.le_of_ble_eq_true rfl) (Nat.le_of_ble_eq_true rfl) (Nat.le_of_ble_eq_true rfl) (Nat.le_of_ble_eq_true rfl) (Nat.le_of_ble_eq_true rfl) (Nat.le_of_ble_eq_true rfl) (s_X3_ofStar5 hst hC hk9 ?_)
                      rw [h9]
                      refine g_iconst hx dL_isStar_212 (nx := 213) rfl (v := nI 3) (by decide) ?_
                      refine g_iloadG hx dL_isStar_213 (nx := 215) rfl rfl ?_
                      refine g_imulN hx dL_isStar_215 (nx := 216) rfl  ?_
                      refine g_icmp_leN hx dL_isStar_216 (tg := 269) (by decide) (nx := 219) rfl (by omega) (by omega) (fun c216 => ?_) (fun c216 => ?_)
                      · exact absurd c216 (by omega)
                      · refine g_aloadG_n hx dL_isStar_219 rfl (nx := 220) rfl rfl ?_
                        refine g_iloadG_n hx dL_isStar_220 rfl (nx := 221) rfl rfl ?_
                        refine g_iconst hx dL_isStar_221 (nx := 222) rfl (v := nI 5) (by decide) ?_
                        refine g_callV_M hx [_, _] (k' := 0) (n' := 0) dL_isStar_222 (nx := 225) rfl lk_L_39 (hX.1 0 _ rfl) (by decide) rfl rfl (Nat.le_of_ble_eq_true rfl) (Nat.le_of_ble_eq_true rfl) (Nat.le_of_ble_eq_true rfl) (Nat.le_of_ble_eq_true rfl) (Nat.le_of_ble_eq_true rfl) (Nat.le_of_ble_eq_true rfl) (Nat.le_of_ble_eq_true rfl) (s_X3_ofStar5 hst hC hk9 ?_)
                        rw [h9]
                        refine g_iconst hx dL_isStar_225 (nx := 226) rfl (v := nI 3) (by decide) ?_
                        refine g_iloadG hx dL_isStar_226 (nx := 228) rfl rfl ?_
                        refine g_imulN hx dL_isStar_228 (nx := 229) rfl  ?_
                        refine g_sipush hx dL_isStar_229 (nx := 232) rfl (v := nI 9900) (by decide) ?_
                        refine g_iaddN hx dL_isStar_232 (nx := 233) rfl  ?_
                        refine g_icmp_gtN hx dL_isStar_233 (tg := 269) (by decide) (nx := 236) rfl (by omega) (by omega) (fun c233 => ?_) (fun c233 => ?_)
                        · exact absurd c233 (by omega)
                        · refine g_aloadG_n hx dL_isStar_236 rfl (nx := 237) rfl rfl ?_
                          refine g_iloadG_n hx dL_isStar_237 rfl (nx := 238) rfl rfl ?_
                          refine g_iloadG hx dL_isStar_238 (nx := 240) rfl rfl ?_
                          refine g_iloadG hx dL_isStar_240 (nx := 242) rfl rfl ?_
                          refine g_iloadG hx dL_isStar_242 (nx := 244) rfl rfl ?_
                          refine g_callV_M hx [_, _, _, _] (k' := 0) (n' := 0) dL_isStar_244 (nx := 247) rfl lk_L_58 (hX.1 0 _ rfl) (by decide) rfl rfl (Nat.le_of_ble_eq_true rfl) (Nat.le_of_ble_eq_true rfl) (Nat.le_of_ble_eq_true rfl) (Nat.le_of_ble_eq_true rfl) (Nat.le_of_ble_eq_true rfl) (Nat.le_of_ble_eq_true rfl) (Nat.le_of_ble_eq_true rfl) (s_X3_tonek hst hC hk9 (by omega) (by omega) (by omega) (zt_p (by omega) (by omega)) ?_)
                          refine g_iloadG hx dL_isStar_247 (nx := 249) rfl rfl ?_
                          refine g_bipush hx dL_isStar_249 (nx := 251) rfl (v := nI 10) (by decide) ?_
                          refine g_aloadG_n hx dL_isStar_251 rfl (nx := 252) rfl rfl ?_
                          refine g_iloadG_n hx dL_isStar_252 rfl (nx := 253) rfl rfl ?_
                          refine g_iconst hx dL_isStar_253 (nx := 254) rfl (v := nI 4) (by decide) ?_
                          refine g_callV_M hx [_, _] (k' := 0) (n' := 0) dL_isStar_254 (nx := 257) rfl lk_L_39 (hX.1 0 _ rfl) (by decide) rfl rfl (Nat.le_of_ble_eq_true rfl) (Nat.le_of_ble_eq_true rfl) (Nat.le_of_ble_eq_true rfl) (Nat.le_of_ble_eq_true rfl) (Nat.le_of_ble_eq_true rfl) (Nat.le_of_ble_eq_true rfl) (Nat.le_of_ble_eq_true rfl) (s_X3_ofStar4 hst hC hk9 ?_)
                          rw [h8]
                          refine g_imulN hx dL_isStar_257 (nx := 258) rfl  ?_
                          refine g_iloadG hx dL_isStar_258 (nx := 260) rfl rfl ?_
                          refine g_imul hx dL_isStar_260 (nx := 261) rfl ?_
                          refine g_iadd hx dL_isStar_261 (nx := 262) rfl ?_
                          refine g_icmp_ne hx dL_isStar_262 (tg := 269) (by decide) (nx := 265) rfl (fun c262 => ?_) (fun c262 => ?_)
                          · exact absurd (by rw [rgS, h6, h7, h8, h9, zt_D hT, zt_hp c107 hS9 hC9 c91 c115]) c262
                          · refine g_iconst hx dL_isStar_265 (nx := 266) rfl (v := nI 1) (by decide) ?_
                            refine g_goto hx dL_isStar_266 (tg := 270) (by decide) ?_
                            refine g_iret hx dL_isStar_270 rfl (by first | rfl | decide) (Nat.le_of_ble_eq_true rfl) (Nat.le_of_ble_eq_true rfl) ?_
                            exact hk
        · exact absurd c91 c125
      · refine g_iloadG hx dL_isStar_118 (nx := 120) rfl rfl ?_
        refine g_goto hx dL_isStar_120 (tg := 153) (by decide) ?_
        refine g_istore_11 hx dL_isStar_153 (nx := 155) rfl (by decide) rfl ?_
        refine g_iloadG_n hx dL_isStar_155 rfl (nx := 156) rfl rfl ?_
        refine g_if_leN hx dL_isStar_156 (tg := 269) (by decide) (nx := 159) rfl (by omega) (fun c156 => ?_) (fun c156 => ?_)
        · exact absurd c156 (by omega)
        · refine g_iloadG_n hx dL_isStar_159 rfl (nx := 160) rfl rfl ?_
          refine g_aloadG_n hx dL_isStar_160 rfl (nx := 161) rfl rfl ?_
          refine g_iloadG_n hx dL_isStar_161 rfl (nx := 162) rfl rfl ?_
          refine g_callV_M hx [_] (k' := 0) (n' := 0) dL_isStar_162 (nx := 165) rfl lk_L_54 (hX.1 0 _ rfl) (by decide) rfl rfl (Nat.le_of_ble_eq_true rfl) (Nat.le_of_ble_eq_true rfl) (Nat.le_of_ble_eq_true rfl) (Nat.le_of_ble_eq_true rfl) (Nat.le_of_ble_eq_true rfl) (Nat.le_of_ble_eq_true rfl) (Nat.le_of_ble_eq_true rfl) (s_X3_crossingAnewk (ff := ff) (gg := gg) hst hC hk9 h3 hs8 hsh ?_)
          rw [hcr]
          refine g_icmp_neN hx dL_isStar_165 (tg := 269) (by decide) (nx := 168) rfl (by omega) (by omega) (fun c165 => ?_) (fun c165 => ?_)
          · exact absurd c165 (by omega)
          · refine g_iloadG hx dL_isStar_168 (nx := 170) rfl rfl ?_
            refine g_ldc hx dL_isStar_170 (nx := 172) rfl (v := nI 10000000) kc_L_57 ?_
            refine g_iloadG_n hx dL_isStar_172 rfl (nx := 173) rfl rfl ?_
            refine g_idivN hx dL_isStar_173 (nx := 174) rfl (by omega) (by omega) (by omega) ?_
            rw [← hla]
            refine g_icmp_neN hx dL_isStar_174 (tg := 269) (by decide) (nx := 177) rfl (by omega) (by omega) (fun c174 => ?_) (fun c174 => ?_)
            · exact absurd c174 (by omega)
            · refine g_aloadG_n hx dL_isStar_177 rfl (nx := 178) rfl rfl ?_
              refine g_iloadG_n hx dL_isStar_178 rfl (nx := 179) rfl rfl ?_
              refine g_iconst hx dL_isStar_179 (nx := 180) rfl (v := nI 3) (by decide) ?_
              refine g_callV_M hx [_, _] (k' := 0) (n' := 0) dL_isStar_180 (nx := 183) rfl lk_L_39 (hX.1 0 _ rfl) (by decide) rfl rfl (Nat.le_of_ble_eq_true rfl) (Nat.le_of_ble_eq_true rfl) (Nat.le_of_ble_eq_true rfl) (Nat.le_of_ble_eq_true rfl) (Nat.le_of_ble_eq_true rfl) (Nat.le_of_ble_eq_true rfl) (Nat.le_of_ble_eq_true rfl) (s_X3_ofStar3 hst hC hk9 ?_)
              rw [h7]
              refine g_if_ltN hx dL_isStar_183 (tg := 269) (by decide) (nx := 186) rfl (by omega) (fun c183 => ?_) (fun c183 => ?_)
              · exact absurd c183 (by omega)
              · refine g_aloadG_n hx dL_isStar_186 rfl (nx := 187) rfl rfl ?_
                refine g_iloadG_n hx dL_isStar_187 rfl (nx := 188) rfl rfl ?_
                refine g_iconst hx dL_isStar_188 (nx := 189) rfl (v := nI 4) (by decide) ?_
                refine g_callV_M hx [_, _] (k' := 0) (n' := 0) dL_isStar_189 (nx := 192) rfl lk_L_39 (hX.1 0 _ rfl) (by decide) rfl rfl (Nat.le_of_ble_eq_true rfl) (Nat.le_of_ble_eq_true rfl) (Nat.le_of_ble_eq_true rfl) (Nat.le_of_ble_eq_true rfl) (Nat.le_of_ble_eq_true rfl) (Nat.le_of_ble_eq_true rfl) (Nat.le_of_ble_eq_true rfl) (s_X3_ofStar4 hst hC hk9 ?_)
                rw [h8]
                refine g_if_ltN hx dL_isStar_192 (tg := 269) (by decide) (nx := 195) rfl (by omega) (fun c192 => ?_) (fun c192 => ?_)
                · exact absurd c192 (by omega)
                · refine g_aloadG_n hx dL_isStar_195 rfl (nx := 196) rfl rfl ?_
                  refine g_iloadG_n hx dL_isStar_196 rfl (nx := 197) rfl rfl ?_
                  refine g_iconst hx dL_isStar_197 (nx := 198) rfl (v := nI 4) (by decide) ?_
                  refine g_callV_M hx [_, _] (k' := 0) (n' := 0) dL_isStar_198 (nx := 201) rfl lk_L_39 (hX.1 0 _ rfl) (by decide) rfl rfl (Nat.le_of_ble_eq_true rfl) (Nat.le_of_ble_eq_true rfl) (Nat.le_of_ble_eq_true rfl) (Nat.le_of_ble_eq_true rfl) (Nat.le_of_ble_eq_true rfl) (Nat.le_of_ble_eq_true rfl) (Nat.le_of_ble_eq_true rfl) (s_X3_ofStar4 hst hC hk9 ?_)
                  rw [h8]
                  refine g_bipush hx dL_isStar_201 (nx := 203) rfl (v := nI 10) (by decide) ?_
                  refine g_icmp_geN hx dL_isStar_203 (tg := 269) (by decide) (nx := 206) rfl (by omega) (by omega) (fun c203 => ?_) (fun c203 => ?_)
                  · exact absurd c203 (by omega)
                  · refine g_aloadG_n hx dL_isStar_206 rfl (nx := 207) rfl rfl ?_
                    refine g_iloadG_n hx dL_isStar_207 rfl (nx := 208) rfl rfl ?_
                    refine g_iconst hx dL_isStar_208 (nx := 209) rfl (v := nI 5) (by decide) ?_
                    refine g_callV_M hx [_, _] (k' := 0) (n' := 0) dL_isStar_209 (nx := 212) rfl lk_L_39 (hX.1 0 _ rfl) (by decide) rfl rfl (Nat.le_of_ble_eq_true rfl) (Nat.le_of_ble_eq_true rfl) (Nat.le_of_ble_eq_true rfl) (Nat.le_of_ble_eq_true rfl) (Nat.le_of_ble_eq_true rfl) (Nat.le_of_ble_eq_true rfl) (Nat.le_of_ble_eq_true rfl) (s_X3_ofStar5 hst hC hk9 ?_)
                    rw [h9]
                    refine g_iconst hx dL_isStar_212 (nx := 213) rfl (v := nI 3) (by decide) ?_
                    refine g_iloadG hx dL_isStar_213 (nx := 215) rfl rfl ?_
                    refine g_imulN hx dL_isStar_215 (nx := 216) rfl  ?_
                    refine g_icmp_leN hx dL_isStar_216 (tg := 269) (by decide) (nx := 219) rfl (by omega) (by omega) (fun c216 => ?_) (fun c216 => ?_)
                    · exact absurd c216 (by omega)
                    · refine g_aloadG_n hx dL_isStar_219 rfl (nx := 220) rfl rfl ?_
                      refine g_iloadG_n hx dL_isStar_220 rfl (nx := 221) rfl rfl ?_
                      refine g_iconst hx dL_isStar_221 (nx := 222) rfl (v := nI 5) (by decide) ?_
                      refine g_callV_M hx [_, _] (k' := 0) (n' := 0) dL_isStar_222 (nx := 225) rfl lk_L_39 (hX.1 0 _ rfl) (by decide) rfl rfl (Nat.le_of_ble_eq_true rfl) (Nat.le_of_ble_eq_true rfl) (Nat.le_of_ble_eq_true rfl) (Nat.le_of_ble_eq_true rfl) (Nat.le_of_ble_eq_true rfl) (Nat.le_of_ble_eq_true rfl) (Nat.le_of_ble_eq_true rfl) (s_X3_ofStar5 hst hC hk9 ?_)
                      rw [h9]
                      refine g_iconst hx dL_isStar_225 (nx := 226) rfl (v := nI 3) (by decide) ?_
                      refine g_iloadG hx dL_isStar_226 (nx := 228) rfl rfl ?_
                      refine g_imulN hx dL_isStar_228 (nx := 229) rfl  ?_
                      refine g_sipush hx dL_isStar_229 (nx := 232) rfl (v := nI 9900) (by decide) ?_
                      refine g_iaddN hx dL_isStar_232 (nx := 233) rfl  ?_
                      refine g_icmp_gtN hx dL_isStar_233 (tg := 269) (by decide) (nx := 236) rfl (by omega) (by omega) (fun c233 => ?_) (fun c233 => ?_)
                      · exact absurd c233 (by omega)
                      · refine g_aloadG_n hx dL_isStar_236 rfl (nx := 237) rfl rfl ?_
                        refine g_iloadG_n hx dL_isStar_237 rfl (nx := 238) rfl rfl ?_
                        refine g_iloadG hx dL_isStar_238 (nx := 240) rfl rfl ?_
                        refine g_iloadG hx dL_isStar_240 (nx := 242) rfl rfl ?_
                        refine g_iloadG hx dL_isStar_242 (nx := 244) rfl rfl ?_
                        refine g_callV_M hx [_, _, _, _] (k' := 0) (n' := 0) dL_isStar_244 (nx := 247) rfl lk_L_58 (hX.1 0 _ rfl) (by decide) rfl rfl (Nat.le_of_ble_eq_true rfl) (Nat.le_of_ble_eq_true rfl) (Nat.le_of_ble_eq_true rfl) (Nat.le_of_ble_eq_true rfl) (Nat.le_of_ble_eq_true rfl) (Nat.le_of_ble_eq_true rfl) (Nat.le_of_ble_eq_true rfl) (s_X3_tonek hst hC hk9 (by omega) (by omega) (by omega) (zt_p (by omega) (by omega)) ?_)
                        refine g_iloadG hx dL_isStar_247 (nx := 249) rfl rfl ?_
                        refine g_bipush hx dL_isStar_249 (nx := 251) rfl (v := nI 10) (by decide) ?_
                        refine g_aloadG_n hx dL_isStar_251 rfl (nx := 252) rfl rfl ?_
                        refine g_iloadG_n hx dL_isStar_252 rfl (nx := 253) rfl rfl ?_
                        refine g_iconst hx dL_isStar_253 (nx := 254) rfl (v := nI 4) (by decide) ?_
                        refine g_callV_M hx [_, _] (k' := 0) (n' := 0) dL_isStar_254 (nx := 257) rfl lk_L_39 (hX.1 0 _ rfl) (by decide) rfl rfl (Nat.le_of_ble_eq_true rfl) (Nat.le_of_ble_eq_true rfl) (Nat.le_of_ble_eq_true rfl) (Nat.le_of_ble_eq_true rfl) (Nat.le_of_ble_eq_true rfl) (Nat.le_of_ble_eq_true rfl) (Nat.le_of_ble_eq_true rfl) (s_X3_ofStar4 hst hC hk9 ?_)
                        rw [h8]
                        refine g_imulN hx dL_isStar_257 (nx := 258) rfl  ?_
                        refine g_iloadG hx dL_isStar_258 (nx := 260) rfl rfl ?_
                        refine g_imul hx dL_isStar_260 (nx := 261) rfl ?_
                        refine g_iadd hx dL_isStar_261 (nx := 262) rfl ?_
                        refine g_icmp_ne hx dL_isStar_262 (tg := 269) (by decide) (nx := 265) rfl (fun c262 => ?_) (fun c262 => ?_)
                        · exact absurd (by rw [rgS, h6, h7, h8, h9, zt_D hT, zt_hi c107 c91 c115]) c262
                        · refine g_iconst hx dL_isStar_265 (nx := 266) rfl (v := nI 1) (by decide) ?_
                          refine g_goto hx dL_isStar_266 (tg := 270) (by decide) ?_
                          refine g_iret hx dL_isStar_270 rfl (by first | rfl | decide) (Nat.le_of_ble_eq_true rfl) (Nat.le_of_ble_eq_true rfl) ?_
                          exact hk
  · refine g_iloadG hx dL_isStar_94 (nx := 96) rfl rfl ?_
    refine g_ineg hx dL_isStar_96 (nx := 97) rfl ?_
    refine g_goto hx dL_isStar_97 (tg := 102) (by decide) ?_
    refine g_istore_10 hx dL_isStar_102 (nx := 104) rfl (by decide) rfl ?_
    refine g_iloadG hx dL_isStar_104 (nx := 106) rfl rfl ?_
    refine g_iconst hx dL_isStar_106 (nx := 107) rfl (v := nI 1) (by decide) ?_
    refine g_icmp_neN hx dL_isStar_107 (tg := 118) (by decide) (nx := 110) rfl (by omega) (by omega) (fun c107 => ?_) (fun c107 => ?_)
    · refine g_iloadG hx dL_isStar_118 (nx := 120) rfl rfl ?_
      refine g_goto hx dL_isStar_120 (tg := 153) (by decide) ?_
      refine g_istore_11 hx dL_isStar_153 (nx := 155) rfl (by decide) rfl ?_
      refine g_iloadG_n hx dL_isStar_155 rfl (nx := 156) rfl rfl ?_
      refine g_if_leN hx dL_isStar_156 (tg := 269) (by decide) (nx := 159) rfl (by omega) (fun c156 => ?_) (fun c156 => ?_)
      · exact absurd c156 (by omega)
      · refine g_iloadG_n hx dL_isStar_159 rfl (nx := 160) rfl rfl ?_
        refine g_aloadG_n hx dL_isStar_160 rfl (nx := 161) rfl rfl ?_
        refine g_iloadG_n hx dL_isStar_161 rfl (nx := 162) rfl rfl ?_
        refine g_callV_M hx [_] (k' := 0) (n' := 0) dL_isStar_162 (nx := 165) rfl lk_L_54 (hX.1 0 _ rfl) (by decide) rfl rfl (Nat.le_of_ble_eq_true rfl) (Nat.le_of_ble_eq_true rfl) (Nat.le_of_ble_eq_true rfl) (Nat.le_of_ble_eq_true rfl) (Nat.le_of_ble_eq_true rfl) (Nat.le_of_ble_eq_true rfl) (Nat.le_of_ble_eq_true rfl) (s_X3_crossingAnewk (ff := ff) (gg := gg) hst hC hk9 h3 hs8 hsh ?_)
        rw [hcr]
        refine g_icmp_neN hx dL_isStar_165 (tg := 269) (by decide) (nx := 168) rfl (by omega) (by omega) (fun c165 => ?_) (fun c165 => ?_)
        · exact absurd c165 (by omega)
        · refine g_iloadG hx dL_isStar_168 (nx := 170) rfl rfl ?_
          refine g_ldc hx dL_isStar_170 (nx := 172) rfl (v := nI 10000000) kc_L_57 ?_
          refine g_iloadG_n hx dL_isStar_172 rfl (nx := 173) rfl rfl ?_
          refine g_idivN hx dL_isStar_173 (nx := 174) rfl (by omega) (by omega) (by omega) ?_
          rw [← hla]
          refine g_icmp_neN hx dL_isStar_174 (tg := 269) (by decide) (nx := 177) rfl (by omega) (by omega) (fun c174 => ?_) (fun c174 => ?_)
          · exact absurd c174 (by omega)
          · refine g_aloadG_n hx dL_isStar_177 rfl (nx := 178) rfl rfl ?_
            refine g_iloadG_n hx dL_isStar_178 rfl (nx := 179) rfl rfl ?_
            refine g_iconst hx dL_isStar_179 (nx := 180) rfl (v := nI 3) (by decide) ?_
            refine g_callV_M hx [_, _] (k' := 0) (n' := 0) dL_isStar_180 (nx := 183) rfl lk_L_39 (hX.1 0 _ rfl) (by decide) rfl rfl (Nat.le_of_ble_eq_true rfl) (Nat.le_of_ble_eq_true rfl) (Nat.le_of_ble_eq_true rfl) (Nat.le_of_ble_eq_true rfl) (Nat.le_of_ble_eq_true rfl) (Nat.le_of_ble_eq_true rfl) (Nat.le_of_ble_eq_true rfl) (s_X3_ofStar3 hst hC hk9 ?_)
            rw [h7]
            refine g_if_ltN hx dL_isStar_183 (tg := 269) (by decide) (nx := 186) rfl (by omega) (fun c183 => ?_) (fun c183 => ?_)
            · exact absurd c183 (by omega)
            · refine g_aloadG_n hx dL_isStar_186 rfl (nx := 187) rfl rfl ?_
              refine g_iloadG_n hx dL_isStar_187 rfl (nx := 188) rfl rfl ?_
              refine g_iconst hx dL_isStar_188 (nx := 189) rfl (v := nI 4) (by decide) ?_
              refine g_callV_M hx [_, _] (k' := 0) (n' := 0) dL_isStar_189 (nx := 192) rfl lk_L_39 (hX.1 0 _ rfl) (by decide) rfl rfl (Nat.le_of_ble_eq_true rfl) (Nat.le_of_ble_eq_true rfl) (Nat.le_of_ble_eq_true rfl) (Nat.le_of_ble_eq_true rfl) (Nat.le_of_ble_eq_true rfl) (Nat.le_of_ble_eq_true rfl) (Nat.le_of_ble_eq_true rfl) (s_X3_ofStar4 hst hC hk9 ?_)
              rw [h8]
              refine g_if_ltN hx dL_isStar_192 (tg := 269) (by decide) (nx := 195) rfl (by omega) (fun c192 => ?_) (fun c192 => ?_)
              · exact absurd c192 (by omega)
              · refine g_aloadG_n hx dL_isStar_195 rfl (nx := 196) rfl rfl ?_
                refine g_iloadG_n hx dL_isStar_196 rfl (nx := 197) rfl rfl ?_
                refine g_iconst hx dL_isStar_197 (nx := 198) rfl (v := nI 4) (by decide) ?_
                refine g_callV_M hx [_, _] (k' := 0) (n' := 0) dL_isStar_198 (nx := 201) rfl lk_L_39 (hX.1 0 _ rfl) (by decide) rfl rfl (Nat.le_of_ble_eq_true rfl) (Nat.le_of_ble_eq_true rfl) (Nat.le_of_ble_eq_true rfl) (Nat.le_of_ble_eq_true rfl) (Nat.le_of_ble_eq_true rfl) (Nat.le_of_ble_eq_true rfl) (Nat.le_of_ble_eq_true rfl) (s_X3_ofStar4 hst hC hk9 ?_)
                rw [h8]
                refine g_bipush hx dL_isStar_201 (nx := 203) rfl (v := nI 10) (by decide) ?_
                refine g_icmp_geN hx dL_isStar_203 (tg := 269) (by decide) (nx := 206) rfl (by omega) (by omega) (fun c203 => ?_) (fun c203 => ?_)
                · exact absurd c203 (by omega)
                · refine g_aloadG_n hx dL_isStar_206 rfl (nx := 207) rfl rfl ?_
                  refine g_iloadG_n hx dL_isStar_207 rfl (nx := 208) rfl rfl ?_
                  refine g_iconst hx dL_isStar_208 (nx := 209) rfl (v := nI 5) (by decide) ?_
                  refine g_callV_M hx [_, _] (k' := 0) (n' := 0) dL_isStar_209 (nx := 212) rfl lk_L_39 (hX.1 0 _ rfl) (by decide) rfl rfl (Nat.le_of_ble_eq_true rfl) (Nat.le_of_ble_eq_true rfl) (Nat.le_of_ble_eq_true rfl) (Nat.le_of_ble_eq_true rfl) (Nat.le_of_ble_eq_true rfl) (Nat.le_of_ble_eq_true rfl) (Nat.le_of_ble_eq_true rfl) (s_X3_ofStar5 hst hC hk9 ?_)
                  rw [h9]
                  refine g_iconst hx dL_isStar_212 (nx := 213) rfl (v := nI 3) (by decide) ?_
                  refine g_iloadG hx dL_isStar_213 (nx := 215) rfl rfl ?_
                  refine g_imulN hx dL_isStar_215 (nx := 216) rfl  ?_
                  refine g_icmp_leN hx dL_isStar_216 (tg := 269) (by decide) (nx := 219) rfl (by omega) (by omega) (fun c216 => ?_) (fun c216 => ?_)
                  · exact absurd c216 (by omega)
                  · refine g_aloadG_n hx dL_isStar_219 rfl (nx := 220) rfl rfl ?_
                    refine g_iloadG_n hx dL_isStar_220 rfl (nx := 221) rfl rfl ?_
                    refine g_iconst hx dL_isStar_221 (nx := 222) rfl (v := nI 5) (by decide) ?_
                    refine g_callV_M hx [_, _] (k' := 0) (n' := 0) dL_isStar_222 (nx := 225) rfl lk_L_39 (hX.1 0 _ rfl) (by decide) rfl rfl (Nat.le_of_ble_eq_true rfl) (Nat.le_of_ble_eq_true rfl) (Nat.le_of_ble_eq_true rfl) (Nat.le_of_ble_eq_true rfl) (Nat.le_of_ble_eq_true rfl) (Nat.le_of_ble_eq_true rfl) (Nat.le_of_ble_eq_true rfl) (s_X3_ofStar5 hst hC hk9 ?_)
                    rw [h9]
                    refine g_iconst hx dL_isStar_225 (nx := 226) rfl (v := nI 3) (by decide) ?_
                    refine g_iloadG hx dL_isStar_226 (nx := 228) rfl rfl ?_
                    refine g_imulN hx dL_isStar_228 (nx := 229) rfl  ?_
                    refine g_sipush hx dL_isStar_229 (nx := 232) rfl (v := nI 9900) (by decide) ?_
                    refine g_iaddN hx dL_isStar_232 (nx := 233) rfl  ?_
                    refine g_icmp_gtN hx dL_isStar_233 (tg := 269) (by decide) (nx := 236) rfl (by omega) (by omega) (fun c233 => ?_) (fun c233 => ?_)
                    · exact absurd c233 (by omega)
                    · refine g_aloadG_n hx dL_isStar_236 rfl (nx := 237) rfl rfl ?_
                      refine g_iloadG_n hx dL_isStar_237 rfl (nx := 238) rfl rfl ?_
                      refine g_iloadG hx dL_isStar_238 (nx := 240) rfl rfl ?_
                      refine g_iloadG hx dL_isStar_240 (nx := 242) rfl rfl ?_
                      refine g_iloadG hx dL_isStar_242 (nx := 244) rfl rfl ?_
                      refine g_callV_M hx [_, _, _, _] (k' := 0) (n' := 0) dL_isStar_244 (nx := 247) rfl lk_L_58 (hX.1 0 _ rfl) (by decide) rfl rfl (Nat.le_of_ble_eq_true rfl) (Nat.le_of_ble_eq_true rfl) (Nat.le_of_ble_eq_true rfl) (Nat.le_of_ble_eq_true rfl) (Nat.le_of_ble_eq_true rfl) (Nat.le_of_ble_eq_true rfl) (Nat.le_of_ble_eq_true rfl) (s_X3_tonek hst hC hk9 (by omega) (by omega) (by omega) (zt_p (by omega) (by omega)) ?_)
                      refine g_iloadG hx dL_isStar_247 (nx := 249) rfl rfl ?_
                      refine g_bipush hx dL_isStar_249 (nx := 251) rfl (v := nI 10) (by decide) ?_
                      refine g_aloadG_n hx dL_isStar_251 rfl (nx := 252) rfl rfl ?_
                      refine g_iloadG_n hx dL_isStar_252 rfl (nx := 253) rfl rfl ?_
                      refine g_iconst hx dL_isStar_253 (nx := 254) rfl (v := nI 4) (by decide) ?_
                      refine g_callV_M hx [_, _] (k' := 0) (n' := 0) dL_isStar_254 (nx := 257) rfl lk_L_39 (hX.1 0 _ rfl) (by decide) rfl rfl (Nat.le_of_ble_eq_true rfl) (Nat.le_of_ble_eq_true rfl) (Nat.le_of_ble_eq_true rfl) (Nat.le_of_ble_eq_true rfl) (Nat.le_of_ble_eq_true rfl) (Nat.le_of_ble_eq_true rfl) (Nat.le_of_ble_eq_true rfl) (s_X3_ofStar4 hst hC hk9 ?_)
                      rw [h8]
                      refine g_imulN hx dL_isStar_257 (nx := 258) rfl  ?_
                      refine g_iloadG hx dL_isStar_258 (nx := 260) rfl rfl ?_
                      refine g_imul hx dL_isStar_260 (nx := 261) rfl ?_
                      refine g_iadd hx dL_isStar_261 (nx := 262) rfl ?_
                      refine g_icmp_ne hx dL_isStar_262 (tg := 269) (by decide) (nx := 265) rfl (fun c262 => ?_) (fun c262 => ?_)
                      · exact absurd (by rw [rgS, h6, h7, h8, h9, zt_D hT, zt_n c107 (by omega)]) c262
                      · refine g_iconst hx dL_isStar_265 (nx := 266) rfl (v := nI 1) (by decide) ?_
                        refine g_goto hx dL_isStar_266 (tg := 270) (by decide) ?_
                        refine g_iret hx dL_isStar_270 rfl (by first | rfl | decide) (Nat.le_of_ble_eq_true rfl) (Nat.le_of_ble_eq_true rfl) ?_
                        exact hk
    · refine g_iloadG hx dL_isStar_110 (nx := 112) rfl rfl ?_
      refine g_sipush hx dL_isStar_112 (nx := 115) rfl (v := nI 500) (by decide) ?_
      refine g_icmp_lt hx dL_isStar_115 (tg := 123) (by decide) (nx := 118) rfl (fun c115 => ?_) (fun c115 => ?_)
      · refine g_iloadG hx dL_isStar_123 (nx := 125) rfl rfl ?_
        refine g_if_ge hx dL_isStar_125 (tg := 142) (by decide) (nx := 128) rfl (fun c125 => ?_) (fun c125 => ?_)
        · exact absurd c125 c91
        · refine g_iloadG hx dL_isStar_128 (nx := 130) rfl rfl ?_
          refine g_sipush hx dL_isStar_130 (nx := 133) rfl (v := nI 500) (by decide) ?_
          refine g_iloadG hx dL_isStar_133 (nx := 135) rfl rfl ?_
          refine g_isub hx dL_isStar_135 (nx := 136) rfl ?_
          refine g_iconst hx dL_isStar_136 (nx := 137) rfl (v := nI 2) (by decide) ?_
          refine g_idiv hx dL_isStar_137 (nx := 138) rfl (by decide) ?_
          refine g_isub hx dL_isStar_138 (nx := 139) rfl ?_
          refine g_goto hx dL_isStar_139 (tg := 153) (by decide) ?_
          refine g_istore_11 hx dL_isStar_153 (nx := 155) rfl (by decide) rfl ?_
          refine g_iloadG_n hx dL_isStar_155 rfl (nx := 156) rfl rfl ?_
          refine g_if_leN hx dL_isStar_156 (tg := 269) (by decide) (nx := 159) rfl (by omega) (fun c156 => ?_) (fun c156 => ?_)
          · exact absurd c156 (by omega)
          · refine g_iloadG_n hx dL_isStar_159 rfl (nx := 160) rfl rfl ?_
            refine g_aloadG_n hx dL_isStar_160 rfl (nx := 161) rfl rfl ?_
            refine g_iloadG_n hx dL_isStar_161 rfl (nx := 162) rfl rfl ?_
            refine g_callV_M hx [_] (k' := 0) (n' := 0) dL_isStar_162 (nx := 165) rfl lk_L_54 (hX.1 0 _ rfl) (by decide) rfl rfl (Nat.le_of_ble_eq_true rfl) (Nat.le_of_ble_eq_true rfl) (Nat.le_of_ble_eq_true rfl) (Nat.le_of_ble_eq_true rfl) (Nat.le_of_ble_eq_true rfl) (Nat.le_of_ble_eq_true rfl) (Nat.le_of_ble_eq_true rfl) (s_X3_crossingAnewk (ff := ff) (gg := gg) hst hC hk9 h3 hs8 hsh ?_)
            rw [hcr]
            refine g_icmp_neN hx dL_isStar_165 (tg := 269) (by decide) (nx := 168) rfl (by omega) (by omega) (fun c165 => ?_) (fun c165 => ?_)
            · exact absurd c165 (by omega)
            · refine g_iloadG hx dL_isStar_168 (nx := 170) rfl rfl ?_
              refine g_ldc hx dL_isStar_170 (nx := 172) rfl (v := nI 10000000) kc_L_57 ?_
              refine g_iloadG_n hx dL_isStar_172 rfl (nx := 173) rfl rfl ?_
              refine g_idivN hx dL_isStar_173 (nx := 174) rfl (by omega) (by omega) (by omega) ?_
              rw [← hla]
              refine g_icmp_neN hx dL_isStar_174 (tg := 269) (by decide) (nx := 177) rfl (by omega) (by omega) (fun c174 => ?_) (fun c174 => ?_)
              · exact absurd c174 (by omega)
              · refine g_aloadG_n hx dL_isStar_177 rfl (nx := 178) rfl rfl ?_
                refine g_iloadG_n hx dL_isStar_178 rfl (nx := 179) rfl rfl ?_
                refine g_iconst hx dL_isStar_179 (nx := 180) rfl (v := nI 3) (by decide) ?_
                refine g_callV_M hx [_, _] (k' := 0) (n' := 0) dL_isStar_180 (nx := 183) rfl lk_L_39 (hX.1 0 _ rfl) (by decide) rfl rfl (Nat.le_of_ble_eq_true rfl) (Nat.le_of_ble_eq_true rfl) (Nat.le_of_ble_eq_true rfl) (Nat.le_of_ble_eq_true rfl) (Nat.le_of_ble_eq_true rfl) (Nat.le_of_ble_eq_true rfl) (Nat.le_of_ble_eq_true rfl) (s_X3_ofStar3 hst hC hk9 ?_)
                rw [h7]
                refine g_if_ltN hx dL_isStar_183 (tg := 269) (by decide) (nx := 186) rfl (by omega) (fun c183 => ?_) (fun c183 => ?_)
                · exact absurd c183 (by omega)
                · refine g_aloadG_n hx dL_isStar_186 rfl (nx := 187) rfl rfl ?_
                  refine g_iloadG_n hx dL_isStar_187 rfl (nx := 188) rfl rfl ?_
                  refine g_iconst hx dL_isStar_188 (nx := 189) rfl (v := nI 4) (by decide) ?_
                  refine g_callV_M hx [_, _] (k' := 0) (n' := 0) dL_isStar_189 (nx := 192) rfl lk_L_39 (hX.1 0 _ rfl) (by decide) rfl rfl (Nat.le_of_ble_eq_true rfl) (Nat.le_of_ble_eq_true rfl) (Nat.le_of_ble_eq_true rfl) (Nat.le_of_ble_eq_true rfl) (Nat.le_of_ble_eq_true rfl) (Nat.le_of_ble_eq_true rfl) (Nat.le_of_ble_eq_true rfl) (s_X3_ofStar4 hst hC hk9 ?_)
                  rw [h8]
                  refine g_if_ltN hx dL_isStar_192 (tg := 269) (by decide) (nx := 195) rfl (by omega) (fun c192 => ?_) (fun c192 => ?_)
                  · exact absurd c192 (by omega)
                  · refine g_aloadG_n hx dL_isStar_195 rfl (nx := 196) rfl rfl ?_
                    refine g_iloadG_n hx dL_isStar_196 rfl (nx := 197) rfl rfl ?_
                    refine g_iconst hx dL_isStar_197 (nx := 198) rfl (v := nI 4) (by decide) ?_
                    refine g_callV_M hx [_, _] (k' := 0) (n' := 0) dL_isStar_198 (nx := 201) rfl lk_L_39 (hX.1 0 _ rfl) (by decide) rfl rfl (Nat.le_of_ble_eq_true rfl) (Nat.le_of_ble_eq_true rfl) (Nat.le_of_ble_eq_true rfl) (Nat.le_of_ble_eq_true rfl) (Nat.le_of_ble_eq_true rfl) (Nat.le_of_ble_eq_true rfl) (Nat.le_of_ble_eq_true rfl) (s_X3_ofStar4 hst hC hk9 ?_)
                    rw [h8]
                    refine g_bipush hx dL_isStar_201 (nx := 203) rfl (v := nI 10) (by decide) ?_
                    refine g_icmp_geN hx dL_isStar_203 (tg := 269) (by decide) (nx := 206) rfl (by omega) (by omega) (fun c203 => ?_) (fun c203 => ?_)
                    · exact absurd c203 (by omega)
                    · refine g_aloadG_n hx dL_isStar_206 rfl (nx := 207) rfl rfl ?_
                      refine g_iloadG_n hx dL_isStar_207 rfl (nx := 208) rfl rfl ?_
                      refine g_iconst hx dL_isStar_208 (nx := 209) rfl (v := nI 5) (by decide) ?_
                      refine g_callV_M hx [_, _] (k' := 0) (n' := 0) dL_isStar_209 (nx := 212) rfl lk_L_39 (hX.1 0 _ rfl) (by decide) rfl rfl (Nat.le_of_ble_eq_true rfl) (Nat.le_of_ble_eq_true rfl) (Nat.le_of_ble_eq_true rfl) (Nat.le_of_ble_eq_true rfl) (Nat.le_of_ble_eq_true rfl) (Nat.le_of_ble_eq_true rfl) (Nat.le_of_ble_eq_true rfl) (s_X3_ofStar5 hst hC hk9 ?_)
                      rw [h9]
                      refine g_iconst hx dL_isStar_212 (nx := 213) rfl (v := nI 3) (by decide) ?_
                      refine g_iloadG hx dL_isStar_213 (nx := 215) rfl rfl ?_
                      refine g_imulN hx dL_isStar_215 (nx := 216) rfl  ?_
                      refine g_icmp_leN hx dL_isStar_216 (tg := 269) (by decide) (nx := 219) rfl (by omega) (by omega) (fun c216 => ?_) (fun c216 => ?_)
                      · exact absurd c216 (by omega)
                      · refine g_aloadG_n hx dL_isStar_219 rfl (nx := 220) rfl rfl ?_
                        refine g_iloadG_n hx dL_isStar_220 rfl (nx := 221) rfl rfl ?_
                        refine g_iconst hx dL_isStar_221 (nx := 222) rfl (v := nI 5) (by decide) ?_
                        refine g_callV_M hx [_, _] (k' := 0) (n' := 0) dL_isStar_222 (nx := 225) rfl lk_L_39 (hX.1 0 _ rfl) (by decide) rfl rfl (Nat.le_of_ble_eq_true rfl) (Nat.le_of_ble_eq_true rfl) (Nat.le_of_ble_eq_true rfl) (Nat.le_of_ble_eq_true rfl) (Nat.le_of_ble_eq_true rfl) (Nat.le_of_ble_eq_true rfl) (Nat.le_of_ble_eq_true rfl) (s_X3_ofStar5 hst hC hk9 ?_)
                        rw [h9]
                        refine g_iconst hx dL_isStar_225 (nx := 226) rfl (v := nI 3) (by decide) ?_
                        refine g_iloadG hx dL_isStar_226 (nx := 228) rfl rfl ?_
                        refine g_imulN hx dL_isStar_228 (nx := 229) rfl  ?_
                        refine g_sipush hx dL_isStar_229 (nx := 232) rfl (v := nI 9900) (by decide) ?_
                        refine g_iaddN hx dL_isStar_232 (nx := 233) rfl  ?_
                        refine g_icmp_gtN hx dL_isStar_233 (tg := 269) (by decide) (nx := 236) rfl (by omega) (by omega) (fun c233 => ?_) (fun c233 => ?_)
                        · exact absurd c233 (by omega)
                        · refine g_aloadG_n hx dL_isStar_236 rfl (nx := 237) rfl rfl ?_
                          refine g_iloadG_n hx dL_isStar_237 rfl (nx := 238) rfl rfl ?_
                          refine g_iloadG hx dL_isStar_238 (nx := 240) rfl rfl ?_
                          refine g_iloadG hx dL_isStar_240 (nx := 242) rfl rfl ?_
                          refine g_iloadG hx dL_isStar_242 (nx := 244) rfl rfl ?_
                          refine g_callV_M hx [_, _, _, _] (k' := 0) (n' := 0) dL_isStar_244 (nx := 247) rfl lk_L_58 (hX.1 0 _ rfl) (by decide) rfl rfl (Nat.le_of_ble_eq_true rfl) (Nat.le_of_ble_eq_true rfl) (Nat.le_of_ble_eq_true rfl) (Nat.le_of_ble_eq_true rfl) (Nat.le_of_ble_eq_true rfl) (Nat.le_of_ble_eq_true rfl) (Nat.le_of_ble_eq_true rfl) (s_X3_tonek hst hC hk9 (by omega) (by omega) (by omega) (zt_p (by omega) (by omega)) ?_)
                          refine g_iloadG hx dL_isStar_247 (nx := 249) rfl rfl ?_
                          refine g_bipush hx dL_isStar_249 (nx := 251) rfl (v := nI 10) (by decide) ?_
                          refine g_aloadG_n hx dL_isStar_251 rfl (nx := 252) rfl rfl ?_
                          refine g_iloadG_n hx dL_isStar_252 rfl (nx := 253) rfl rfl ?_
                          refine g_iconst hx dL_isStar_253 (nx := 254) rfl (v := nI 4) (by decide) ?_
                          refine g_callV_M hx [_, _] (k' := 0) (n' := 0) dL_isStar_254 (nx := 257) rfl lk_L_39 (hX.1 0 _ rfl) (by decide) rfl rfl (Nat.le_of_ble_eq_true rfl) (Nat.le_of_ble_eq_true rfl) (Nat.le_of_ble_eq_true rfl) (Nat.le_of_ble_eq_true rfl) (Nat.le_of_ble_eq_true rfl) (Nat.le_of_ble_eq_true rfl) (Nat.le_of_ble_eq_true rfl) (s_X3_ofStar4 hst hC hk9 ?_)
                          rw [h8]
                          refine g_imulN hx dL_isStar_257 (nx := 258) rfl  ?_
                          refine g_iloadG hx dL_isStar_258 (nx := 260) rfl rfl ?_
                          refine g_imul hx dL_isStar_260 (nx := 261) rfl ?_
                          refine g_iadd hx dL_isStar_261 (nx := 262) rfl ?_
                          refine g_icmp_ne hx dL_isStar_262 (tg := 269) (by decide) (nx := 265) rfl (fun c262 => ?_) (fun c262 => ?_)
                          · exact absurd (by rw [rgS, h6, h7, h8, h9, zt_D hT, zt_lp c107 hS9 hC9 c91 c115]) c262
                          · refine g_iconst hx dL_isStar_265 (nx := 266) rfl (v := nI 1) (by decide) ?_
                            refine g_goto hx dL_isStar_266 (tg := 270) (by decide) ?_
                            refine g_iret hx dL_isStar_270 rfl (by first | rfl | decide) (Nat.le_of_ble_eq_true rfl) (Nat.le_of_ble_eq_true rfl) ?_
                            exact hk
      · refine g_iloadG hx dL_isStar_118 (nx := 120) rfl rfl ?_
        refine g_goto hx dL_isStar_120 (tg := 153) (by decide) ?_
        refine g_istore_11 hx dL_isStar_153 (nx := 155) rfl (by decide) rfl ?_
        refine g_iloadG_n hx dL_isStar_155 rfl (nx := 156) rfl rfl ?_
        refine g_if_leN hx dL_isStar_156 (tg := 269) (by decide) (nx := 159) rfl (by omega) (fun c156 => ?_) (fun c156 => ?_)
        · exact absurd c156 (by omega)
        · refine g_iloadG_n hx dL_isStar_159 rfl (nx := 160) rfl rfl ?_
          refine g_aloadG_n hx dL_isStar_160 rfl (nx := 161) rfl rfl ?_
          refine g_iloadG_n hx dL_isStar_161 rfl (nx := 162) rfl rfl ?_
          refine g_callV_M hx [_] (k' := 0) (n' := 0) dL_isStar_162 (nx := 165) rfl lk_L_54 (hX.1 0 _ rfl) (by decide) rfl rfl (Nat.le_of_ble_eq_true rfl) (Nat.le_of_ble_eq_true rfl) (Nat.le_of_ble_eq_true rfl) (Nat.le_of_ble_eq_true rfl) (Nat.le_of_ble_eq_true rfl) (Nat.le_of_ble_eq_true rfl) (Nat.le_of_ble_eq_true rfl) (s_X3_crossingAnewk (ff := ff) (gg := gg) hst hC hk9 h3 hs8 hsh ?_)
          rw [hcr]
          refine g_icmp_neN hx dL_isStar_165 (tg := 269) (by decide) (nx := 168) rfl (by omega) (by omega) (fun c165 => ?_) (fun c165 => ?_)
          · exact absurd c165 (by omega)
          · refine g_iloadG hx dL_isStar_168 (nx := 170) rfl rfl ?_
            refine g_ldc hx dL_isStar_170 (nx := 172) rfl (v := nI 10000000) kc_L_57 ?_
            refine g_iloadG_n hx dL_isStar_172 rfl (nx := 173) rfl rfl ?_
            refine g_idivN hx dL_isStar_173 (nx := 174) rfl (by omega) (by omega) (by omega) ?_
            rw [← hla]
            refine g_icmp_neN hx dL_isStar_174 (tg := 269) (by decide) (nx := 177) rfl (by omega) (by omega) (fun c174 => ?_) (fun c174 => ?_)
            · exact absurd c174 (by omega)
            · refine g_aloadG_n hx dL_isStar_177 rfl (nx := 178) rfl rfl ?_
              refine g_iloadG_n hx dL_isStar_178 rfl (nx := 179) rfl rfl ?_
              refine g_iconst hx dL_isStar_179 (nx := 180) rfl (v := nI 3) (by decide) ?_
              refine g_callV_M hx [_, _] (k' := 0) (n' := 0) dL_isStar_180 (nx := 183) rfl lk_L_39 (hX.1 0 _ rfl) (by decide) rfl rfl (Nat.le_of_ble_eq_true rfl) (Nat.le_of_ble_eq_true rfl) (Nat.le_of_ble_eq_true rfl) (Nat.le_of_ble_eq_true rfl) (Nat.le_of_ble_eq_true rfl) (Nat.le_of_ble_eq_true rfl) (Nat.le_of_ble_eq_true rfl) (s_X3_ofStar3 hst hC hk9 ?_)
              rw [h7]
              refine g_if_ltN hx dL_isStar_183 (tg := 269) (by decide) (nx := 186) rfl (by omega) (fun c183 => ?_) (fun c183 => ?_)
              · exact absurd c183 (by omega)
              · refine g_aloadG_n hx dL_isStar_186 rfl (nx := 187) rfl rfl ?_
                refine g_iloadG_n hx dL_isStar_187 rfl (nx := 188) rfl rfl ?_
                refine g_iconst hx dL_isStar_188 (nx := 189) rfl (v := nI 4) (by decide) ?_
                refine g_callV_M hx [_, _] (k' := 0) (n' := 0) dL_isStar_189 (nx := 192) rfl lk_L_39 (hX.1 0 _ rfl) (by decide) rfl rfl (Nat.le_of_ble_eq_true rfl) (Nat.le_of_ble_eq_true rfl) (Nat.le_of_ble_eq_true rfl) (Nat.le_of_ble_eq_true rfl) (Nat.le_of_ble_eq_true rfl) (Nat.le_of_ble_eq_true rfl) (Nat.le_of_ble_eq_true rfl) (s_X3_ofStar4 hst hC hk9 ?_)
                rw [h8]
                refine g_if_ltN hx dL_isStar_192 (tg := 269) (by decide) (nx := 195) rfl (by omega) (fun c192 => ?_) (fun c192 => ?_)
                · exact absurd c192 (by omega)
                · refine g_aloadG_n hx dL_isStar_195 rfl (nx := 196) rfl rfl ?_
                  refine g_iloadG_n hx dL_isStar_196 rfl (nx := 197) rfl rfl ?_
                  refine g_iconst hx dL_isStar_197 (nx := 198) rfl (v := nI 4) (by decide) ?_
                  refine g_callV_M hx [_, _] (k' := 0) (n' := 0) dL_isStar_198 (nx := 201) rfl lk_L_39 (hX.1 0 _ rfl) (by decide) rfl rfl (Nat.le_of_ble_eq_true rfl) (Nat.le_of_ble_eq_true rfl) (Nat.le_of_ble_eq_true rfl) (Nat.le_of_ble_eq_true rfl) (Nat.le_of_ble_eq_true rfl) (Nat.le_of_ble_eq_true rfl) (Nat.le_of_ble_eq_true rfl) (s_X3_ofStar4 hst hC hk9 ?_)
                  rw [h8]
                  refine g_bipush hx dL_isStar_201 (nx := 203) rfl (v := nI 10) (by decide) ?_
                  refine g_icmp_geN hx dL_isStar_203 (tg := 269) (by decide) (nx := 206) rfl (by omega) (by omega) (fun c203 => ?_) (fun c203 => ?_)
                  · exact absurd c203 (by omega)
                  · refine g_aloadG_n hx dL_isStar_206 rfl (nx := 207) rfl rfl ?_
                    refine g_iloadG_n hx dL_isStar_207 rfl (nx := 208) rfl rfl ?_
                    refine g_iconst hx dL_isStar_208 (nx := 209) rfl (v := nI 5) (by decide) ?_
                    refine g_callV_M hx [_, _] (k' := 0) (n' := 0) dL_isStar_209 (nx := 212) rfl lk_L_39 (hX.1 0 _ rfl) (by decide) rfl rfl (Nat.le_of_ble_eq_true rfl) (Nat.le_of_ble_eq_true rfl) (Nat.le_of_ble_eq_true rfl) (Nat.le_of_ble_eq_true rfl) (Nat.le_of_ble_eq_true rfl) (Nat.le_of_ble_eq_true rfl) (Nat.le_of_ble_eq_true rfl) (s_X3_ofStar5 hst hC hk9 ?_)
                    rw [h9]
                    refine g_iconst hx dL_isStar_212 (nx := 213) rfl (v := nI 3) (by decide) ?_
                    refine g_iloadG hx dL_isStar_213 (nx := 215) rfl rfl ?_
                    refine g_imulN hx dL_isStar_215 (nx := 216) rfl  ?_
                    refine g_icmp_leN hx dL_isStar_216 (tg := 269) (by decide) (nx := 219) rfl (by omega) (by omega) (fun c216 => ?_) (fun c216 => ?_)
                    · exact absurd c216 (by omega)
                    · refine g_aloadG_n hx dL_isStar_219 rfl (nx := 220) rfl rfl ?_
                      refine g_iloadG_n hx dL_isStar_220 rfl (nx := 221) rfl rfl ?_
                      refine g_iconst hx dL_isStar_221 (nx := 222) rfl (v := nI 5) (by decide) ?_
                      refine g_callV_M hx [_, _] (k' := 0) (n' := 0) dL_isStar_222 (nx := 225) rfl lk_L_39 (hX.1 0 _ rfl) (by decide) rfl rfl (Nat.le_of_ble_eq_true rfl) (Nat.le_of_ble_eq_true rfl) (Nat.le_of_ble_eq_true rfl) (Nat.le_of_ble_eq_true rfl) (Nat.le_of_ble_eq_true rfl) (Nat.le_of_ble_eq_true rfl) (Nat.le_of_ble_eq_true rfl) (s_X3_ofStar5 hst hC hk9 ?_)
                      rw [h9]
                      refine g_iconst hx dL_isStar_225 (nx := 226) rfl (v := nI 3) (by decide) ?_
                      refine g_iloadG hx dL_isStar_226 (nx := 228) rfl rfl ?_
                      refine g_imulN hx dL_isStar_228 (nx := 229) rfl  ?_
                      refine g_sipush hx dL_isStar_229 (nx := 232) rfl (v := nI 9900) (by decide) ?_
                      refine g_iaddN hx dL_isStar_232 (nx := 233) rfl  ?_
                      refine g_icmp_gtN hx dL_isStar_233 (tg := 269) (by decide) (nx := 236) rfl (by omega) (by omega) (fun c233 => ?_) (fun c233 => ?_)
                      · exact absurd c233 (by omega)
                      · refine g_aloadG_n hx dL_isStar_236 rfl (nx := 237) rfl rfl ?_
                        refine g_iloadG_n hx dL_isStar_237 rfl (nx := 238) rfl rfl ?_
                        refine g_iloadG hx dL_isStar_238 (nx := 240) rfl rfl ?_
                        refine g_iloadG hx dL_isStar_240 (nx := 242) rfl rfl ?_
                        refine g_iloadG hx dL_isStar_242 (nx := 244) rfl rfl ?_
                        refine g_callV_M hx [_, _, _, _] (k' := 0) (n' := 0) dL_isStar_244 (nx := 247) rfl lk_L_58 (hX.1 0 _ rfl) (by decide) rfl rfl (Nat.le_of_ble_eq_true rfl) (Nat.le_of_ble_eq_true rfl) (Nat.le_of_ble_eq_true rfl) (Nat.le_of_ble_eq_true rfl) (Nat.le_of_ble_eq_true rfl) (Nat.le_of_ble_eq_true rfl) (Nat.le_of_ble_eq_true rfl) (s_X3_tonek hst hC hk9 (by omega) (by omega) (by omega) (zt_p (by omega) (by omega)) ?_)
                        refine g_iloadG hx dL_isStar_247 (nx := 249) rfl rfl ?_
                        refine g_bipush hx dL_isStar_249 (nx := 251) rfl (v := nI 10) (by decide) ?_
                        refine g_aloadG_n hx dL_isStar_251 rfl (nx := 252) rfl rfl ?_
                        refine g_iloadG_n hx dL_isStar_252 rfl (nx := 253) rfl rfl ?_
                        refine g_iconst hx dL_isStar_253 (nx := 254) rfl (v := nI 4) (by decide) ?_
                        refine g_callV_M hx [_, _] (k' := 0) (n' := 0) dL_isStar_254 (nx := 257) rfl lk_L_39 (hX.1 0 _ rfl) (by decide) rfl rfl (Nat.le_of_ble_eq_true rfl) (Nat.le_of_ble_eq_true rfl) (Nat.le_of_ble_eq_true rfl) (Nat.le_of_ble_eq_true rfl) (Nat.le_of_ble_eq_true rfl) (Nat.le_of_ble_eq_true rfl) (Nat.le_of_ble_eq_true rfl) (s_X3_ofStar4 hst hC hk9 ?_)
                        rw [h8]
                        refine g_imulN hx dL_isStar_257 (nx := 258) rfl  ?_
                        refine g_iloadG hx dL_isStar_258 (nx := 260) rfl rfl ?_
                        refine g_imul hx dL_isStar_260 (nx := 261) rfl ?_
                        refine g_iadd hx dL_isStar_261 (nx := 262) rfl ?_
                        refine g_icmp_ne hx dL_isStar_262 (tg := 269) (by decide) (nx := 265) rfl (fun c262 => ?_) (fun c262 => ?_)
                        · exact absurd (by rw [rgS, h6, h7, h8, h9, zt_D hT, zt_lo c107 c91 c115]) c262
                        · refine g_iconst hx dL_isStar_265 (nx := 266) rfl (v := nI 1) (by decide) ?_
                          refine g_goto hx dL_isStar_266 (tg := 270) (by decide) ?_
                          refine g_iret hx dL_isStar_270 rfl (by first | rfl | decide) (Nat.le_of_ble_eq_true rfl) (Nat.le_of_ble_eq_true rfl) ?_
                          exact hk

