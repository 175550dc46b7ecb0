/-! the law: frames -/
/-- the law's list of frames is the light of the star 0 -/
def lF (I : aI) : Prop := (∀ j, j < 20 → I 12 (j + 20) = I 204 (12 * j) ∧ I 12 (j + 40) = I 205 (12 * j)) ∧ (∀ t, t < 256 → (∀ j, j < 20 → t ≠ 12 * j) → I 204 t = -1) ∧ (∀ t, t < 256 → I 204 t = -1 ∨ ∃ v, v < 10000 ∧ I 204 t = nI v) ∧ ∀ t, t < 256 → ∃ s, s < 4 ∧ I 205 t = nI s
theorem lF_c {I J : aI} (h : lF I) (e : ∀ a k, a = 12 ∨ a = 204 ∨ a = 205 → J a k = I a k) : lF J := by
  obtain ⟨h1, h2, h3, h4⟩ := h
  refine ⟨fun j hj => ?_, fun t ht hn => ?_, fun t ht => ?_, fun t ht => ?_⟩
  · rw [e _ _ (by omega), e _ _ (by omega), e _ _ (by omega), e _ _ (by omega)]; exact h1 j hj
  · rw [e _ _ (by omega)]; exact h2 t ht hn
  · rw [e _ _ (by omega)]; exact h3 t ht
  · rw [e _ _ (by omega)]; exact h4 t ht
theorem lF_d0 {I : aI} {j : Nat} (h : lF I) (hj : j < 20) (h0 : I 204 (12 * j) = -1) : lF (au2 I 12 (j + 20) (-1)) := by
  obtain ⟨h1, h2, h3, h4⟩ := h
  refine ⟨fun i hi => ?_, fun t ht hn => ?_, fun t ht => ?_, fun t ht => ?_⟩
  · by_cases e : i = j
    · subst e
      rw [au2_s, au2_n (by omega), au2_n (by omega), au2_n (by omega)]; exact ⟨h0.symm, (h1 i hi).2⟩
    · rw [au2_n (by omega), au2_n (by omega), au2_n (by omega), au2_n (by omega)]; exact h1 i hi
  · rw [au2_n (by omega)]; exact h2 t ht hn
  · rw [au2_n (by omega)]; exact h3 t ht
  · rw [au2_n (by omega)]; exact h4 t ht
theorem lF_d {I : aI} {j : Nat} (h : lF I) (hj : j < 20) : lF (au2 (au2 I 12 (j + 20) (-1)) 204 (12 * j) (-1)) := by
  obtain ⟨h1, h2, h3, h4⟩ := h
  refine ⟨fun i hi => ?_, fun t ht hn => ?_, fun t ht => ?_, fun t ht => ?_⟩
  · by_cases e : i = j
    · subst e
      rw [au2_n (by omega), au2_s, au2_s, au2_n (by omega), au2_n (by omega), au2_n (by omega), au2_n (by omega)]; exact ⟨rfl, (h1 i hi).2⟩
    · rw [au2_n (by omega), au2_n (by omega), au2_n (by omega), au2_n (by omega), au2_n (by omega), au2_n (by omega), au2_n (by omega), au2_n (by omega)]; exact h1 i hi
  · rw [au2_n (fun z => hn j hj z.2), au2_n (by omega)]; exact h2 t ht hn
  · by_cases e : t = 12 * j
    · subst e; rw [au2_s]; exact Or.inl rfl
    · rw [au2_n (by omega), au2_n (by omega)]; exact h3 t ht
  · rw [au2_n (by omega), au2_n (by omega)]; exact h4 t ht
theorem lF_f {I : aI} {j v s : Nat} (h : lF I) (hj : j < 20) (hv : v < 10000) (hs : s < 4) : lF (au2 (au2 (au2 (au2 I 12 (j + 20) (nI v)) 12 (j + 40) (nI s)) 204 (12 * j) (nI v)) 205 (12 * j) (nI s)) := by
  obtain ⟨h1, h2, h3, h4⟩ := h
  refine ⟨fun i hi => ?_, fun t ht hn => ?_, fun t ht => ?_, fun t ht => ?_⟩
  · by_cases e : i = j
    · subst e
      refine ⟨?_, ?_⟩
      · rw [au2_n (by omega), au2_n (by omega), au2_n (by omega), au2_s, au2_n (by omega), au2_s]
      · rw [au2_n (by omega), au2_n (by omega), au2_s, au2_s]
    · refine ⟨?_, ?_⟩
      · rw [au2_n (by omega), au2_n (by omega), au2_n (by omega), au2_n (by omega), au2_n (by omega), au2_n (by omega), au2_n (by omega), au2_n (by omega)]; exact (h1 i hi).1
      · rw [au2_n (by omega), au2_n (by omega), au2_n (by omega), au2_n (by omega), au2_n (by omega), au2_n (by omega), au2_n (by omega), au2_n (by omega)]; exact (h1 i hi).2
  · have := hn j hj
    rw [au2_n (by omega), au2_n (by omega), au2_n (by omega), au2_n (by omega)]; exact h2 t ht hn
  · by_cases e : t = 12 * j
    · subst e; rw [au2_n (by omega), au2_s]; exact Or.inr ⟨v, hv, rfl⟩
    · rw [au2_n (by omega), au2_n (by omega), au2_n (by omega), au2_n (by omega)]; exact h3 t ht
  · by_cases e : t = 12 * j
    · subst e; rw [au2_s]; exact ⟨s, hs, rfl⟩
    · rw [au2_n (by omega), au2_n (by omega), au2_n (by omega), au2_n (by omega)]; exact h4 t ht
abbrev rmL_frames : Room := { frames := 9, cells := 14, slots := 90, locals := 192 }
set_option maxHeartbeats 4000000 in
set_option maxRecDepth 100000 in
theorem s_L_frames {l : Launch} {E : aE} {S : aS} {I : aI} {L : aL} {Rf : aR} {Kr : aK} {Kx : aX} (hst : l.stackTraces = false) {n nc x y w : Nat} (hC : lyC S Rf I n nc) (hn0 : 0 < n) (h12 : S 12 = some (.inl (.int, 64))) (hw1 : S w = some (.inl (.int, 1))) (hw3 : 3 ≤ w) (hw2 : I w 0 = nI 1) (hF : lF I) (hx9 : x < 2 ^ 30) (hy9 : y < 2 ^ 30) (hk : ∀ I', (∀ a k, a ≠ 12 → a ≠ 204 → a ≠ 205 → I' a k = I a k) → lF I' → Kr (some (.int (nI 1))) S I' L Rf) : aMet l E yL_frames cL_frames 9 (some .boolean) rmL_frames [.ref 3, .int (nI x), .int (nI y), .ref w, .ref 12] S I L Rf Kr Kx := by
  refine aMet.of (lv0 := [.ref 3, .int (nI x), .int (nI y), .ref w, .ref 12, aU, aU, aU, aU]) (z := 4) (by decide +kernel) hst rfl (Nat.le_of_ble_eq_true rfl) ?_
  intro p e s m args below meth c io0 hx hin hno
  have hx : aCx p l s m args meth c RL cL_frames 9 (some .boolean) E := hx
  have hX := hC.1
  obtain ⟨jj, hjj⟩ : ∃ j, j = x / 8 % 20 := ⟨_, rfl⟩
  have hj9 : jj < 20 := by omega
  have e20 := (hF.1 jj hj9).1
  rcases hF.2.2.1 (12 * jj) (by omega) with hv | ⟨v, hv9, hv⟩
  · refine g_iloadG_n hx dL_frames_0 rfl (nx := 1) rfl rfl ?_
    refine g_aloadG_n hx dL_frames_1 rfl (nx := 2) rfl rfl ?_
    refine g_iconst hx dL_frames_2 (nx := 3) rfl (v := nI 0) (by decide) ?_
    refine g_ialoadN hx dL_frames_3 (nx := 4) rfl hw1 (by omega) (by omega) (by decide) (v := nI 1) (hw2) ?_
    refine g_iremN hx dL_frames_4 (nx := 5) rfl (by omega) (by omega) (by omega) ?_
    rw [Nat.mod_one]
    refine g_istore_5 hx dL_frames_5 (nx := 7) rfl (by decide) rfl ?_
    refine g_iloadG_n hx dL_frames_7 rfl (nx := 8) rfl rfl ?_
    refine g_bipush hx dL_frames_8 (nx := 10) rfl (v := nI 8) (by decide) ?_
    refine g_idivN hx dL_frames_10 (nx := 11) rfl (by omega) (by omega) (by omega) ?_
    refine g_bipush hx dL_frames_11 (nx := 13) rfl (v := nI 20) (by decide) ?_
    refine g_iremN hx dL_frames_13 (nx := 14) rfl (by omega) (by omega) (by omega) ?_
    rw [← hjj]
    refine g_istore_6 hx dL_frames_14 (nx := 16) rfl (by decide) rfl ?_
    refine g_bipush hx dL_frames_16 (nx := 18) rfl (v := nI 60) (by decide) ?_
    refine g_iloadG hx dL_frames_18 (nx := 20) rfl rfl ?_
    refine g_imulN hx dL_frames_20 (nx := 21) rfl  ?_
    refine g_iloadG hx dL_frames_21 (nx := 23) rfl rfl ?_
    refine g_iaddN hx dL_frames_23 (nx := 24) rfl  ?_
    rw [show 60 * 0 + jj = jj from by omega]
    refine g_istore_7 hx dL_frames_24 (nx := 26) rfl (by decide) rfl ?_
    refine g_aloadG hx dL_frames_26 (nx := 28) rfl rfl ?_
    refine g_iloadG hx dL_frames_28 (nx := 30) rfl rfl ?_
    refine g_bipush hx dL_frames_30 (nx := 32) rfl (v := nI 20) (by decide) ?_
    refine g_iaddN hx dL_frames_32 (nx := 33) rfl  ?_
    refine g_ialoadN hx dL_frames_33 (nx := 34) rfl h12 (by decide) (by omega) (by decide) (v := (-1)) (e20.trans hv) ?_
    refine g_istore_8 hx dL_frames_34 (nx := 36) rfl (by decide) rfl ?_
    refine g_iloadG_n hx dL_frames_36 rfl (nx := 37) rfl rfl ?_
    refine g_sipush hx dL_frames_37 (nx := 40) rfl (v := nI 160) (by decide) ?_
    refine g_idivN hx dL_frames_40 (nx := 41) rfl (by omega) (by omega) (by omega) ?_
    refine g_iconst hx dL_frames_41 (nx := 42) rfl (v := nI 5) (by decide) ?_
    refine g_iremN hx dL_frames_42 (nx := 43) rfl (by omega) (by omega) (by omega) ?_
    refine g_if_neN hx dL_frames_43 (tg := 118) (by decide) (nx := 46) rfl (by omega) (fun c43 => ?_) (fun c43 => ?_)
    · refine g_aloadG hx dL_frames_118 (nx := 120) rfl rfl ?_
      refine g_iloadG hx dL_frames_120 (nx := 122) rfl rfl ?_
      refine g_bipush hx dL_frames_122 (nx := 124) rfl (v := nI 20) (by decide) ?_
      refine g_iaddN hx dL_frames_124 (nx := 125) rfl  ?_
      refine g_iloadG_n hx dL_frames_125 rfl (nx := 126) rfl rfl ?_
      refine g_sipush hx dL_frames_126 (nx := 129) rfl (v := nI 10000) (by decide) ?_
      refine g_iremN hx dL_frames_129 (nx := 130) rfl (by omega) (by omega) (by omega) ?_
      refine g_iastoreN hx dL_frames_130 (nx := 131) rfl h12 (by decide) (by omega) (by decide) ?_
      refine g_aloadG hx dL_frames_131 (nx := 133) rfl rfl ?_
      refine g_iloadG hx dL_frames_133 (nx := 135) rfl rfl ?_
      refine g_bipush hx dL_frames_135 (nx := 137) rfl (v := nI 40) (by decide) ?_
      refine g_iaddN hx dL_frames_137 (nx := 138) rfl  ?_
      refine g_iloadG_n hx dL_frames_138 rfl (nx := 139) rfl rfl ?_
      refine g_sipush hx dL_frames_139 (nx := 142) rfl (v := nI 10000) (by decide) ?_
      refine g_idivN hx dL_frames_142 (nx := 143) rfl (by omega) (by omega) (by omega) ?_
      refine g_iconst hx dL_frames_143 (nx := 144) rfl (v := nI 4) (by decide) ?_
      refine g_iremN hx dL_frames_144 (nx := 145) rfl (by omega) (by omega) (by omega) ?_
      refine g_iastoreN hx dL_frames_145 (nx := 146) rfl h12 (by decide) (by omega) (by decide) ?_
      refine g_aloadG_n hx dL_frames_146 rfl (nx := 147) rfl rfl ?_
      refine g_iloadG hx dL_frames_147 (nx := 149) rfl rfl ?_
      refine g_iloadG_n hx dL_frames_149 rfl (nx := 150) rfl rfl ?_
      refine g_sipush hx dL_frames_150 (nx := 153) rfl (v := nI 10000) (by decide) ?_
      refine g_idivN hx dL_frames_153 (nx := 154) rfl (by omega) (by omega) (by omega) ?_
      refine g_iconst hx dL_frames_154 (nx := 155) rfl (v := nI 4) (by decide) ?_
      refine g_iremN hx dL_frames_155 (nx := 156) rfl (by omega) (by omega) (by omega) ?_
      refine g_bipush hx dL_frames_156 (nx := 158) rfl (v := nI 12) (by decide) ?_
      refine g_iloadG hx dL_frames_158 (nx := 160) rfl rfl ?_
      refine g_imulN hx dL_frames_160 (nx := 161) rfl  ?_
      refine g_iloadG hx dL_frames_161 (nx := 163) rfl rfl ?_
      rw [Nat.add_zero]
      refine g_iaddN hx dL_frames_163 (nx := 164) rfl  ?_
      refine g_iloadG_n hx dL_frames_164 rfl (nx := 165) rfl rfl ?_
      refine g_sipush hx dL_frames_165 (nx := 168) rfl (v := nI 10000) (by decide) ?_
      refine g_iremN hx dL_frames_168 (nx := 169) rfl (by omega) (by omega) (by omega) ?_
      refine g_callV_M hx [_, _, _, _] (k' := 0) (n' := 0) dL_frames_169 (nx := 172) rfl lk_L_101 (hX.1 0 _ rfl) (by decide) rfl rfl (Nat.le_of_ble_eq_true rfl) (Nat.le_of_ble_eq_true rfl) (Nat.le_of_ble_eq_true rfl) (Nat.le_of_ble_eq_true rfl) (Nat.le_of_ble_eq_true rfl) (Nat.le_of_ble_eq_true rfl) (Nat.le_of_ble_eq_true rfl) (s_X3_framek (n := n) (nc := nc) hst (hC.I (by rw [au2_n (by omega), au2_n (by omega)]) (by rw [au2_n (by omega), au2_n (by omega)])) hn0 (by omega) (by omega) (by omega) ?_)
      refine g_iloadG hx dL_frames_172 (nx := 174) rfl rfl ?_
      refine g_icmp_ne hx dL_frames_174 (tg := 181) (by decide) (nx := 177) rfl (fun c174 => ?_) (fun c174 => ?_)
      · refine absurd ?_ c174
        show au2 (au2 I 12 (jj + 20) _) 12 (jj + 40) _ 204 (12 * jj) = _
        rw [au2_n (by omega), au2_n (by omega)]; exact hv
      · refine g_iconst hx dL_frames_177 (nx := 178) rfl (v := nI 1) (by decide) ?_
        refine g_goto hx dL_frames_178 (tg := 182) (by decide) ?_
        refine g_iret hx dL_frames_182 rfl (by first | rfl | decide) (Nat.le_of_ble_eq_true rfl) (Nat.le_of_ble_eq_true rfl) ?_
        refine hk _ (fun a k h1 h2 h3 => ?_) (lF_f hF hj9 (by omega) (by omega))
        rw [au2_n (by omega), au2_n (by omega), au2_n (by omega), au2_n (by omega)]
    · refine g_aloadG hx dL_frames_46 (nx := 48) rfl rfl ?_
      refine g_iloadG hx dL_frames_48 (nx := 50) rfl rfl ?_
      refine g_bipush hx dL_frames_50 (nx := 52) rfl (v := nI 20) (by decide) ?_
      refine g_iaddN hx dL_frames_52 (nx := 53) rfl  ?_
      refine g_iconst hx dL_frames_53 (nx := 54) rfl (v := (-1)) (by decide) ?_
      refine g_iastoreN hx dL_frames_54 (nx := 55) rfl h12 (by decide) (by omega) (by decide) ?_
      refine g_aloadG_n hx dL_frames_55 rfl (nx := 56) rfl rfl ?_
      refine g_iconst hx dL_frames_56 (nx := 57) rfl (v := nI 0) (by decide) ?_
      refine g_iloadG hx dL_frames_57 (nx := 59) rfl rfl ?_
      refine g_bipush hx dL_frames_59 (nx := 61) rfl (v := nI 12) (by decide) ?_
      refine g_iloadG hx dL_frames_61 (nx := 63) rfl rfl ?_
      refine g_imulN hx dL_frames_63 (nx := 64) rfl  ?_
      refine g_iloadG hx dL_frames_64 (nx := 66) rfl rfl ?_
      rw [Nat.add_zero]
      refine g_iaddN hx dL_frames_66 (nx := 67) rfl  ?_
      refine g_iconst hx dL_frames_67 (nx := 68) rfl (v := nI 0) (by decide) ?_
      refine g_callW hx [_, _, _, _, _] (k' := 7) (n' := 45) dL_frames_68 (nx := 71) rfl lk_L_95 rfl (Nat.le_of_ble_eq_true rfl) (Nat.le_of_ble_eq_true rfl) (Nat.le_of_ble_eq_true rfl) (Nat.le_of_ble_eq_true rfl) (Nat.le_of_ble_eq_true rfl) (Nat.le_of_ble_eq_true rfl) (Nat.le_of_ble_eq_true rfl) (s_asks_drop (n := n) (nc := nc) hst (hC.I (J := (au2 I 12 (jj + 20) (-1))) (au2_n (by omega)) (au2_n (by omega))) hn0 (by omega) (fun e9 => ?_) (fun e9 => ?_))
      · refine g_iloadG hx dL_frames_71 (nx := 73) rfl rfl ?_
        refine g_if_ge hx dL_frames_73 (tg := 82) (by decide) (nx := 76) rfl (fun c73 => ?_) (fun c73 => ?_)
        · exact absurd c73 (by decide)
        · refine g_ldc2 hx dL_frames_76 (nx := 79) rfl kl_L_52 ?_
          refine g_goto hx dL_frames_79 (tg := 85) (by decide) ?_
          refine g_lc_ne hx dL_frames_85 (p2 := 86) rfl dL_frames_86 (tg := 116) (by decide) (nx := 89) rfl (fun c85 => ?_) (fun c85 => ?_)
          · exact absurd rfl c85
          · refine g_aloadG_n hx dL_frames_89 rfl (nx := 90) rfl rfl ?_
            refine g_iconst hx dL_frames_90 (nx := 91) rfl (v := nI 0) (by decide) ?_
            refine g_iloadG hx dL_frames_91 (nx := 93) rfl rfl ?_
            refine g_bipush hx dL_frames_93 (nx := 95) rfl (v := nI 12) (by decide) ?_
            refine g_iloadG hx dL_frames_95 (nx := 97) rfl rfl ?_
            refine g_imulN hx dL_frames_97 (nx := 98) rfl  ?_
            refine g_iloadG hx dL_frames_98 (nx := 100) rfl rfl ?_
            rw [Nat.add_zero]
            refine g_iaddN hx dL_frames_100 (nx := 101) rfl  ?_
            refine g_iconst hx dL_frames_101 (nx := 102) rfl (v := nI 0) (by decide) ?_
            refine g_callW hx [_, _, _, _, _] (k' := 14) (n' := 90) dL_frames_102 (nx := 105) rfl lk_L_95 rfl (Nat.le_of_ble_eq_true rfl) (Nat.le_of_ble_eq_true rfl) (Nat.le_of_ble_eq_true rfl) (Nat.le_of_ble_eq_true rfl) (Nat.le_of_ble_eq_true rfl) (Nat.le_of_ble_eq_true rfl) (Nat.le_of_ble_eq_true rfl) (s_asks_drop (n := n) (nc := nc) hst (hC.I (J := (au2 I 12 (jj + 20) (-1))) (au2_n (by omega)) (au2_n (by omega))) hn0 (by omega) (fun e9 => ?_) (fun e9 => ?_))
            · refine g_ldc2 hx dL_frames_105 (nx := 108) rfl kl_L_52 ?_
              refine g_lc_ne hx dL_frames_108 (p2 := 109) rfl dL_frames_109 (tg := 116) (by decide) (nx := 112) rfl (fun c108 => ?_) (fun c108 => ?_)
              · exact absurd rfl c108
              · refine g_iconst hx dL_frames_112 (nx := 113) rfl (v := nI 1) (by decide) ?_
                refine g_goto hx dL_frames_113 (tg := 117) (by decide) ?_
                refine g_iret hx dL_frames_117 rfl (by first | rfl | decide) (Nat.le_of_ble_eq_true rfl) (Nat.le_of_ble_eq_true rfl) ?_
                refine hk _ (fun a k h1 h2 h3 => ?_) (lF_d0 hF hj9 hv)
                rw [au2_n (by omega)]
            · exact absurd (by rw [au2_n (by omega)]; exact hv) e9
      · exact absurd (by rw [au2_n (by omega)]; exact hv) e9
  · refine g_iloadG_n hx dL_frames_0 rfl (nx := 1) rfl rfl ?_
    refine g_aloadG_n hx dL_frames_1 rfl (nx := 2) rfl rfl ?_
    refine g_iconst hx dL_frames_2 (nx := 3) rfl (v := nI 0) (by decide) ?_
    refine g_ialoadN hx dL_frames_3 (nx := 4) rfl hw1 (by omega) (by omega) (by decide) (v := nI 1) (hw2) ?_
    refine g_iremN hx dL_frames_4 (nx := 5) rfl (by omega) (by omega) (by omega) ?_
    rw [Nat.mod_one]
    refine g_istore_5 hx dL_frames_5 (nx := 7) rfl (by decide) rfl ?_
    refine g_iloadG_n hx dL_frames_7 rfl (nx := 8) rfl rfl ?_
    refine g_bipush hx dL_frames_8 (nx := 10) rfl (v := nI 8) (by decide) ?_
    refine g_idivN hx dL_frames_10 (nx := 11) rfl (by omega) (by omega) (by omega) ?_
    refine g_bipush hx dL_frames_11 (nx := 13) rfl (v := nI 20) (by decide) ?_
    refine g_iremN hx dL_frames_13 (nx := 14) rfl (by omega) (by omega) (by omega) ?_
    rw [← hjj]
    refine g_istore_6 hx dL_frames_14 (nx := 16) rfl (by decide) rfl ?_
    refine g_bipush hx dL_frames_16 (nx := 18) rfl (v := nI 60) (by decide) ?_
    refine g_iloadG hx dL_frames_18 (nx := 20) rfl rfl ?_
    refine g_imulN hx dL_frames_20 (nx := 21) rfl  ?_
    refine g_iloadG hx dL_frames_21 (nx := 23) rfl rfl ?_
    refine g_iaddN hx dL_frames_23 (nx := 24) rfl  ?_
    rw [show 60 * 0 + jj = jj from by omega]
    refine g_istore_7 hx dL_frames_24 (nx := 26) rfl (by decide) rfl ?_
    refine g_aloadG hx dL_frames_26 (nx := 28) rfl rfl ?_
    refine g_iloadG hx dL_frames_28 (nx := 30) rfl rfl ?_
    refine g_bipush hx dL_frames_30 (nx := 32) rfl (v := nI 20) (by decide) ?_
    refine g_iaddN hx dL_frames_32 (nx := 33) rfl  ?_
    refine g_ialoadN hx dL_frames_33 (nx := 34) rfl h12 (by decide) (by omega) (by decide) (v := nI v) (e20.trans hv) ?_
    refine g_istore_8 hx dL_frames_34 (nx := 36) rfl (by decide) rfl ?_
    refine g_iloadG_n hx dL_frames_36 rfl (nx := 37) rfl rfl ?_
    refine g_sipush hx dL_frames_37 (nx := 40) rfl (v := nI 160) (by decide) ?_
    refine g_idivN hx dL_frames_40 (nx := 41) rfl (by omega) (by omega) (by omega) ?_
    refine g_iconst hx dL_frames_41 (nx := 42) rfl (v := nI 5) (by decide) ?_
    refine g_iremN hx dL_frames_42 (nx := 43) rfl (by omega) (by omega) (by omega) ?_
    refine g_if_neN hx dL_frames_43 (tg := 118) (by decide) (nx := 46) rfl (by omega) (fun c43 => ?_) (fun c43 => ?_)
    · refine g_aloadG hx dL_frames_118 (nx := 120) rfl rfl ?_
      refine g_iloadG hx dL_frames_120 (nx := 122) rfl rfl ?_
      refine g_bipush hx dL_frames_122 (nx := 124) rfl (v := nI 20) (by decide) ?_
      refine g_iaddN hx dL_frames_124 (nx := 125) rfl  ?_
      refine g_iloadG_n hx dL_frames_125 rfl (nx := 126) rfl rfl ?_
      refine g_sipush hx dL_frames_126 (nx := 129) rfl (v := nI 10000) (by decide) ?_
      refine g_iremN hx dL_frames_129 (nx := 130) rfl (by omega) (by omega) (by omega) ?_
      refine g_iastoreN hx dL_frames_130 (nx := 131) rfl h12 (by decide) (by omega) (by decide) ?_
      refine g_aloadG hx dL_frames_131 (nx := 133) rfl rfl ?_
      refine g_iloadG hx dL_frames_133 (nx := 135) rfl rfl ?_
      refine g_bipush hx dL_frames_135 (nx := 137) rfl (v := nI 40) (by decide) ?_
      refine g_iaddN hx dL_frames_137 (nx := 138) rfl  ?_
      refine g_iloadG_n hx dL_frames_138 rfl (nx := 139) rfl rfl ?_
      refine g_sipush hx dL_frames_139 (nx := 142) rfl (v := nI 10000) (by decide) ?_
      refine g_idivN hx dL_frames_142 (nx := 143) rfl (by omega) (by omega) (by omega) ?_
      refine g_iconst hx dL_frames_143 (nx := 144) rfl (v := nI 4) (by decide) ?_
      refine g_iremN hx dL_frames_144 (nx := 145) rfl (by omega) (by omega) (by omega) ?_
      refine g_iastoreN hx dL_frames_145 (nx := 146) rfl h12 (by decide) (by omega) (by decide) ?_
      refine g_aloadG_n hx dL_frames_146 rfl (nx := 147) rfl rfl ?_
      refine g_iloadG hx dL_frames_147 (nx := 149) rfl rfl ?_
      refine g_iloadG_n hx dL_frames_149 rfl (nx := 150) rfl rfl ?_
      refine g_sipush hx dL_frames_150 (nx := 153) rfl (v := nI 10000) (by decide) ?_
      refine g_idivN hx dL_frames_153 (nx := 154) rfl (by omega) (by omega) (by omega) ?_
      refine g_iconst hx dL_frames_154 (nx := 155) rfl (v := nI 4) (by decide) ?_
      refine g_iremN hx dL_frames_155 (nx := 156) rfl (by omega) (by omega) (by omega) ?_
      refine g_bipush hx dL_frames_156 (nx := 158) rfl (v := nI 12) (by decide) ?_
      refine g_iloadG hx dL_frames_158 (nx := 160) rfl rfl ?_
      refine g_imulN hx dL_frames_160 (nx := 161) rfl  ?_
      refine g_iloadG hx dL_frames_161 (nx := 163) rfl rfl ?_
      rw [Nat.add_zero]
      refine g_iaddN hx dL_frames_163 (nx := 164) rfl  ?_
      refine g_iloadG_n hx dL_frames_164 rfl (nx := 165) rfl rfl ?_
      refine g_sipush hx dL_frames_165 (nx := 168) rfl (v := nI 10000) (by decide) ?_
      refine g_iremN hx dL_frames_168 (nx := 169) rfl (by omega) (by omega) (by omega) ?_
      refine g_callV_M hx [_, _, _, _] (k' := 0) (n' := 0) dL_frames_169 (nx := 172) rfl lk_L_101 (hX.1 0 _ rfl) (by decide) rfl rfl (Nat.le_of_ble_eq_true rfl) (Nat.le_of_ble_eq_true rfl) (Nat.le_of_ble_eq_true rfl) (Nat.le_of_ble_eq_true rfl) (Nat.le_of_ble_eq_true rfl) (Nat.le_of_ble_eq_true rfl) (Nat.le_of_ble_eq_true rfl) (s_X3_framek (n := n) (nc := nc) hst (hC.I (by rw [au2_n (by omega), au2_n (by omega)]) (by rw [au2_n (by omega), au2_n (by omega)])) hn0 (by omega) (by omega) (by omega) ?_)
      refine g_iloadG hx dL_frames_172 (nx := 174) rfl rfl ?_
      refine g_icmp_ne hx dL_frames_174 (tg := 181) (by decide) (nx := 177) rfl (fun c174 => ?_) (fun c174 => ?_)
      · refine absurd ?_ c174
        show au2 (au2 I 12 (jj + 20) _) 12 (jj + 40) _ 204 (12 * jj) = _
        rw [au2_n (by omega), au2_n (by omega)]; exact hv
      · refine g_iconst hx dL_frames_177 (nx := 178) rfl (v := nI 1) (by decide) ?_
        refine g_goto hx dL_frames_178 (tg := 182) (by decide) ?_
        refine g_iret hx dL_frames_182 rfl (by first | rfl | decide) (Nat.le_of_ble_eq_true rfl) (Nat.le_of_ble_eq_true rfl) ?_
        refine hk _ (fun a k h1 h2 h3 => ?_) (lF_f hF hj9 (by omega) (by omega))
        rw [au2_n (by omega), au2_n (by omega), au2_n (by omega), au2_n (by omega)]
    · refine g_aloadG hx dL_frames_46 (nx := 48) rfl rfl ?_
      refine g_iloadG hx dL_frames_48 (nx := 50) rfl rfl ?_
      refine g_bipush hx dL_frames_50 (nx := 52) rfl (v := nI 20) (by decide) ?_
      refine g_iaddN hx dL_frames_52 (nx := 53) rfl  ?_
      refine g_iconst hx dL_frames_53 (nx := 54) rfl (v := (-1)) (by decide) ?_
      refine g_iastoreN hx dL_frames_54 (nx := 55) rfl h12 (by decide) (by omega) (by decide) ?_
      refine g_aloadG_n hx dL_frames_55 rfl (nx := 56) rfl rfl ?_
      refine g_iconst hx dL_frames_56 (nx := 57) rfl (v := nI 0) (by decide) ?_
      refine g_iloadG hx dL_frames_57 (nx := 59) rfl rfl ?_
      refine g_bipush hx dL_frames_59 (nx := 61) rfl (v := nI 12) (by decide) ?_
      refine g_iloadG hx dL_frames_61 (nx := 63) rfl rfl ?_
      refine g_imulN hx dL_frames_63 (nx := 64) rfl  ?_
      refine g_iloadG hx dL_frames_64 (nx := 66) rfl rfl ?_
      rw [Nat.add_zero]
      refine g_iaddN hx dL_frames_66 (nx := 67) rfl  ?_
      refine g_iconst hx dL_frames_67 (nx := 68) rfl (v := nI 0) (by decide) ?_
      refine g_callW hx [_, _, _, _, _] (k' := 7) (n' := 45) dL_frames_68 (nx := 71) rfl lk_L_95 rfl (Nat.le_of_ble_eq_true rfl) (Nat.le_of_ble_eq_true rfl) (Nat.le_of_ble_eq_true rfl) (Nat.le_of_ble_eq_true rfl) (Nat.le_of_ble_eq_true rfl) (Nat.le_of_ble_eq_true rfl) (Nat.le_of_ble_eq_true rfl) (s_asks_drop (n := n) (nc := nc) hst (hC.I (J := (au2 I 12 (jj + 20) (-1))) (au2_n (by omega)) (au2_n (by omega))) hn0 (by omega) (fun e9 => ?_) (fun e9 => ?_))
      · refine absurd ?_ (nI_m1 (n := v) (by omega))
        rw [← hv, ← e9, au2_n (by omega)]
        rfl
      · refine g_iloadG hx dL_frames_71 (nx := 73) rfl rfl ?_
        refine g_if_geN hx dL_frames_73 (tg := 82) (by decide) (nx := 76) rfl (by omega) (fun c73 => ?_) (fun c73 => ?_)
        · refine g_iloadG hx dL_frames_82 (nx := 84) rfl rfl ?_
          refine g_i2lN hx dL_frames_84 (nx := 85) rfl (by omega) ?_
          refine g_lc_ne hx dL_frames_85 (p2 := 86) rfl dL_frames_86 (tg := 116) (by decide) (nx := 89) rfl (fun c85 => ?_) (fun c85 => ?_)
          · refine absurd ?_ c85
            show (au2 I 12 (jj + 20) (-1) 204 (12 * jj)).toInt64 = _
            rw [au2_n (by omega), hv, nI_l (by omega)]
          · refine g_aloadG_n hx dL_frames_89 rfl (nx := 90) rfl rfl ?_
            refine g_iconst hx dL_frames_90 (nx := 91) rfl (v := nI 0) (by decide) ?_
            refine g_iloadG hx dL_frames_91 (nx := 93) rfl rfl ?_
            refine g_bipush hx dL_frames_93 (nx := 95) rfl (v := nI 12) (by decide) ?_
            refine g_iloadG hx dL_frames_95 (nx := 97) rfl rfl ?_
            refine g_imulN hx dL_frames_97 (nx := 98) rfl  ?_
            refine g_iloadG hx dL_frames_98 (nx := 100) rfl rfl ?_
            rw [Nat.add_zero]
            refine g_iaddN hx dL_frames_100 (nx := 101) rfl  ?_
            refine g_iconst hx dL_frames_101 (nx := 102) rfl (v := nI 0) (by decide) ?_
            refine g_callW hx [_, _, _, _, _] (k' := 14) (n' := 90) dL_frames_102 (nx := 105) rfl lk_L_95 rfl (Nat.le_of_ble_eq_true rfl) (Nat.le_of_ble_eq_true rfl) (Nat.le_of_ble_eq_true rfl) (Nat.le_of_ble_eq_true rfl) (Nat.le_of_ble_eq_true rfl) (Nat.le_of_ble_eq_true rfl) (Nat.le_of_ble_eq_true rfl) (s_asks_drop (n := n) (nc := nc) hst (hC.I (J := (au2 (au2 I 12 (jj + 20) (-1)) 204 (12 * jj) (-1))) (by rw [au2_n (by omega), au2_n (by omega)]) (by rw [au2_n (by omega), au2_n (by omega)])) hn0 (by omega) (fun e9 => ?_) (fun e9 => ?_))
            · refine g_ldc2 hx dL_frames_105 (nx := 108) rfl kl_L_52 ?_
              refine g_lc_ne hx dL_frames_108 (p2 := 109) rfl dL_frames_109 (tg := 116) (by decide) (nx := 112) rfl (fun c108 => ?_) (fun c108 => ?_)
              · exact absurd rfl c108
              · refine g_iconst hx dL_frames_112 (nx := 113) rfl (v := nI 1) (by decide) ?_
                refine g_goto hx dL_frames_113 (tg := 117) (by decide) ?_
                refine g_iret hx dL_frames_117 rfl (by first | rfl | decide) (Nat.le_of_ble_eq_true rfl) (Nat.le_of_ble_eq_true rfl) ?_
                refine hk _ (fun a k h1 h2 h3 => ?_) (lF_d hF hj9)
                rw [au2_n (by omega), au2_n (by omega)]
            · exact absurd (au2_s _ _ _ _) e9
        · exact absurd c73 (by omega)

