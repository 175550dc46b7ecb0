/-! the class: seen through; claims -/
def stP (I : aI) (b : Nat) (x : Int32) (o : Nat) (y w : Int32) : Prop := pw (prs I b) (laid I b x o) y < pw (prs I b) (laid I b x o) w ∧ (nI (aT (prs I b)).length).toInt64 * (nI (aT (prs I b)).length).toInt64 ≤ 4 * pw (prs I b) (fun _ => 1) (iabs (y - w))
abbrev rmX3_isSeenThrough : Room := { frames := 7, cells := 5, slots := 30, locals := 117 }
set_option maxHeartbeats 4000000 in
set_option maxRecDepth 100000 in
theorem s_X3_isSeenThrough {l : Launch} {E : aE} {S : aS} {I : aI} {L : aL} {Rf : aR} {Kr : aK} {Kx : aX} (hst : l.stackTraces = false) {n nc : Nat} {oo : Nat → Nat} {x y w v : Int32} (hC : lyC S Rf I n nc) (hsi : ∀ k, k < n → ∀ t, t < 256 → vp_in (I (200 + 8 * k + 5) t) 4) (hoo : ∀ k, k < n → I (200 + 8 * k) 13 = nI (oo k) ∧ oo k ≤ 6) (hx1 : ¬ (inN x n ∧ inN y 3) → Kx eIO S I L Rf) (hx2 : (inN x n ∧ inN y 3) → ¬ (inN w 32 ∧ inN v 32 ∧ w ≠ v) → Kx eIA S I L Rf) (hk : ∀ k j t u : Nat, k < n → j < 3 → t < 32 → u < 32 → x = nI k → y = nI j → w = nI t → v = nI u → t ≠ u → ∀ r : Int32, (r = 1 ∧ stP I (200 + 8 * k) (nI j) (oo k) (nI t) (nI u)) ∨ (r = 0 ∧ ¬ stP I (200 + 8 * k) (nI j) (oo k) (nI t) (nI u)) → ∀ I' L', eqX I' I → eqX L' L → Kr (some (.int r)) S I' L' Rf) : aMet l E yX3_isSeenThrough cX3_isSeenThrough 8 (some .boolean) rmX3_isSeenThrough [.ref 3, .int x, .int y, .int w, .int v] (S) (I) (L) (Rf) Kr Kx := by
  refine aMet.of (lv0 := [.ref 3, .int x, .int y, .int w, .int v, aU, aU, aU]) (z := 3) (by decide +kernel) hst rfl (Nat.le_of_ble_eq_true rfl) ?_
  intro p e s m args below meth c io0 hx hin hno
  have hx : aCx p l s m args meth c RX3 cX3_isSeenThrough 8 (some .boolean) E := hx
  have hX := hC.1
  refine g_aloadG_n hx dX3_isSeenThrough_0 rfl (nx := 1) rfl rfl ?_
  refine g_iloadG_n hx dX3_isSeenThrough_1 rfl (nx := 2) rfl rfl ?_
  refine g_callV_X hx [_] (k' := 1) (n' := 6) dX3_isSeenThrough_2 (nx := 5) rfl lk_X3_75 (hX.1 0 _ rfl) (by decide) rfl rfl (Nat.le_of_ble_eq_true rfl) (Nat.le_of_ble_eq_true rfl) (Nat.le_of_ble_eq_true rfl) (Nat.le_of_ble_eq_true rfl) (Nat.le_of_ble_eq_true rfl) (Nat.le_of_ble_eq_true rfl) (Nat.le_of_ble_eq_true rfl) hno (Nat.le_of_ble_eq_true rfl) (Nat.le_of_ble_eq_true rfl) (s_X3_starAt hst hC (fun k hk9 ek => ?_) (fun q => ?_))
  · subst ek
    obtain ⟨b, hbe⟩ : ∃ b, b = 200 + 8 * k := ⟨_, rfl⟩
    rw [← hbe]
    have hB : lyS S Rf b := by rw [hbe]; exact hC.star (Nat.le_of_lt hk9)
    have hb := hB.2.2
    refine g_astore_5 hx dX3_isSeenThrough_5 (nx := 7) rfl (by decide) rfl ?_
    refine g_iloadG_n hx dX3_isSeenThrough_7 rfl (nx := 8) rfl rfl ?_
    refine g_callS_X hx [_] (k' := 2) (n' := 12) dX3_isSeenThrough_8 (nx := 11) rfl lk_X3_109 rfl (Nat.le_of_ble_eq_true rfl) (Nat.le_of_ble_eq_true rfl) (Nat.le_of_ble_eq_true rfl) (Nat.le_of_ble_eq_true rfl) (Nat.le_of_ble_eq_true rfl) (Nat.le_of_ble_eq_true rfl) (Nat.le_of_ble_eq_true rfl) hno (Nat.le_of_ble_eq_true rfl) (Nat.le_of_ble_eq_true rfl) (s_X3_lookForFilter hst (fun j hj9 ej => ?_) (fun q => ?_))
    · subst ej
      refine g_iloadG_n hx dX3_isSeenThrough_11 rfl (nx := 12) rfl rfl ?_
      refine g_callS_X hx [_] (k' := 3) (n' := 18) dX3_isSeenThrough_12 (nx := 15) rfl lk_X3_247 rfl (Nat.le_of_ble_eq_true rfl) (Nat.le_of_ble_eq_true rfl) (Nat.le_of_ble_eq_true rfl) (Nat.le_of_ble_eq_true rfl) (Nat.le_of_ble_eq_true rfl) (Nat.le_of_ble_eq_true rfl) (Nat.le_of_ble_eq_true rfl) hno (Nat.le_of_ble_eq_true rfl) (Nat.le_of_ble_eq_true rfl) (s_X3_lookAtLine hst (fun t ht9 et => ?_) (fun q => ?_))
      · subst et
        refine g_iloadG hx dX3_isSeenThrough_15 (nx := 17) rfl rfl ?_
        refine g_callS_X hx [_] (k' := 4) (n' := 24) dX3_isSeenThrough_17 (nx := 20) rfl lk_X3_247 rfl (Nat.le_of_ble_eq_true rfl) (Nat.le_of_ble_eq_true rfl) (Nat.le_of_ble_eq_true rfl) (Nat.le_of_ble_eq_true rfl) (Nat.le_of_ble_eq_true rfl) (Nat.le_of_ble_eq_true rfl) (Nat.le_of_ble_eq_true rfl) hno (Nat.le_of_ble_eq_true rfl) (Nat.le_of_ble_eq_true rfl) (s_X3_lookAtLine hst (fun u hu9 eu => ?_) (fun q => ?_))
        · subst eu
          refine g_iloadG_n hx dX3_isSeenThrough_20 rfl (nx := 21) rfl rfl ?_
          refine g_iloadG hx dX3_isSeenThrough_21 (nx := 23) rfl rfl ?_
          refine g_icmp_ne hx dX3_isSeenThrough_23 (tg := 36) (by decide) (nx := 26) rfl (fun c23 => ?_) (fun c23 => ?_)
          · have ho : I b 13 = nI (oo k) := by rw [hbe]; exact (hoo k hk9).1
            refine g_aloadG_n hx dX3_isSeenThrough_36 rfl (nx := 37) rfl rfl ?_
            refine g_getfo_R hx dX3_isSeenThrough_37 (nx := 40) rfl fa_X3_37 rfl (r9 := 7) hX.2.2.2.2.1 (hX.1 0 _ rfl) (by decide) ?_
            refine g_aloadG hx dX3_isSeenThrough_40 (nx := 42) rfl rfl ?_
            refine g_aloadG_n hx dX3_isSeenThrough_42 rfl (nx := 43) rfl rfl ?_
            refine g_getfo_R hx dX3_isSeenThrough_43 (nx := 46) rfl fa_X3_20 rfl (r9 := 5) hX.2.2.1 (hX.1 0 _ rfl) (by decide) ?_
            refine g_iloadG_n hx dX3_isSeenThrough_46 rfl (nx := 47) rfl rfl ?_
            refine g_aloadG hx dX3_isSeenThrough_47 (nx := 49) rfl rfl ?_
            refine g_getfn_i hx dX3_isSeenThrough_49 (nx := 52) rfl fa_X3_101 rfl (lyS.ob hB) (by omega) ?_
            rw [ho]
            refine g_callNV_M hx [_, _, _, _] (k' := 4) (n' := 24) dX3_isSeenThrough_52 (nx := 55) rfl lk_X3_240 (hX.1 4 _ rfl) (by decide) rfl rfl (Nat.le_of_ble_eq_true rfl) (Nat.le_of_ble_eq_true rfl) (Nat.le_of_ble_eq_true rfl) (Nat.le_of_ble_eq_true rfl) (Nat.le_of_ble_eq_true rfl) (Nat.le_of_ble_eq_true rfl) (Nat.le_of_ble_eq_true rfl) (s_X1_look (k := oo k) hst hX hB (by rw [hbe]; exact hsi k hk9) (hoo k hk9).2 (fun I' L' h1 h2 h3 => ?_))
            refine g_aloadG_n hx dX3_isSeenThrough_55 rfl (nx := 56) rfl rfl ?_
            refine g_getfo_R hx dX3_isSeenThrough_56 (nx := 59) rfl fa_X3_37 rfl (r9 := 7) hX.2.2.2.2.1 (hX.1 0 _ rfl) (by decide) ?_
            refine g_iloadG hx dX3_isSeenThrough_59 (nx := 61) rfl rfl ?_
            refine g_callNV_M hx [_] (k' := 4) (n' := 24) dX3_isSeenThrough_61 (nx := 64) rfl lk_X3_127 (hX.1 4 _ rfl) (by decide) rfl rfl (Nat.le_of_ble_eq_true rfl) (Nat.le_of_ble_eq_true rfl) (Nat.le_of_ble_eq_true rfl) (Nat.le_of_ble_eq_true rfl) (Nat.le_of_ble_eq_true rfl) (Nat.le_of_ble_eq_true rfl) (Nat.le_of_ble_eq_true rfl) (s_X1_strength hst hX h3 (fun L2 g1 => ?_))
            refine g_aloadG_n hx dX3_isSeenThrough_64 rfl (nx := 65) rfl rfl ?_
            refine g_getfo_R hx dX3_isSeenThrough_65 (nx := 68) rfl fa_X3_37 rfl (r9 := 7) hX.2.2.2.2.1 (hX.1 0 _ rfl) (by decide) ?_
            refine g_iloadG_n hx dX3_isSeenThrough_68 rfl (nx := 69) rfl rfl ?_
            refine g_callNV_M hx [_] (k' := 4) (n' := 24) dX3_isSeenThrough_69 (nx := 72) rfl lk_X3_127 (hX.1 4 _ rfl) (by decide) rfl rfl (Nat.le_of_ble_eq_true rfl) (Nat.le_of_ble_eq_true rfl) (Nat.le_of_ble_eq_true rfl) (Nat.le_of_ble_eq_true rfl) (Nat.le_of_ble_eq_true rfl) (Nat.le_of_ble_eq_true rfl) (Nat.le_of_ble_eq_true rfl) (s_X1_strength hst hX (q := prs I b) (V := laid I b (nI j) (oo k)) ⟨h3.1, fun i t h => ⟨(h3.2 i t h).1, (g1 9 i (by decide)).trans (h3.2 i t h).2⟩⟩ (fun L3 g2 => ?_))
            refine g_lcmp hx dX3_isSeenThrough_72 (nx := 73) rfl ?_
            refine g_if_gt hx dX3_isSeenThrough_73 (tg := 78) (by decide) (nx := 76) rfl (fun c73 => ?_) (fun c73 => ?_)
            · refine g_aloadG_n hx dX3_isSeenThrough_78 rfl (nx := 79) rfl rfl ?_
              refine g_getfo_R hx dX3_isSeenThrough_79 (nx := 82) rfl fa_X3_37 rfl (r9 := 7) hX.2.2.2.2.1 (hX.1 0 _ rfl) (by decide) ?_
              refine g_callNV_M hx [] (k' := 4) (n' := 24) dX3_isSeenThrough_82 (nx := 85) rfl lk_X3_250 (hX.1 4 _ rfl) (by decide) rfl rfl (Nat.le_of_ble_eq_true rfl) (Nat.le_of_ble_eq_true rfl) (Nat.le_of_ble_eq_true rfl) (Nat.le_of_ble_eq_true rfl) (Nat.le_of_ble_eq_true rfl) (Nat.le_of_ble_eq_true rfl) (Nat.le_of_ble_eq_true rfl) (s_X1_flatten hst hX (q := prs I b) (V := laid I b (nI j) (oo k)) ⟨h3.1, fun i t h => ⟨(h3.2 i t h).1, ((g2 9 i (by decide)).trans (g1 9 i (by decide))).trans (h3.2 i t h).2⟩⟩ (fun L4 g3 g4 => ?_))
              refine g_aloadG_n hx dX3_isSeenThrough_85 rfl (nx := 86) rfl rfl ?_
              refine g_getfo_R hx dX3_isSeenThrough_86 (nx := 89) rfl fa_X3_37 rfl (r9 := 7) hX.2.2.2.2.1 (hX.1 0 _ rfl) (by decide) ?_
              refine g_getfn_i hx dX3_isSeenThrough_89 (nx := 92) rfl fa_X3_237 rfl (hX.1 4 _ rfl) (by decide) ?_
              rw [h3.1]
              refine g_i2l hx dX3_isSeenThrough_92 (nx := 93) rfl ?_
              refine g_aloadG_n hx dX3_isSeenThrough_93 rfl (nx := 94) rfl rfl ?_
              refine g_getfo_R hx dX3_isSeenThrough_94 (nx := 97) rfl fa_X3_37 rfl (r9 := 7) hX.2.2.2.2.1 (hX.1 0 _ rfl) (by decide) ?_
              refine g_getfn_i hx dX3_isSeenThrough_97 (nx := 100) rfl fa_X3_237 rfl (hX.1 4 _ rfl) (by decide) ?_
              rw [h3.1]
              refine g_i2l hx dX3_isSeenThrough_100 (nx := 101) rfl ?_
              refine g_lmul hx dX3_isSeenThrough_101 (nx := 102) rfl ?_
              refine g_lstore_6 hx dX3_isSeenThrough_102 (nx := 104) rfl (by decide) rfl ?_
              refine g_ldc2 hx dX3_isSeenThrough_104 (nx := 107) rfl kl_X3_255 ?_
              refine g_aloadG_n hx dX3_isSeenThrough_107 rfl (nx := 108) rfl rfl ?_
              refine g_getfo_R hx dX3_isSeenThrough_108 (nx := 111) rfl fa_X3_37 rfl (r9 := 7) hX.2.2.2.2.1 (hX.1 0 _ rfl) (by decide) ?_
              refine g_iloadG_n hx dX3_isSeenThrough_111 rfl (nx := 112) rfl rfl ?_
              refine g_iloadG hx dX3_isSeenThrough_112 (nx := 114) rfl rfl ?_
              refine g_isub hx dX3_isSeenThrough_114 (nx := 115) rfl ?_
              refine g_callS_X hx [_] (k' := 4) (n' := 24) dX3_isSeenThrough_115 (nx := 118) rfl lk_X3_163 rfl (Nat.le_of_ble_eq_true rfl) (Nat.le_of_ble_eq_true rfl) (Nat.le_of_ble_eq_true rfl) (Nat.le_of_ble_eq_true rfl) (Nat.le_of_ble_eq_true rfl) (Nat.le_of_ble_eq_true rfl) (Nat.le_of_ble_eq_true rfl) hno (Nat.le_of_ble_eq_true rfl) (Nat.le_of_ble_eq_true rfl) (s_J9_abs_0f7a4 hst ?_)
              refine g_callNV_M hx [_] (k' := 4) (n' := 24) dX3_isSeenThrough_118 (nx := 121) rfl lk_X3_127 (hX.1 4 _ rfl) (by decide) rfl rfl (Nat.le_of_ble_eq_true rfl) (Nat.le_of_ble_eq_true rfl) (Nat.le_of_ble_eq_true rfl) (Nat.le_of_ble_eq_true rfl) (Nat.le_of_ble_eq_true rfl) (Nat.le_of_ble_eq_true rfl) (Nat.le_of_ble_eq_true rfl) (s_X1_strength hst hX g4 (fun L5 g5 => ?_))
              refine g_lmul hx dX3_isSeenThrough_121 (nx := 122) rfl ?_
              refine g_lloadG hx dX3_isSeenThrough_122 (nx := 124) rfl rfl ?_
              refine g_lcmp hx dX3_isSeenThrough_124 (nx := 125) rfl ?_
              refine g_if_lt hx dX3_isSeenThrough_125 (tg := 132) (by decide) (nx := 128) rfl (fun c125 => ?_) (fun c125 => ?_)
              · refine g_iconst hx dX3_isSeenThrough_132 (nx := 133) rfl (v := 0) (by decide) ?_
                refine g_iret hx dX3_isSeenThrough_133 rfl rfl (Nat.le_of_ble_eq_true rfl) (Nat.le_of_ble_eq_true rfl) ?_
                subst hbe
                have hf : ∀ a c, a ≠ 7 → a ≠ 8 → a ≠ 9 → L5 a c = L a c := fun a c k1 k2 k3 => (g5 a c k1).trans ((g3 a c k3).trans ((g2 a c k1).trans ((g1 a c k1).trans (h2 a c k1 k2 k3))))
                first
                  | exact hk k j t u hk9 hj9 ht9 hu9 rfl rfl rfl rfl (fun e => c23 (by rw [e])) 0 (Or.inr ⟨rfl, fun q => absurd ((lg_cmp_ge _ _).mpr q.2) (Int32.not_le.mpr c125)⟩) I' L5 h1 hf
                  | exact hk k j t u hk9 hj9 ht9 hu9 rfl rfl rfl rfl (fun e => c23 (by rw [e])) 1 (Or.inl ⟨rfl, (lg_cmp_gt _ _).mp c73, (lg_cmp_ge _ _).mp (Int32.not_lt.mp c125)⟩) I' L5 h1 hf
              · refine g_iconst hx dX3_isSeenThrough_128 (nx := 129) rfl (v := 1) (by decide) ?_
                refine g_goto hx dX3_isSeenThrough_129 (tg := 133) (by decide) ?_
                refine g_iret hx dX3_isSeenThrough_133 rfl rfl (Nat.le_of_ble_eq_true rfl) (Nat.le_of_ble_eq_true rfl) ?_
                subst hbe
                have hf : ∀ a c, a ≠ 7 → a ≠ 8 → a ≠ 9 → L5 a c = L a c := fun a c k1 k2 k3 => (g5 a c k1).trans ((g3 a c k3).trans ((g2 a c k1).trans ((g1 a c k1).trans (h2 a c k1 k2 k3))))
                first
                  | exact hk k j t u hk9 hj9 ht9 hu9 rfl rfl rfl rfl (fun e => c23 (by rw [e])) 0 (Or.inr ⟨rfl, fun q => absurd ((lg_cmp_ge _ _).mpr q.2) (Int32.not_le.mpr c125)⟩) I' L5 h1 hf
                  | exact hk k j t u hk9 hj9 ht9 hu9 rfl rfl rfl rfl (fun e => c23 (by rw [e])) 1 (Or.inl ⟨rfl, (lg_cmp_gt _ _).mp c73, (lg_cmp_ge _ _).mp (Int32.not_lt.mp c125)⟩) I' L5 h1 hf
            · refine g_iconst hx dX3_isSeenThrough_76 (nx := 77) rfl (v := 0) (by decide) ?_
              refine g_iret hx dX3_isSeenThrough_77 rfl rfl (Nat.le_of_ble_eq_true rfl) (Nat.le_of_ble_eq_true rfl) ?_
              subst hbe
              exact hk k j t u hk9 hj9 ht9 hu9 rfl rfl rfl rfl (fun e => c23 (by rw [e])) 0 (Or.inr ⟨rfl, fun q => absurd ((lg_cmp_gt _ _).mpr q.1) c73⟩) I' L3 h1 (fun a c k1 k2 k3 => (g2 a c k1).trans ((g1 a c k1).trans (h2 a c k1 k2 k3)))
          · refine g_throw hx th_X3_45_253_49 dX3_isSeenThrough_26 dX3_isSeenThrough_29 dX3_isSeenThrough_30 dX3_isSeenThrough_32 dX3_isSeenThrough_35 hno (Nat.le_of_ble_eq_true rfl) (Nat.le_of_ble_eq_true rfl) (Nat.le_of_ble_eq_true rfl) (Nat.le_of_ble_eq_true rfl) (Nat.le_of_ble_eq_true rfl) (Nat.le_of_ble_eq_true rfl) ?_
            exact hx2 ⟨⟨k, hk9, rfl⟩, ⟨j, hj9, rfl⟩⟩ (fun h => h.2.2 c23)
        · exact hx2 ⟨⟨k, hk9, rfl⟩, ⟨j, hj9, rfl⟩⟩ (fun h => q h.2.1)
      · exact hx2 ⟨⟨k, hk9, rfl⟩, ⟨j, hj9, rfl⟩⟩ (fun h => q h.1)
    · exact hx1 (fun h => q h.2)
  · exact hx1 (fun h => q h.1)

abbrev rmX3_enter : Room := { frames := 0, cells := 0, slots := 0, locals := 0 }
set_option maxHeartbeats 4000000 in
set_option maxRecDepth 100000 in
theorem s_X3_enterN {l : Launch} {E : aE} {S : aS} {I : aI} {L : aL} {Rf : aR} {Kr : aK} {Kx : aX} (hst : l.stackTraces = false) {n nc c : Nat} (hX : lyX S Rf) (hlt : nc < 40) (hc : S c = some (.inr 0)) (hc2 : 100 ≤ c) (h6 : I 3 6 = nI nc) (hk : Kr (some (.int (nI nc))) S (au2 I 3 6 (nI (nc + 1))) L (au2 Rf 6 nc (some c))) : aMet l E yX3_enter cX3_enter 2 (some .int) rmX3_enter [.ref 3, .ref c] (S) (I) (L) (Rf) Kr Kx := by
  refine aMet.of (lv0 := [.ref 3, .ref c]) (z := 0) (by decide +kernel) hst rfl (Nat.le_of_ble_eq_true rfl) ?_
  intro p e s m args below meth cc9 io0 hx hin hno
  have hx : aCx p l s m args meth cc9 RX3 cX3_enter 2 (some .int) E := hx
  have hn : (nI nc).toNatClampNeg = nc := nI_clamp (by omega)
  refine g_aloadG_n hx dX3_enter_0 rfl (nx := 1) rfl rfl ?_
  refine g_getfo_i hx dX3_enter_1 (nx := 4) rfl fa_X3_198 rfl (hX.1 0 _ rfl) (by decide) ?_
  refine g_bipush hx dX3_enter_4 (nx := 6) rfl (v := 40) (by decide) ?_
  refine g_icmp_ge hx dX3_enter_6 (tg := 29) (by decide) (nx := 9) rfl (fun c6 => ?_) (fun c6 => ?_)
  · exact absurd c6 (by rw [h6]; exact nI_ge (b := 40) hlt (by decide))
  · refine g_aloadG_n hx dX3_enter_9 rfl (nx := 10) rfl rfl ?_
    refine g_getfo_R hx dX3_enter_10 (nx := 13) rfl fa_X3_30 rfl (r9 := 6) hX.2.2.2.1 (hX.1 0 _ rfl) (by decide) ?_
    refine g_aloadG_n hx dX3_enter_13 rfl (nx := 14) rfl rfl ?_
    refine g_getfo_i hx dX3_enter_14 (nx := 17) rfl fa_X3_198 rfl (hX.1 0 _ rfl) (by decide) ?_
    refine g_aloadG_n hx dX3_enter_17 rfl (nx := 18) rfl rfl ?_
    refine g_aastoreClaim hx dX3_enter_18 (nx := 19) rfl (hX.1 3 _ rfl) (by decide) (by rw [h6]; exact vp_in_nI hlt (by decide)) hc (by omega) ?_
    refine g_aloadG_n hx dX3_enter_19 rfl (nx := 20) rfl rfl ?_
    refine g_dup hx dX3_enter_20 (nx := 21) rfl rfl ?_
    refine g_getfo_i hx dX3_enter_21 (nx := 24) rfl fa_X3_198 rfl (hX.1 0 _ rfl) (by decide) ?_
    refine g_iconst hx dX3_enter_24 (nx := 25) rfl (v := 1) (by decide) ?_
    refine g_iadd hx dX3_enter_25 (nx := 26) rfl ?_
    refine g_putfo_i hx dX3_enter_26 (nx := 29) rfl fa_X3_198 rfl rfl rfl (fun r h => by cases h; rfl) (hX.1 0 _ rfl) (by decide) ?_
    refine g_aloadG_n hx dX3_enter_29 rfl (nx := 30) rfl rfl ?_
    refine g_getfo_i hx dX3_enter_30 (nx := 33) rfl fa_X3_198 rfl (hX.1 0 _ rfl) (by decide) ?_
    refine g_iconst hx dX3_enter_33 (nx := 34) rfl (v := 1) (by decide) ?_
    refine g_isub hx dX3_enter_34 (nx := 35) rfl ?_
    refine g_iret hx dX3_enter_35 rfl rfl (Nat.le_of_ble_eq_true rfl) (Nat.le_of_ble_eq_true rfl) ?_
    rw [au2_s, h6, hn, ← nI_succ, nI_pred]
    exact hk

theorem lyX.new {S : aS} {R : aR} {c : Nat} {x : (FieldType × Nat) ⊕ Nat} (h : lyX S R) (hc : 100 ≤ c) : lyX (au1 S c (some x)) (azr R c none) := ⟨fun j y hj => by
    have hj7 : j ≤ 6 := Nat.not_lt.mp fun z => by
      match j, z, hj with
      | j + 7, _, hj => cases hj
    rw [au1_n (by omega)]; exact h.1 j y hj, by rw [azr_n (by omega)]; exact h.2.1, by rw [azr_n (by omega)]; exact h.2.2.1, by rw [azr_n (by omega)]; exact h.2.2.2.1, by rw [azr_n (by omega)]; exact h.2.2.2.2.1, by rw [azr_n (by omega)]; exact h.2.2.2.2.2.1, by rw [azr_n (by omega)]; exact h.2.2.2.2.2.2.1, by rw [au1_n (by omega)]; exact h.2.2.2.2.2.2.2⟩
theorem lyS.new {S : aS} {R : aR} {b c : Nat} {x : (FieldType × Nat) ⊕ Nat} (h : lyS S R b) (hc : c < b) : lyS (au1 S c (some x)) (azr R c none) b := ⟨fun j y hj => by rw [au1_n (by omega)]; exact h.1 j y hj, fun k j hj => by rw [azr_n (by omega)]; exact h.2.1 k j hj, h.2.2⟩
/-- a claim more: the claim nc -/
def newC (n nc : Nat) (S : aS) (I : aI) (L : aL) (R : aR) (S' : aS) (I' : aI) (L' : aL) (R' : aR) (kd st ln fl ou : Int32) (po : Int64) (ag : Int32) (ci : Int64) : Prop :=
  lyC S' R' I' n (nc + 1) ∧ (∀ a, a ≠ 100 + nc → S' a = S a) ∧ (∀ a k, a ≠ 7 → a ≠ 8 → a ≠ 9 → a ≠ 100 + nc → ¬ (a = 3 ∧ k = 6) → I' a k = I a k) ∧ (∀ a k, a ≠ 7 → a ≠ 8 → a ≠ 9 → a ≠ 100 + nc → L' a k = L a k) ∧ (∀ a k, ¬ (a = 6 ∧ k = nc) → a ≠ 100 + nc → R' a k = R a k) ∧
  I' (100 + nc) 0 = kd ∧ I' (100 + nc) 1 = st ∧ I' (100 + nc) 2 = ln ∧ I' (100 + nc) 3 = fl ∧ I' (100 + nc) 4 = ou ∧ L' (100 + nc) 5 = po ∧ I' (100 + nc) 6 = ag ∧ L' (100 + nc) 7 = ci ∧ I' (100 + nc) 8 = 1
theorem lyC.new {S S' : aS} {R R' : aR} {I J : aI} {n nc : Nat} (h : lyC S R I n nc) (hlt : nc < 40) (hS : ∀ a, a ≠ 100 + nc → S' a = S a) (hSc : S' (100 + nc) = some (.inr 0)) (hR : ∀ a k, ¬ (a = 6 ∧ k = nc) → a ≠ 100 + nc → R' a k = R a k) (hRc : R' 6 nc = some (100 + nc)) (h1 : J 3 1 = I 3 1) (h6 : J 3 6 = nI (nc + 1)) : lyC S' R' J n (nc + 1) := by
  obtain ⟨a1, a2, a3, a4, a5, a6, a7, a8, a9, a10, a11⟩ := h
  refine ⟨⟨fun j x hj => ?_, ?_, ?_, ?_, ?_, ?_, ?_, ?_⟩, a2, by omega, h1.trans a4, h6, ?_, fun k hk => ⟨fun j x hj => ?_, fun q j hj => ?_, (a7 k hk).2.2⟩, fun k hk => ?_, fun k hk => ?_, fun a ha => ?_, fun k h1 h2 => ?_⟩
  · have hj7 : j ≤ 6 := Nat.not_lt.mp fun z => by
      match j, z, hj with
      | j + 7, _, hj => cases hj
    rw [hS _ (by omega)]; exact a1.1 j x hj
  · rw [hR _ _ (by omega) (by omega)]; exact a1.2.1
  · rw [hR _ _ (by omega) (by omega)]; exact a1.2.2.1
  · rw [hR _ _ (by omega) (by omega)]; exact a1.2.2.2.1
  · rw [hR _ _ (by omega) (by omega)]; exact a1.2.2.2.2.1
  · rw [hR _ _ (by omega) (by omega)]; exact a1.2.2.2.2.2.1
  · rw [hR _ _ (by omega) (by omega)]; exact a1.2.2.2.2.2.2.1
  · rw [hS _ (by omega)]; exact a1.2.2.2.2.2.2.2
  · rw [hR _ _ (by omega) (by omega)]; exact a6
  · rw [hS _ (by omega)]; exact (a7 k hk).1 j x hj
  · rw [hR _ _ (by omega) (by omega)]; exact (a7 k hk).2.1 q j hj
  · rw [hR _ _ (by omega) (by omega)]; exact a8 k hk
  · by_cases e : k = nc
    · rw [e]; exact ⟨hSc, hRc⟩
    · have := a9 k (by omega)
      rw [hS _ (by omega), hR _ _ (by omega) (by omega)]; exact this
  · rw [hS _ (by omega)]; exact a10 a ha
  · rw [hS _ (by omega)]; exact a11 k (by omega) h2

abbrev rmX3_claimTone : Room := { frames := 7, cells := 5, slots := 33, locals := 142 }
set_option maxHeartbeats 4000000 in
set_option maxRecDepth 100000 in
theorem s_X3_claimTone {l : Launch} {E : aE} {S : aS} {I : aI} {L : aL} {Rf : aR} {Kr : aK} {Kx : aX} (hst : l.stackTraces = false) {n nc : Nat} {oo : Nat → Nat} {x y w : Int32} (hC : lyC S Rf I n nc) (hsi : ∀ k, k < n → ∀ t, t < 256 → vp_in (I (200 + 8 * k + 5) t) 4) (hoo : ∀ k, k < n → I (200 + 8 * k) 13 = nI (oo k) ∧ oo k ≤ 6) (hx1 : ¬ (inN x n ∧ inN y 3) → Kx eIO S I L Rf) (hx2 : ∀ k j : Nat, k < n → j < 3 → x = nI k → y = nI j → ¬ (nc < 40 ∧ rgN w 1 30 ∧ pkP I (200 + 8 * k) (nI j) (oo k) w) → ∀ I' L', eqX I' I → eqX L' L → Kx eIS S I' L' Rf) (hk : ∀ k j : Nat, k < n → j < 3 → x = nI k → y = nI j → nc < 40 → rgN w 1 30 → pkP I (200 + 8 * k) (nI j) (oo k) w → ∀ S' I' L' R', newC n nc S I L Rf S' I' L' R' 0 (nI k) w (nI j) (nI (oo k)) (pw (prs I (200 + 8 * k)) (laid I (200 + 8 * k) (nI j) (oo k)) w) (-1) 0 → Kr (some (.int (nI nc))) S' I' L' R') : aMet l E yX3_claimTone cX3_claimTone 6 (some .int) rmX3_claimTone [.ref 3, .int x, .int y, .int w] (S) (I) (L) (Rf) Kr Kx := by
  refine aMet.of (lv0 := [.ref 3, .int x, .int y, .int w, aU, aU]) (z := 2) (by decide +kernel) hst rfl (Nat.le_of_ble_eq_true rfl) ?_
  intro p e s m args below meth c io0 hx hin hno
  have hx : aCx p l s m args meth c RX3 cX3_claimTone 6 (some .int) E := hx
  have hX := hC.1
  obtain ⟨c, hce⟩ : ∃ c, c = 100 + nc := ⟨_, rfl⟩
  refine g_aloadG_n hx dX3_claimTone_0 rfl (nx := 1) rfl rfl ?_
  refine g_iloadG_n hx dX3_claimTone_1 rfl (nx := 2) rfl rfl ?_
  refine g_callV_X hx [_] (k' := 1) (n' := 6) dX3_claimTone_2 (nx := 5) rfl lk_X3_75 (hX.1 0 _ rfl) (by decide) rfl rfl (Nat.le_of_ble_eq_true rfl) (Nat.le_of_ble_eq_true rfl) (Nat.le_of_ble_eq_true rfl) (Nat.le_of_ble_eq_true rfl) (Nat.le_of_ble_eq_true rfl) (Nat.le_of_ble_eq_true rfl) (Nat.le_of_ble_eq_true rfl) hno (Nat.le_of_ble_eq_true rfl) (Nat.le_of_ble_eq_true rfl) (s_X3_starAt hst hC (fun k hk9 ek => ?_) (fun q => ?_))
  · subst ek
    obtain ⟨b, hbe⟩ : ∃ b, b = 200 + 8 * k := ⟨_, rfl⟩
    rw [← hbe]
    have hB : lyS S Rf b := by rw [hbe]; exact hC.star (Nat.le_of_lt hk9)
    have hb := hB.2.2
    refine g_astore_4 hx dX3_claimTone_5 (nx := 7) rfl (by decide) rfl ?_
    refine g_iloadG_n hx dX3_claimTone_7 rfl (nx := 8) rfl rfl ?_
    refine g_callS_X hx [_] (k' := 2) (n' := 12) dX3_claimTone_8 (nx := 11) rfl lk_X3_109 rfl (Nat.le_of_ble_eq_true rfl) (Nat.le_of_ble_eq_true rfl) (Nat.le_of_ble_eq_true rfl) (Nat.le_of_ble_eq_true rfl) (Nat.le_of_ble_eq_true rfl) (Nat.le_of_ble_eq_true rfl) (Nat.le_of_ble_eq_true rfl) hno (Nat.le_of_ble_eq_true rfl) (Nat.le_of_ble_eq_true rfl) (s_X3_lookForFilter hst (fun j hj9 ej => ?_) (fun q => ?_))
    · subst ej
      refine g_aloadG_n hx dX3_claimTone_11 rfl (nx := 12) rfl rfl ?_
      refine g_callV_X hx [] (k' := 3) (n' := 18) dX3_claimTone_12 (nx := 15) rfl lk_X3_112 (hX.1 0 _ rfl) (by decide) rfl rfl (Nat.le_of_ble_eq_true rfl) (Nat.le_of_ble_eq_true rfl) (Nat.le_of_ble_eq_true rfl) (Nat.le_of_ble_eq_true rfl) (Nat.le_of_ble_eq_true rfl) (Nat.le_of_ble_eq_true rfl) (Nat.le_of_ble_eq_true rfl) hno (Nat.le_of_ble_eq_true rfl) (Nat.le_of_ble_eq_true rfl) (s_X3_lookForRoom hst hC (fun hlt => ?_) (fun q => ?_))
      · have hc0 : S c = none := by rw [hce]; exact hC.2.2.2.2.2.2.2.2.2.2 nc (Nat.le_refl _) (by omega)
        have hSc : au1 S c (some (.inr 0)) c = some (.inr 0) := au1_s _ _ _
        refine g_aloadG_n hx dX3_claimTone_15 rfl (nx := 16) rfl rfl ?_
        refine g_aloadG hx dX3_claimTone_16 (nx := 18) rfl rfl ?_
        refine g_iloadG_n hx dX3_claimTone_18 rfl (nx := 19) rfl rfl ?_
        refine g_iloadG_n hx dX3_claimTone_19 rfl (nx := 20) rfl rfl ?_
        refine g_callV_X hx [_, _, _] (k' := 3) (n' := 18) dX3_claimTone_20 (nx := 23) rfl lk_X3_115 (hX.1 0 _ rfl) (by decide) rfl rfl (Nat.le_of_ble_eq_true rfl) (Nat.le_of_ble_eq_true rfl) (Nat.le_of_ble_eq_true rfl) (Nat.le_of_ble_eq_true rfl) (Nat.le_of_ble_eq_true rfl) (Nat.le_of_ble_eq_true rfl) (Nat.le_of_ble_eq_true rfl) hno (Nat.le_of_ble_eq_true rfl) (Nat.le_of_ble_eq_true rfl) (s_X3_standsOut (ok := oo k) hst hC hB (by rw [hbe]; exact hsi k hk9) (by rw [hbe]; exact (hoo k hk9).1) (hoo k hk9).2 (fun q => ?_) (fun q1 q2 I' L' h1 h2 => ?_) (fun q1 q2 I' L' h1 h2 h3 => ?_))
        · have hbad := hx2 k j hk9 hj9 rfl rfl (fun h => q h.2.1) I L (eqX.refl I) (eqX.refl L)
          refine g_if_ne hx dX3_claimTone_23 (tg := 36) (by decide) (nx := 26) rfl (fun c23 => ?_) (fun c23 => ?_)
          · exact absurd rfl c23
          · refine g_throw hx th_X3_55_119_59 dX3_claimTone_26 dX3_claimTone_29 dX3_claimTone_30 dX3_claimTone_32 dX3_claimTone_35 hno (Nat.le_of_ble_eq_true rfl) (Nat.le_of_ble_eq_true rfl) (Nat.le_of_ble_eq_true rfl) (Nat.le_of_ble_eq_true rfl) (Nat.le_of_ble_eq_true rfl) (Nat.le_of_ble_eq_true rfl) ?_
            exact hbad
        · have hbad := hx2 k j hk9 hj9 rfl rfl (fun h => q2 (by rw [hbe]; exact h.2.2)) I' L' h1 h2
          refine g_if_ne hx dX3_claimTone_23 (tg := 36) (by decide) (nx := 26) rfl (fun c23 => ?_) (fun c23 => ?_)
          · exact absurd rfl c23
          · refine g_throw hx th_X3_55_119_59 dX3_claimTone_26 dX3_claimTone_29 dX3_claimTone_30 dX3_claimTone_32 dX3_claimTone_35 hno (Nat.le_of_ble_eq_true rfl) (Nat.le_of_ble_eq_true rfl) (Nat.le_of_ble_eq_true rfl) (Nat.le_of_ble_eq_true rfl) (Nat.le_of_ble_eq_true rfl) (Nat.le_of_ble_eq_true rfl) ?_
            exact hbad
        · have hC' : lyC S Rf I' n nc := hC.I (h1 3 1 (by decide) (by decide) (by decide)) (h1 3 6 (by decide) (by decide) (by decide))
          refine g_if_ne hx dX3_claimTone_23 (tg := 36) (by decide) (nx := 26) rfl (fun c23 => ?_) (fun c23 => ?_)
          · refine g_new hx dX3_claimTone_36 (nx := 39) rfl (ci := 0) rfl nw_X3_28.1 nw_X3_28.2.1 nw_X3_28.2.2.1 nw_X3_28.2.2.2 (q := c) hc0 (by omega) (k' := 4) rfl (n' := 27) rfl (Nat.le_of_ble_eq_true rfl) (Nat.le_of_ble_eq_true rfl) ?_
            have hX := hX.new (c := c) (x := .inr 0) (by omega)
            have hB := hB.new (c := c) (x := .inr 0) (by omega)
            refine g_dup hx dX3_claimTone_39 (nx := 40) rfl rfl ?_
            refine g_iconst hx dX3_claimTone_40 (nx := 41) rfl (v := 0) (by decide) ?_
            refine g_iloadG_n hx dX3_claimTone_41 rfl (nx := 42) rfl rfl ?_
            refine g_iloadG_n hx dX3_claimTone_42 rfl (nx := 43) rfl rfl ?_
            refine g_callNI_M hx [_, _, _] (k' := 4) (n' := 27) dX3_claimTone_43 (nx := 46) rfl lk_X3_121 rfl (Nat.le_of_ble_eq_true rfl) (Nat.le_of_ble_eq_true rfl) (Nat.le_of_ble_eq_true rfl) (Nat.le_of_ble_eq_true rfl) (Nat.le_of_ble_eq_true rfl) (Nat.le_of_ble_eq_true rfl) (Nat.le_of_ble_eq_true rfl) (s_X0_init hst (by omega) hSc (fun J g1 g2 g3 g4 g5 g6 g7 g8 => ?_))
            refine g_astore_5 hx dX3_claimTone_46 (nx := 48) rfl (by decide) rfl ?_
            refine g_aloadG hx dX3_claimTone_48 (nx := 50) rfl rfl ?_
            refine g_iloadG_n hx dX3_claimTone_50 rfl (nx := 51) rfl rfl ?_
            refine g_putfn_i hx dX3_claimTone_51 (nx := 54) rfl fa_X3_123 rfl rfl rfl (fun r h => by cases h; rfl) hSc (by omega) ?_
            refine g_aloadG hx dX3_claimTone_54 (nx := 56) rfl rfl ?_
            refine g_aloadG hx dX3_claimTone_56 (nx := 58) rfl rfl ?_
            refine g_getfn_i hx dX3_claimTone_58 (nx := 61) rfl fa_X3_101 rfl (lyS.ob hB) (by omega) ?_
            refine g_putfn_i hx dX3_claimTone_61 (nx := 64) rfl fa_X3_126 rfl rfl rfl (fun r h => by cases h; rfl) hSc (by omega) ?_
            refine g_aloadG hx dX3_claimTone_64 (nx := 66) rfl rfl ?_
            refine g_aloadG_n hx dX3_claimTone_66 rfl (nx := 67) rfl rfl ?_
            refine g_getfo_R hx dX3_claimTone_67 (nx := 70) rfl fa_X3_37 rfl (r9 := 7) hX.2.2.2.2.1 (hX.1 0 _ rfl) (by decide) ?_
            refine g_iloadG_n hx dX3_claimTone_70 rfl (nx := 71) rfl rfl ?_
            refine g_callNV_M hx [_] (k' := 4) (n' := 27) dX3_claimTone_71 (nx := 74) rfl lk_X3_127 (hX.1 4 _ rfl) (by decide) rfl rfl (Nat.le_of_ble_eq_true rfl) (Nat.le_of_ble_eq_true rfl) (Nat.le_of_ble_eq_true rfl) (Nat.le_of_ble_eq_true rfl) (Nat.le_of_ble_eq_true rfl) (Nat.le_of_ble_eq_true rfl) (Nat.le_of_ble_eq_true rfl) (s_X1_strength hst hX (q := prs I b) (V := laid I b (nI j) (oo k)) ⟨?_, fun i t h => ⟨?_, ?_⟩⟩ (fun L3 g9 => ?_))
            · rw [au2_n (by omega), au2_n (by omega), g1 _ _ (by omega), azr_n (by omega)]; exact h3.1
            · rw [au2_n (by omega), au2_n (by omega), g1 _ _ (by omega), azr_n (by omega)]; exact (h3.2 i t h).1
            · rw [azr_n (by omega)]; exact (h3.2 i t h).2
            · have hz : True := trivial
              refine g_putfn_l hx dX3_claimTone_74 (nx := 77) rfl fa_X3_131 rfl (fun r h => by cases h; rfl) hSc (by omega) ?_
              refine g_aloadG_n hx dX3_claimTone_77 rfl (nx := 78) rfl rfl ?_
              refine g_aloadG hx dX3_claimTone_78 (nx := 80) rfl rfl ?_
              refine g_callV_X hx [_] (k' := 4) (n' := 27) dX3_claimTone_80 (nx := 83) rfl lk_X3_135 (hX.1 0 _ rfl) (by decide) rfl rfl (Nat.le_of_ble_eq_true rfl) (Nat.le_of_ble_eq_true rfl) (Nat.le_of_ble_eq_true rfl) (Nat.le_of_ble_eq_true rfl) (Nat.le_of_ble_eq_true rfl) (Nat.le_of_ble_eq_true rfl) (Nat.le_of_ble_eq_true rfl) hno (Nat.le_of_ble_eq_true rfl) (Nat.le_of_ble_eq_true rfl) (s_X3_enterN (n := n) (nc := nc) hst hX hlt hSc (by omega) ?_ ?_)
              · rw [au2_n (by omega), au2_n (by omega), g1 _ _ (by omega), azr_n (by omega)]; exact hC'.i6
              · have hz : True := trivial
                refine g_iret hx dX3_claimTone_83 rfl rfl (Nat.le_of_ble_eq_true rfl) (Nat.le_of_ble_eq_true rfl) ?_
                subst hce
                refine hk k j hk9 hj9 rfl rfl hlt q1 (by rw [← hbe]; exact q2) _ _ _ _ ⟨hC'.new hlt (fun a h => au1_n h) hSc (fun a k h h9 => ?_) (au2_s _ _ _ _) ?_ (au2_s _ _ _ _), fun a h => au1_n h, fun a k k1 k2 k3 k4 k5 => ?_, fun a k k1 k2 k3 k4 => ?_, fun a k h h9 => ?_, ?_, ?_, ?_, ?_, ?_, ?_, ?_, ?_, ?_⟩
                · rw [au2_n h, azr_n h9]
                · rw [au2_n (by omega), au2_n (by omega), au2_n (by omega), g1 _ _ (by omega), azr_n (by omega)]
                · rw [au2_n k5, au2_n (fun z => k4 z.1), au2_n (fun z => k4 z.1), g1 _ _ k4, azr_n k4]; exact h1 _ _ k1 k2 k3
                · rw [au2_n (fun z => k4 z.1), g9 _ _ k1, azr_n k4]; exact h2 _ _ k1 k2 k3
                · rw [au2_n h, azr_n h9]
                · rw [au2_n (by omega), au2_n (by omega), au2_n (by omega)]; exact g2
                · rw [au2_n (by omega), au2_n (by omega), au2_n (by omega)]; exact g3
                · rw [au2_n (by omega), au2_n (by omega), au2_n (by omega)]; exact g4
                · rw [au2_n (by omega), au2_n (by omega), au2_s]
                · rw [au2_n (by omega), au2_s, au2_n (by omega), g1 _ _ (by omega), azr_n (by omega), h1 _ _ (by omega) (by omega) (by omega), hbe]; exact (hoo k hk9).1
                · rw [au2_s, hbe]
                · rw [au2_n (by omega), au2_n (by omega), au2_n (by omega)]; exact g7
                · rw [au2_n (by omega), g9 _ _ (by omega), azr_s]
                · rw [au2_n (by omega), au2_n (by omega), au2_n (by omega)]; exact g8
          · exact absurd c23 (by decide)
      · exact hx2 k j hk9 hj9 rfl rfl (fun h => absurd h.1 (by omega)) I L (eqX.refl I) (eqX.refl L)
    · exact hx1 (fun h => q h.2)
  · exact hx1 (fun h => q h.1)

