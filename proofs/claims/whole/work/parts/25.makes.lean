/-! the reference: claims made -/
def mkI (I : aI) (nc : Nat) (kd st ln : Int32) : aI := au2 (au2 (au2 (au2 (au2 (au2 I 42 nc kd) 43 nc st) 44 nc ln) 48 nc (-1)) 50 nc 1) 20 21 (nI (nc + 1))
def newM (nc : Nat) (I : aI) (L : aL) (I' : aI) (L' : aL) (kd st ln fl ou : Int32) (po : Int64) (ag : Int32) (ci : Int64) : Prop :=
  (∀ a b, ¬ (a = 20 ∧ (b = 18 ∨ b = 21 ∨ b = 31)) → a ≠ 40 → ¬ (b = nc ∧ (a = 42 ∨ a = 43 ∨ a = 44 ∨ a = 45 ∨ a = 46 ∨ a = 48 ∨ a = 50)) → I' a b = I a b) ∧ (∀ a b, a ≠ 39 → ¬ (b = nc ∧ (a = 47 ∨ a = 49)) → L' a b = L a b) ∧ I' 20 21 = nI (nc + 1) ∧ I' 20 31 = 0 ∧ I' 42 nc = kd ∧ I' 43 nc = st ∧ I' 44 nc = ln ∧ (kd = 0 → I' 45 nc = fl ∧ I' 46 nc = ou ∧ L' 47 nc = po) ∧ I' 48 nc = ag ∧ L' 49 nc = ci ∧ I' 50 nc = 1
theorem mkI_n {I : aI} {nc a b : Nat} {kd st ln : Int32} (h : ¬ (a = 20 ∧ b = 21)) (h2 : ¬ (b = nc ∧ (a = 42 ∨ a = 43 ∨ a = 44 ∨ a = 48 ∨ a = 50))) : mkI I nc kd st ln a b = I a b := by
  unfold mkI
  rw [au2_n h, au2_n (by omega), au2_n (by omega), au2_n (by omega), au2_n (by omega), au2_n (by omega)]
theorem mkI_42 (I : aI) (nc : Nat) (kd st ln : Int32) : mkI I nc kd st ln 42 nc = kd := by
  unfold mkI
  rw [au2_n (by omega), au2_n (by omega), au2_n (by omega), au2_n (by omega), au2_n (by omega), au2_s]
theorem mkI_43 (I : aI) (nc : Nat) (kd st ln : Int32) : mkI I nc kd st ln 43 nc = st := by
  unfold mkI
  rw [au2_n (by omega), au2_n (by omega), au2_n (by omega), au2_n (by omega), au2_s]
theorem mkI_44 (I : aI) (nc : Nat) (kd st ln : Int32) : mkI I nc kd st ln 44 nc = ln := by
  unfold mkI
  rw [au2_n (by omega), au2_n (by omega), au2_n (by omega), au2_s]
theorem mkI_48 (I : aI) (nc : Nat) (kd st ln : Int32) : mkI I nc kd st ln 48 nc = -1 := by
  unfold mkI
  rw [au2_n (by omega), au2_n (by omega), au2_s]
theorem mkI_50 (I : aI) (nc : Nat) (kd st ln : Int32) : mkI I nc kd st ln 50 nc = 1 := by
  unfold mkI
  rw [au2_n (by omega), au2_s]
theorem mkI_21 (I : aI) (nc : Nat) (kd st ln : Int32) : mkI I nc kd st ln 20 21 = nI (nc + 1) := by
  unfold mkI
  rw [au2_s]
theorem eM.au {I J : aI} {v : Int32} (h : eM J I) : eM (au2 J 20 31 v) (au2 I 20 31 v) := fun a b h1 h2 => by
  by_cases e : a = 20 ∧ b = 31
  · obtain ⟨rfl, rfl⟩ := e; rw [au2_s, au2_s]
  · rw [au2_n e, au2_n e]; exact h a b h1 h2
abbrev rmX4_makes : Room := { frames := 0, cells := 0, slots := 0, locals := 0 }
set_option maxHeartbeats 4000000 in
set_option maxRecDepth 100000 in
theorem s_X4_makes {l : Launch} {E : aE} {S : aS} {I : aI} {L : aL} {Rf : aR} {Kr : aK} {Kx : aX} (hst : l.stackTraces = false) {nc : Nat} {x y w : Int32} (hM : lyM S Rf) (h21 : I 20 21 = nI nc) (hlt : nc < 40) (hk : Kr (some (.int (nI nc))) S (mkI I nc x y w) (au2 L 49 nc 0) Rf) : aMet l E yX4_makes cX4_makes 4 (some .int) rmX4_makes [.ref 20, .int x, .int y, .int w] (S) (I) (L) (Rf) Kr Kx := by
  refine aMet.of (lv0 := [.ref 20, .int x, .int y, .int w]) (z := 0) (by decide +kernel) hst rfl (Nat.le_of_ble_eq_true rfl) ?_
  intro p e s m args below meth c io0 hx hin hno
  have hx : aCx p l s m args meth c RX4 cX4_makes 4 (some .int) E := hx
  have hin : vp_in (nI nc) 40 := vp_in_nI hlt (by decide)
  have hc : (nI nc).toNatClampNeg = nc := nI_clamp (by omega)
  refine g_aloadG_n hx dX4_makes_0 rfl (nx := 1) rfl rfl ?_
  refine g_getfo_R hx dX4_makes_1 (nx := 4) rfl fa_X4_67 rfl (r9 := 42) (hM.2 22 rfl) (hM.1 0 _ rfl) (by decide) ?_
  refine g_aloadG_n hx dX4_makes_4 rfl (nx := 5) rfl rfl ?_
  refine g_getfo_i hx dX4_makes_5 (nx := 8) rfl fa_X4_108 rfl (hM.1 0 _ rfl) (by decide) ?_
  rw [h21]
  refine g_iloadG_n hx dX4_makes_8 rfl (nx := 9) rfl rfl ?_
  refine g_iastore hx dX4_makes_9 (nx := 10) rfl (hM.1 22 _ rfl) (by decide) hin ?_
  refine g_aloadG_n hx dX4_makes_10 rfl (nx := 11) rfl rfl ?_
  refine g_getfo_R hx dX4_makes_11 (nx := 14) rfl fa_X4_70 rfl (r9 := 43) (hM.2 23 rfl) (hM.1 0 _ rfl) (by decide) ?_
  refine g_aloadG_n hx dX4_makes_14 rfl (nx := 15) rfl rfl ?_
  refine g_getfo_i hx dX4_makes_15 (nx := 18) rfl fa_X4_108 rfl (hM.1 0 _ rfl) (by decide) ?_
  rw [hc, au2_n (by omega), h21]
  refine g_iloadG_n hx dX4_makes_18 rfl (nx := 19) rfl rfl ?_
  refine g_iastore hx dX4_makes_19 (nx := 20) rfl (hM.1 23 _ rfl) (by decide) hin ?_
  refine g_aloadG_n hx dX4_makes_20 rfl (nx := 21) rfl rfl ?_
  refine g_getfo_R hx dX4_makes_21 (nx := 24) rfl fa_X4_73 rfl (r9 := 44) (hM.2 24 rfl) (hM.1 0 _ rfl) (by decide) ?_
  refine g_aloadG_n hx dX4_makes_24 rfl (nx := 25) rfl rfl ?_
  refine g_getfo_i hx dX4_makes_25 (nx := 28) rfl fa_X4_108 rfl (hM.1 0 _ rfl) (by decide) ?_
  rw [hc, au2_n (by omega), au2_n (by omega), h21]
  refine g_iloadG_n hx dX4_makes_28 rfl (nx := 29) rfl rfl ?_
  refine g_iastore hx dX4_makes_29 (nx := 30) rfl (hM.1 24 _ rfl) (by decide) hin ?_
  refine g_aloadG_n hx dX4_makes_30 rfl (nx := 31) rfl rfl ?_
  refine g_getfo_R hx dX4_makes_31 (nx := 34) rfl fa_X4_85 rfl (r9 := 48) (hM.2 28 rfl) (hM.1 0 _ rfl) (by decide) ?_
  refine g_aloadG_n hx dX4_makes_34 rfl (nx := 35) rfl rfl ?_
  refine g_getfo_i hx dX4_makes_35 (nx := 38) rfl fa_X4_108 rfl (hM.1 0 _ rfl) (by decide) ?_
  rw [hc, au2_n (by omega), au2_n (by omega), au2_n (by omega), h21]
  refine g_iconst hx dX4_makes_38 (nx := 39) rfl (v := (-1)) (by decide) ?_
  refine g_iastore hx dX4_makes_39 (nx := 40) rfl (hM.1 28 _ rfl) (by decide) hin ?_
  refine g_aloadG_n hx dX4_makes_40 rfl (nx := 41) rfl rfl ?_
  refine g_getfo_R hx dX4_makes_41 (nx := 44) rfl fa_X4_88 rfl (r9 := 49) (hM.2 29 rfl) (hM.1 0 _ rfl) (by decide) ?_
  refine g_aloadG_n hx dX4_makes_44 rfl (nx := 45) rfl rfl ?_
  refine g_getfo_i hx dX4_makes_45 (nx := 48) rfl fa_X4_108 rfl (hM.1 0 _ rfl) (by decide) ?_
  rw [hc, au2_n (by omega), au2_n (by omega), au2_n (by omega), au2_n (by omega), h21]
  refine g_lconst hx dX4_makes_48 (nx := 49) rfl (v := 0) (by decide) ?_
  refine g_lastore hx dX4_makes_49 (nx := 50) rfl (hM.1 29 _ rfl) (by decide) hin ?_
  refine g_aloadG_n hx dX4_makes_50 rfl (nx := 51) rfl rfl ?_
  refine g_getfo_R hx dX4_makes_51 (nx := 54) rfl fa_X4_91 rfl (r9 := 50) (hM.2 30 rfl) (hM.1 0 _ rfl) (by decide) ?_
  refine g_aloadG_n hx dX4_makes_54 rfl (nx := 55) rfl rfl ?_
  refine g_getfo_i hx dX4_makes_55 (nx := 58) rfl fa_X4_108 rfl (hM.1 0 _ rfl) (by decide) ?_
  rw [hc, au2_n (by omega), au2_n (by omega), au2_n (by omega), au2_n (by omega), h21]
  refine g_iconst hx dX4_makes_58 (nx := 59) rfl (v := 1) (by decide) ?_
  refine g_bastore hx dX4_makes_59 (nx := 60) rfl (hM.1 30 _ rfl) (by decide) hin rfl ?_
  refine g_aloadG_n hx dX4_makes_60 rfl (nx := 61) rfl rfl ?_
  refine g_dup hx dX4_makes_61 (nx := 62) rfl rfl ?_
  refine g_getfo_i hx dX4_makes_62 (nx := 65) rfl fa_X4_108 rfl (hM.1 0 _ rfl) (by decide) ?_
  rw [hc, au2_n (by omega), au2_n (by omega), au2_n (by omega), au2_n (by omega), au2_n (by omega), h21]
  refine g_iconst hx dX4_makes_65 (nx := 66) rfl (v := 1) (by decide) ?_
  refine g_iadd hx dX4_makes_66 (nx := 67) rfl ?_
  rw [← nI_succ]
  refine g_putfo_i hx dX4_makes_67 (nx := 70) rfl fa_X4_108 rfl rfl rfl (fun r h => by cases h; rfl) (hM.1 0 _ rfl) (by decide) ?_
  refine g_aloadG_n hx dX4_makes_70 rfl (nx := 71) rfl rfl ?_
  refine g_getfo_i hx dX4_makes_71 (nx := 74) rfl fa_X4_108 rfl (hM.1 0 _ rfl) (by decide) ?_
  refine g_iconst hx dX4_makes_74 (nx := 75) rfl (v := 1) (by decide) ?_
  refine g_isub hx dX4_makes_75 (nx := 76) rfl ?_
  refine g_iret hx dX4_makes_76 rfl rfl (Nat.le_of_ble_eq_true rfl) (Nat.le_of_ble_eq_true rfl) ?_
  rw [au2_s, nI_pred]
  exact hk

abbrev rmX4_claimTone : Room := { frames := 5, cells := 0, slots := 0, locals := 121 }
set_option maxHeartbeats 4000000 in
set_option maxRecDepth 100000 in
theorem s_X4_claimTone {l : Launch} {E : aE} {S : aS} {I : aI} {L : aL} {Rf : aR} {Kr : aK} {Kx : aX} (hst : l.stackTraces = false) {n nc : Nat} {x y w : Int32} {q : Nat → Nat → Bool} {V : Nat → Nat → Int64} {ff : Nat → Nat → Int32} {oo : Nat → Nat} (hM : lyM S Rf) (h4 : I 20 4 = nI n) (hn6 : n ≤ 6) (h21 : I 20 21 = nI nc) (hn40 : nc ≤ 40) (hT : tbM I) (hl : okM I n q V ff oo) (hf1 : ¬ (inN x n ∧ inN y 3) → Kr (some (.int 0)) S (au2 I 20 31 1) L Rf) (hf2 : ∀ k j, k < n → j < 3 → x = nI k → y = nI j → ¬ (nc < 40 ∧ rgN w 1 30 ∧ pkQ (I 20 14) (q k) (wtM q V ff k (nI j) (oo k)) w) → ∀ I' L', eM I' (au2 I 20 31 2) → eL L' L → Kr (some (.int 0)) S I' L' Rf) (hk : ∀ k j, k < n → j < 3 → x = nI k → y = nI j → (nc < 40 ∧ rgN w 1 30 ∧ pkQ (I 20 14) (q k) (wtM q V ff k (nI j) (oo k)) w) → ∀ I' L', newM nc I L I' L' 0 (nI k) w (nI j) (nI (oo k)) (pw (q k) (wtM q V ff k (nI j) (oo k)) w) (-1) 0 → Kr (some (.int (nI nc))) S I' L' Rf) : aMet l E yX4_claimTone cX4_claimTone 6 (some .int) rmX4_claimTone [.ref 20, .int x, .int y, .int w] (S) (I) (L) (Rf) Kr Kx := by
  refine aMet.of (lv0 := [.ref 20, .int x, .int y, .int w, aU, aU]) (z := 2) (by decide +kernel) hst rfl (Nat.le_of_ble_eq_true rfl) ?_
  intro p e s m args below meth c io0 hx hin hno
  have hx : aCx p l s m args meth c RX4 cX4_claimTone 6 (some .int) E := hx
  refine g_aloadG_n hx dX4_claimTone_0 rfl (nx := 1) rfl rfl ?_
  refine g_iloadG_n hx dX4_claimTone_1 rfl (nx := 2) rfl rfl ?_
  refine g_callV_M hx [_] (k' := 0) (n' := 0) dX4_claimTone_2 (nx := 5) rfl lk_X4_119 (hM.1 0 _ rfl) (by decide) rfl rfl (Nat.le_of_ble_eq_true rfl) (Nat.le_of_ble_eq_true rfl) (Nat.le_of_ble_eq_true rfl) (Nat.le_of_ble_eq_true rfl) (Nat.le_of_ble_eq_true rfl) (Nat.le_of_ble_eq_true rfl) (Nat.le_of_ble_eq_true rfl) (s_X4_isStar (n := n) hst hM h4 (by omega) (fun k hk9 ek => ?_) (fun qs => ?_))
  · subst ek
    have hkc : (nI k).toNatClampNeg = k := nI_clamp (by omega)
    have hin6 : vp_in (nI k) 6 := vp_in_nI (by omega) (by decide)
    refine g_if_eq hx dX4_claimTone_5 (tg := 19) (by decide) (nx := 8) rfl (fun c5 => ?_) (fun c5 => ?_)
    · exact absurd c5 (by decide)
    · refine g_iloadG_n hx dX4_claimTone_8 rfl (nx := 9) rfl rfl ?_
      refine g_callS_M hx [_] (k' := 0) (n' := 0) dX4_claimTone_9 (nx := 12) rfl lk_X4_163 rfl (Nat.le_of_ble_eq_true rfl) (Nat.le_of_ble_eq_true rfl) (Nat.le_of_ble_eq_true rfl) (Nat.le_of_ble_eq_true rfl) (Nat.le_of_ble_eq_true rfl) (Nat.le_of_ble_eq_true rfl) (Nat.le_of_ble_eq_true rfl) (s_X4_isFilter hst (fun j hj9 ej => ?_) (fun qj => ?_))
      · subst ej
        refine g_if_eq hx dX4_claimTone_12 (tg := 19) (by decide) (nx := 15) rfl (fun c12 => ?_) (fun c12 => ?_)
        · exact absurd c12 (by decide)
        · refine g_iconst hx dX4_claimTone_15 (nx := 16) rfl (v := 1) (by decide) ?_
          refine g_goto hx dX4_claimTone_16 (tg := 20) (by decide) ?_
          refine g_istore_4 hx dX4_claimTone_20 (nx := 22) rfl (by decide) rfl ?_
          refine g_aloadG_n hx dX4_claimTone_22 rfl (nx := 23) rfl rfl ?_
          refine g_iloadG hx dX4_claimTone_23 (nx := 25) rfl rfl ?_
          refine g_if_ne hx dX4_claimTone_25 (tg := 32) (by decide) (nx := 28) rfl (fun c25 => ?_) (fun c25 => ?_)
          · refine g_aloadG_n hx dX4_claimTone_32 rfl (nx := 33) rfl rfl ?_
            refine g_getfo_i hx dX4_claimTone_33 (nx := 36) rfl fa_X4_108 rfl (hM.1 0 _ rfl) (by decide) ?_
            refine g_bipush hx dX4_claimTone_36 (nx := 38) rfl (v := 40) (by decide) ?_
            refine g_icmp_ge hx dX4_claimTone_38 (tg := 55) (by decide) (nx := 41) rfl (fun c38 => ?_) (fun c38 => ?_)
            · refine g_iconst hx dX4_claimTone_55 (nx := 56) rfl (v := 2) (by decide) ?_
              refine g_callV_M hx [_] (k' := 0) (n' := 0) dX4_claimTone_56 (nx := 59) rfl lk_X4_114 (hM.1 0 _ rfl) (by decide) rfl rfl (Nat.le_of_ble_eq_true rfl) (Nat.le_of_ble_eq_true rfl) (Nat.le_of_ble_eq_true rfl) (Nat.le_of_ble_eq_true rfl) (Nat.le_of_ble_eq_true rfl) (Nat.le_of_ble_eq_true rfl) (Nat.le_of_ble_eq_true rfl) (s_X4_can hst hM (fun z => absurd z (by decide)) (fun _ => ?_))
              refine g_if_ne hx dX4_claimTone_59 (tg := 64) (by decide) (nx := 62) rfl (fun c59 => ?_) (fun c59 => ?_)
              · exact absurd c59 (by decide)
              · refine g_iconst hx dX4_claimTone_62 (nx := 63) rfl (v := 0) (by decide) ?_
                refine g_iret hx dX4_claimTone_63 rfl rfl (Nat.le_of_ble_eq_true rfl) (Nat.le_of_ble_eq_true rfl) ?_
                first
                  | exact hf1 (fun z => qs z.1)
                  | exact hf1 (fun z => qj z.2)
                  | exact hf2 k j hk9 hj9 rfl rfl (fun z => absurd ((nI_leI (a := 40) (b := nc) (by decide) (by omega)).mp (by rw [← h21]; exact c38)) (by omega)) _ L (eM.refl _) (eL.refl L)
                  | exact hf2 k j hk9 hj9 rfl rfl (fun z => q3 z.2) _ L1 e1.au e2
                  | (rw [hc]
                     have hd : ∀ a b, ¬ (a = 20 ∧ (b = 18 ∨ b = 21 ∨ b = 31)) → a ≠ 40 → ¬ (b = nc ∧ (a = 45 ∨ a = 46)) → I2 a b = mkI (au2 I1 20 31 0) nc 0 (nI k) w a b := fun a b z1 z2 z3 => by rw [e3 a b (by omega) z2, au2_n (by omega), au2_n (by omega)]
                     refine hk k j hk9 hj9 rfl rfl ⟨hlt, q1, q2⟩ I2 _ ⟨fun a b z1 z2 z3 => ?_, fun a b z1 z2 => ?_, ?_, ?_, ?_, ?_, ?_, fun _ => ⟨?_, ?_, au2_s _ _ _ _⟩, ?_, ?_, ?_⟩
                     · rw [hd a b z1 z2 (by omega), mkI_n (by omega) (by omega), au2_n (by omega), e1 a b (by omega) z2]
                     · rw [au2_n (by omega), e4 a b z1, au2_n (by omega), e2 a b z1]
                     · rw [e3 _ _ (by omega) (by decide), au2_n (by omega), au2_n (by omega), mkI_21]
                     · rw [e3 _ _ (by omega) (by decide), au2_n (by omega), au2_n (by omega), mkI_n (by omega) (by omega), au2_s]
                     · rw [hd _ _ (by omega) (by decide) (by omega), mkI_42]
                     · rw [hd _ _ (by omega) (by decide) (by omega), mkI_43]
                     · rw [hd _ _ (by omega) (by decide) (by omega), mkI_44]
                     · rw [e3 _ _ (by omega) (by decide), au2_n (by omega), au2_s]
                     · rw [e3 _ _ (by omega) (by decide), au2_s]
                     · rw [hd _ _ (by omega) (by decide) (by omega), mkI_48]
                     · rw [au2_n (by omega), e4 _ _ (by decide), au2_s]
                     · rw [hd _ _ (by omega) (by decide) (by omega), mkI_50])
            · have hlt : nc < 40 := (nI_ltI (by omega) (by decide)).mp (by rw [← h21]; exact Int32.not_le.mp c38)
              refine g_aloadG_n hx dX4_claimTone_41 rfl (nx := 42) rfl rfl ?_
              refine g_iloadG_n hx dX4_claimTone_42 rfl (nx := 43) rfl rfl ?_
              refine g_iloadG_n hx dX4_claimTone_43 rfl (nx := 44) rfl rfl ?_
              refine g_iloadG_n hx dX4_claimTone_44 rfl (nx := 45) rfl rfl ?_
              refine g_callV_M hx [_, _, _] (k' := 0) (n' := 0) dX4_claimTone_45 (nx := 48) rfl lk_X4_180 (hM.1 0 _ rfl) (by decide) rfl rfl (Nat.le_of_ble_eq_true rfl) (Nat.le_of_ble_eq_true rfl) (Nat.le_of_ble_eq_true rfl) (Nat.le_of_ble_eq_true rfl) (Nat.le_of_ble_eq_true rfl) (Nat.le_of_ble_eq_true rfl) (Nat.le_of_ble_eq_true rfl) (s_X4_peaks (q := q k) (V := V k) (ff := ff k) (m9 := oo k) hst hM hT (by omega) (hl k hk9).1 (hl k hk9).2.2 (hl k hk9).2.1 (f3_of hj9) (fun q1 q2 I1 L1 e1 e2 => ?_) (fun q3 I1 L1 e1 e2 => ?_))
              · refine g_if_eq hx dX4_claimTone_48 (tg := 55) (by decide) (nx := 51) rfl (fun c48 => ?_) (fun c48 => ?_)
                · exact absurd c48 (by decide)
                · refine g_iconst hx dX4_claimTone_51 (nx := 52) rfl (v := 0) (by decide) ?_
                  refine g_goto hx dX4_claimTone_52 (tg := 56) (by decide) ?_
                  refine g_callV_M hx [_] (k' := 0) (n' := 0) dX4_claimTone_56 (nx := 59) rfl lk_X4_114 (hM.1 0 _ rfl) (by decide) rfl rfl (Nat.le_of_ble_eq_true rfl) (Nat.le_of_ble_eq_true rfl) (Nat.le_of_ble_eq_true rfl) (Nat.le_of_ble_eq_true rfl) (Nat.le_of_ble_eq_true rfl) (Nat.le_of_ble_eq_true rfl) (Nat.le_of_ble_eq_true rfl) (s_X4_can hst hM (fun _ => ?_) (fun z => absurd rfl z))
                  refine g_if_ne hx dX4_claimTone_59 (tg := 64) (by decide) (nx := 62) rfl (fun c59 => ?_) (fun c59 => ?_)
                  · refine g_aloadG_n hx dX4_claimTone_64 rfl (nx := 65) rfl rfl ?_
                    refine g_iconst hx dX4_claimTone_65 (nx := 66) rfl (v := 0) (by decide) ?_
                    refine g_iloadG_n hx dX4_claimTone_66 rfl (nx := 67) rfl rfl ?_
                    refine g_iloadG_n hx dX4_claimTone_67 rfl (nx := 68) rfl rfl ?_
                    refine g_callV_M hx [_, _, _] (k' := 0) (n' := 0) dX4_claimTone_68 (nx := 71) rfl lk_X4_189 (hM.1 0 _ rfl) (by decide) rfl rfl (Nat.le_of_ble_eq_true rfl) (Nat.le_of_ble_eq_true rfl) (Nat.le_of_ble_eq_true rfl) (Nat.le_of_ble_eq_true rfl) (Nat.le_of_ble_eq_true rfl) (Nat.le_of_ble_eq_true rfl) (Nat.le_of_ble_eq_true rfl) (s_X4_makes (nc := nc) hst hM (by rw [au2_n (by omega), e1 _ _ (by omega) (by decide)]; exact h21) hlt ?_)
                    refine g_istore_5 hx dX4_claimTone_71 (nx := 73) rfl (by decide) rfl ?_
                    have hT1 : tbM (mkI (au2 I1 20 31 0) nc 0 (nI k) w) := hT.y (fun b => by rw [mkI_n (by omega) (by omega), au2_n (by omega), e1 _ _ (by omega) (by decide)])
                    have hl1 : okM (mkI (au2 I1 20 31 0) nc 0 (nI k) w) n q V ff oo := hl.x (fun a b z => by rw [mkI_n (by omega) (by omega), au2_n (by omega), e1 _ _ (by omega) (by omega)])
                    have hin : vp_in (nI nc) 40 := vp_in_nI hlt (by decide)
                    have hc : (nI nc).toNatClampNeg = nc := nI_clamp (by omega)
                    obtain ⟨t9, ht1, ht2, ht9⟩ := id q1
                    refine g_aloadG_n hx dX4_claimTone_73 rfl (nx := 74) rfl rfl ?_
                    refine g_getfo_R hx dX4_claimTone_74 (nx := 77) rfl fa_X4_76 rfl (r9 := 45) (hM.2 25 rfl) (hM.1 0 _ rfl) (by decide) ?_
                    refine g_iloadG hx dX4_claimTone_77 (nx := 79) rfl rfl ?_
                    refine g_iloadG_n hx dX4_claimTone_79 rfl (nx := 80) rfl rfl ?_
                    refine g_iastore hx dX4_claimTone_80 (nx := 81) rfl (hM.1 25 _ rfl) (by decide) hin ?_
                    refine g_aloadG_n hx dX4_claimTone_81 rfl (nx := 82) rfl rfl ?_
                    refine g_getfo_R hx dX4_claimTone_82 (nx := 85) rfl fa_X4_79 rfl (r9 := 46) (hM.2 26 rfl) (hM.1 0 _ rfl) (by decide) ?_
                    refine g_iloadG hx dX4_claimTone_85 (nx := 87) rfl rfl ?_
                    refine g_aloadG_n hx dX4_claimTone_87 rfl (nx := 88) rfl rfl ?_
                    refine g_getfo_R hx dX4_claimTone_88 (nx := 91) rfl fa_X4_51 rfl (r9 := 35) (hM.2 15 rfl) (hM.1 0 _ rfl) (by decide) ?_
                    refine g_iloadG_n hx dX4_claimTone_91 rfl (nx := 92) rfl rfl ?_
                    refine g_iaload hx dX4_claimTone_92 (nx := 93) rfl (hM.1 15 _ rfl) (by decide) hin6 ?_
                    rw [hc, hkc, au2_n (by omega), (hl1 k hk9).2.1]
                    refine g_iastore hx dX4_claimTone_93 (nx := 94) rfl (hM.1 26 _ rfl) (by decide) hin ?_
                    refine g_aloadG_n hx dX4_claimTone_94 rfl (nx := 95) rfl rfl ?_
                    refine g_iloadG_n hx dX4_claimTone_95 rfl (nx := 96) rfl rfl ?_
                    refine g_iloadG_n hx dX4_claimTone_96 rfl (nx := 97) rfl rfl ?_
                    refine g_aloadG_n hx dX4_claimTone_97 rfl (nx := 98) rfl rfl ?_
                    refine g_getfo_R hx dX4_claimTone_98 (nx := 101) rfl fa_X4_51 rfl (r9 := 35) (hM.2 15 rfl) (hM.1 0 _ rfl) (by decide) ?_
                    refine g_iloadG_n hx dX4_claimTone_101 rfl (nx := 102) rfl rfl ?_
                    refine g_iaload hx dX4_claimTone_102 (nx := 103) rfl (hM.1 15 _ rfl) (by decide) hin6 ?_
                    rw [hc, hkc, au2_n (by omega), au2_n (by omega), (hl1 k hk9).2.1]
                    refine g_callV_M hx [_, _, _] (k' := 0) (n' := 0) dX4_claimTone_103 (nx := 106) rfl lk_X4_166 (hM.1 0 _ rfl) (by decide) rfl rfl (Nat.le_of_ble_eq_true rfl) (Nat.le_of_ble_eq_true rfl) (Nat.le_of_ble_eq_true rfl) (Nat.le_of_ble_eq_true rfl) (Nat.le_of_ble_eq_true rfl) (Nat.le_of_ble_eq_true rfl) (Nat.le_of_ble_eq_true rfl) (s_X4_laysAll (q := q k) (V := V k) (ff := ff k) (mm := oo k) hst hM (hT1.y (fun b => by rw [au2_n (by omega), au2_n (by omega)])) (by omega) ((hl1 k hk9).1.x (fun a b z => by rw [au2_n (by omega), au2_n (by omega)])) (hl1 k hk9).2.2 (f3_of hj9) (fun I2 L2 e3 e4 r2 => ?_))
                    refine g_aloadG_n hx dX4_claimTone_106 rfl (nx := 107) rfl rfl ?_
                    refine g_getfo_R hx dX4_claimTone_107 (nx := 110) rfl fa_X4_82 rfl (r9 := 47) (hM.2 27 rfl) (hM.1 0 _ rfl) (by decide) ?_
                    refine g_iloadG hx dX4_claimTone_110 (nx := 112) rfl rfl ?_
                    refine g_aloadG_n hx dX4_claimTone_112 rfl (nx := 113) rfl rfl ?_
                    refine g_iloadG_n hx dX4_claimTone_113 rfl (nx := 114) rfl rfl ?_
                    refine g_callV_M hx [_] (k' := 0) (n' := 0) dX4_claimTone_114 (nx := 117) rfl lk_X4_173 (hM.1 0 _ rfl) (by decide) rfl rfl (Nat.le_of_ble_eq_true rfl) (Nat.le_of_ble_eq_true rfl) (Nat.le_of_ble_eq_true rfl) (Nat.le_of_ble_eq_true rfl) (Nat.le_of_ble_eq_true rfl) (Nat.le_of_ble_eq_true rfl) (Nat.le_of_ble_eq_true rfl) (s_X4_powerOf (j := t9) hst hM ((hT1.y (fun b => by rw [e3 _ _ (by omega) (by decide), au2_n (by omega), au2_n (by omega)]))) r2 ht9 (by omega) ?_)
                    refine g_lastore hx dX4_claimTone_117 (nx := 118) rfl (hM.1 27 _ rfl) (by decide) hin ?_
                    refine g_iloadG hx dX4_claimTone_118 (nx := 120) rfl rfl ?_
                    refine g_iret hx dX4_claimTone_120 rfl rfl (Nat.le_of_ble_eq_true rfl) (Nat.le_of_ble_eq_true rfl) ?_
                    first
                      | exact hf1 (fun z => qs z.1)
                      | exact hf1 (fun z => qj z.2)
                      | exact hf2 k j hk9 hj9 rfl rfl (fun z => absurd ((nI_leI (a := 40) (b := nc) (by decide) (by omega)).mp (by rw [← h21]; exact c38)) (by omega)) _ L (eM.refl _) (eL.refl L)
                      | exact hf2 k j hk9 hj9 rfl rfl (fun z => q3 z.2) _ L1 e1.au e2
                      | (rw [hc]
                         have hd : ∀ a b, ¬ (a = 20 ∧ (b = 18 ∨ b = 21 ∨ b = 31)) → a ≠ 40 → ¬ (b = nc ∧ (a = 45 ∨ a = 46)) → I2 a b = mkI (au2 I1 20 31 0) nc 0 (nI k) w a b := fun a b z1 z2 z3 => by rw [e3 a b (by omega) z2, au2_n (by omega), au2_n (by omega)]
                         refine hk k j hk9 hj9 rfl rfl ⟨hlt, q1, q2⟩ I2 _ ⟨fun a b z1 z2 z3 => ?_, fun a b z1 z2 => ?_, ?_, ?_, ?_, ?_, ?_, fun _ => ⟨?_, ?_, au2_s _ _ _ _⟩, ?_, ?_, ?_⟩
                         · rw [hd a b z1 z2 (by omega), mkI_n (by omega) (by omega), au2_n (by omega), e1 a b (by omega) z2]
                         · rw [au2_n (by omega), e4 a b z1, au2_n (by omega), e2 a b z1]
                         · rw [e3 _ _ (by omega) (by decide), au2_n (by omega), au2_n (by omega), mkI_21]
                         · rw [e3 _ _ (by omega) (by decide), au2_n (by omega), au2_n (by omega), mkI_n (by omega) (by omega), au2_s]
                         · rw [hd _ _ (by omega) (by decide) (by omega), mkI_42]
                         · rw [hd _ _ (by omega) (by decide) (by omega), mkI_43]
                         · rw [hd _ _ (by omega) (by decide) (by omega), mkI_44]
                         · rw [e3 _ _ (by omega) (by decide), au2_n (by omega), au2_s]
                         · rw [e3 _ _ (by omega) (by decide), au2_s]
                         · rw [hd _ _ (by omega) (by decide) (by omega), mkI_48]
                         · rw [au2_n (by omega), e4 _ _ (by decide), au2_s]
                         · rw [hd _ _ (by omega) (by decide) (by omega), mkI_50])
                  · exact absurd c59 (by decide)
              · refine g_if_eq hx dX4_claimTone_48 (tg := 55) (by decide) (nx := 51) rfl (fun c48 => ?_) (fun c48 => ?_)
                · refine g_iconst hx dX4_claimTone_55 (nx := 56) rfl (v := 2) (by decide) ?_
                  refine g_callV_M hx [_] (k' := 0) (n' := 0) dX4_claimTone_56 (nx := 59) rfl lk_X4_114 (hM.1 0 _ rfl) (by decide) rfl rfl (Nat.le_of_ble_eq_true rfl) (Nat.le_of_ble_eq_true rfl) (Nat.le_of_ble_eq_true rfl) (Nat.le_of_ble_eq_true rfl) (Nat.le_of_ble_eq_true rfl) (Nat.le_of_ble_eq_true rfl) (Nat.le_of_ble_eq_true rfl) (s_X4_can hst hM (fun z => absurd z (by decide)) (fun _ => ?_))
                  refine g_if_ne hx dX4_claimTone_59 (tg := 64) (by decide) (nx := 62) rfl (fun c59 => ?_) (fun c59 => ?_)
                  · exact absurd c59 (by decide)
                  · refine g_iconst hx dX4_claimTone_62 (nx := 63) rfl (v := 0) (by decide) ?_
                    refine g_iret hx dX4_claimTone_63 rfl rfl (Nat.le_of_ble_eq_true rfl) (Nat.le_of_ble_eq_true rfl) ?_
                    first
                      | exact hf1 (fun z => qs z.1)
                      | exact hf1 (fun z => qj z.2)
                      | exact hf2 k j hk9 hj9 rfl rfl (fun z => absurd ((nI_leI (a := 40) (b := nc) (by decide) (by omega)).mp (by rw [← h21]; exact c38)) (by omega)) _ L (eM.refl _) (eL.refl L)
                      | exact hf2 k j hk9 hj9 rfl rfl (fun z => q3 z.2) _ L1 e1.au e2
                      | (rw [hc]
                         have hd : ∀ a b, ¬ (a = 20 ∧ (b = 18 ∨ b = 21 ∨ b = 31)) → a ≠ 40 → ¬ (b = nc ∧ (a = 45 ∨ a = 46)) → I2 a b = mkI (au2 I1 20 31 0) nc 0 (nI k) w a b := fun a b z1 z2 z3 => by rw [e3 a b (by omega) z2, au2_n (by omega), au2_n (by omega)]
                         refine hk k j hk9 hj9 rfl rfl ⟨hlt, q1, q2⟩ I2 _ ⟨fun a b z1 z2 z3 => ?_, fun a b z1 z2 => ?_, ?_, ?_, ?_, ?_, ?_, fun _ => ⟨?_, ?_, au2_s _ _ _ _⟩, ?_, ?_, ?_⟩
                         · rw [hd a b z1 z2 (by omega), mkI_n (by omega) (by omega), au2_n (by omega), e1 a b (by omega) z2]
                         · rw [au2_n (by omega), e4 a b z1, au2_n (by omega), e2 a b z1]
                         · rw [e3 _ _ (by omega) (by decide), au2_n (by omega), au2_n (by omega), mkI_21]
                         · rw [e3 _ _ (by omega) (by decide), au2_n (by omega), au2_n (by omega), mkI_n (by omega) (by omega), au2_s]
                         · rw [hd _ _ (by omega) (by decide) (by omega), mkI_42]
                         · rw [hd _ _ (by omega) (by decide) (by omega), mkI_43]
                         · rw [hd _ _ (by omega) (by decide) (by omega), mkI_44]
                         · rw [e3 _ _ (by omega) (by decide), au2_n (by omega), au2_s]
                         · rw [e3 _ _ (by omega) (by decide), au2_s]
                         · rw [hd _ _ (by omega) (by decide) (by omega), mkI_48]
                         · rw [au2_n (by omega), e4 _ _ (by decide), au2_s]
                         · rw [hd _ _ (by omega) (by decide) (by omega), mkI_50])
                · exact absurd c48 (by decide)
          · exact absurd c25 (by decide)
      · refine g_if_eq hx dX4_claimTone_12 (tg := 19) (by decide) (nx := 15) rfl (fun c12 => ?_) (fun c12 => ?_)
        · refine g_iconst hx dX4_claimTone_19 (nx := 20) rfl (v := 0) (by decide) ?_
          refine g_istore_4 hx dX4_claimTone_20 (nx := 22) rfl (by decide) rfl ?_
          refine g_aloadG_n hx dX4_claimTone_22 rfl (nx := 23) rfl rfl ?_
          refine g_iloadG hx dX4_claimTone_23 (nx := 25) rfl rfl ?_
          refine g_if_ne hx dX4_claimTone_25 (tg := 32) (by decide) (nx := 28) rfl (fun c25 => ?_) (fun c25 => ?_)
          · exact absurd c25 (by decide)
          · refine g_iconst hx dX4_claimTone_28 (nx := 29) rfl (v := 1) (by decide) ?_
            refine g_goto hx dX4_claimTone_29 (tg := 56) (by decide) ?_
            refine g_callV_M hx [_] (k' := 0) (n' := 0) dX4_claimTone_56 (nx := 59) rfl lk_X4_114 (hM.1 0 _ rfl) (by decide) rfl rfl (Nat.le_of_ble_eq_true rfl) (Nat.le_of_ble_eq_true rfl) (Nat.le_of_ble_eq_true rfl) (Nat.le_of_ble_eq_true rfl) (Nat.le_of_ble_eq_true rfl) (Nat.le_of_ble_eq_true rfl) (Nat.le_of_ble_eq_true rfl) (s_X4_can hst hM (fun z => absurd z (by decide)) (fun _ => ?_))
            refine g_if_ne hx dX4_claimTone_59 (tg := 64) (by decide) (nx := 62) rfl (fun c59 => ?_) (fun c59 => ?_)
            · exact absurd c59 (by decide)
            · refine g_iconst hx dX4_claimTone_62 (nx := 63) rfl (v := 0) (by decide) ?_
              refine g_iret hx dX4_claimTone_63 rfl rfl (Nat.le_of_ble_eq_true rfl) (Nat.le_of_ble_eq_true rfl) ?_
              first
                | exact hf1 (fun z => qs z.1)
                | exact hf1 (fun z => qj z.2)
                | exact hf2 k j hk9 hj9 rfl rfl (fun z => absurd ((nI_leI (a := 40) (b := nc) (by decide) (by omega)).mp (by rw [← h21]; exact c38)) (by omega)) _ L (eM.refl _) (eL.refl L)
                | exact hf2 k j hk9 hj9 rfl rfl (fun z => q3 z.2) _ L1 e1.au e2
                | (rw [hc]
                   have hd : ∀ a b, ¬ (a = 20 ∧ (b = 18 ∨ b = 21 ∨ b = 31)) → a ≠ 40 → ¬ (b = nc ∧ (a = 45 ∨ a = 46)) → I2 a b = mkI (au2 I1 20 31 0) nc 0 (nI k) w a b := fun a b z1 z2 z3 => by rw [e3 a b (by omega) z2, au2_n (by omega), au2_n (by omega)]
                   refine hk k j hk9 hj9 rfl rfl ⟨hlt, q1, q2⟩ I2 _ ⟨fun a b z1 z2 z3 => ?_, fun a b z1 z2 => ?_, ?_, ?_, ?_, ?_, ?_, fun _ => ⟨?_, ?_, au2_s _ _ _ _⟩, ?_, ?_, ?_⟩
                   · rw [hd a b z1 z2 (by omega), mkI_n (by omega) (by omega), au2_n (by omega), e1 a b (by omega) z2]
                   · rw [au2_n (by omega), e4 a b z1, au2_n (by omega), e2 a b z1]
                   · rw [e3 _ _ (by omega) (by decide), au2_n (by omega), au2_n (by omega), mkI_21]
                   · rw [e3 _ _ (by omega) (by decide), au2_n (by omega), au2_n (by omega), mkI_n (by omega) (by omega), au2_s]
                   · rw [hd _ _ (by omega) (by decide) (by omega), mkI_42]
                   · rw [hd _ _ (by omega) (by decide) (by omega), mkI_43]
                   · rw [hd _ _ (by omega) (by decide) (by omega), mkI_44]
                   · rw [e3 _ _ (by omega) (by decide), au2_n (by omega), au2_s]
                   · rw [e3 _ _ (by omega) (by decide), au2_s]
                   · rw [hd _ _ (by omega) (by decide) (by omega), mkI_48]
                   · rw [au2_n (by omega), e4 _ _ (by decide), au2_s]
                   · rw [hd _ _ (by omega) (by decide) (by omega), mkI_50])
        · exact absurd c12 (by decide)
  · refine g_if_eq hx dX4_claimTone_5 (tg := 19) (by decide) (nx := 8) rfl (fun c5 => ?_) (fun c5 => ?_)
    · refine g_iconst hx dX4_claimTone_19 (nx := 20) rfl (v := 0) (by decide) ?_
      refine g_istore_4 hx dX4_claimTone_20 (nx := 22) rfl (by decide) rfl ?_
      refine g_aloadG_n hx dX4_claimTone_22 rfl (nx := 23) rfl rfl ?_
      refine g_iloadG hx dX4_claimTone_23 (nx := 25) rfl rfl ?_
      refine g_if_ne hx dX4_claimTone_25 (tg := 32) (by decide) (nx := 28) rfl (fun c25 => ?_) (fun c25 => ?_)
      · exact absurd c25 (by decide)
      · refine g_iconst hx dX4_claimTone_28 (nx := 29) rfl (v := 1) (by decide) ?_
        refine g_goto hx dX4_claimTone_29 (tg := 56) (by decide) ?_
        refine g_callV_M hx [_] (k' := 0) (n' := 0) dX4_claimTone_56 (nx := 59) rfl lk_X4_114 (hM.1 0 _ rfl) (by decide) rfl rfl (Nat.le_of_ble_eq_true rfl) (Nat.le_of_ble_eq_true rfl) (Nat.le_of_ble_eq_true rfl) (Nat.le_of_ble_eq_true rfl) (Nat.le_of_ble_eq_true rfl) (Nat.le_of_ble_eq_true rfl) (Nat.le_of_ble_eq_true rfl) (s_X4_can hst hM (fun z => absurd z (by decide)) (fun _ => ?_))
        refine g_if_ne hx dX4_claimTone_59 (tg := 64) (by decide) (nx := 62) rfl (fun c59 => ?_) (fun c59 => ?_)
        · exact absurd c59 (by decide)
        · refine g_iconst hx dX4_claimTone_62 (nx := 63) rfl (v := 0) (by decide) ?_
          refine g_iret hx dX4_claimTone_63 rfl rfl (Nat.le_of_ble_eq_true rfl) (Nat.le_of_ble_eq_true rfl) ?_
          first
            | exact hf1 (fun z => qs z.1)
            | exact hf1 (fun z => qj z.2)
            | exact hf2 k j hk9 hj9 rfl rfl (fun z => absurd ((nI_leI (a := 40) (b := nc) (by decide) (by omega)).mp (by rw [← h21]; exact c38)) (by omega)) _ L (eM.refl _) (eL.refl L)
            | exact hf2 k j hk9 hj9 rfl rfl (fun z => q3 z.2) _ L1 e1.au e2
            | (rw [hc]
               have hd : ∀ a b, ¬ (a = 20 ∧ (b = 18 ∨ b = 21 ∨ b = 31)) → a ≠ 40 → ¬ (b = nc ∧ (a = 45 ∨ a = 46)) → I2 a b = mkI (au2 I1 20 31 0) nc 0 (nI k) w a b := fun a b z1 z2 z3 => by rw [e3 a b (by omega) z2, au2_n (by omega), au2_n (by omega)]
               refine hk k j hk9 hj9 rfl rfl ⟨hlt, q1, q2⟩ I2 _ ⟨fun a b z1 z2 z3 => ?_, fun a b z1 z2 => ?_, ?_, ?_, ?_, ?_, ?_, fun _ => ⟨?_, ?_, au2_s _ _ _ _⟩, ?_, ?_, ?_⟩
               · rw [hd a b z1 z2 (by omega), mkI_n (by omega) (by omega), au2_n (by omega), e1 a b (by omega) z2]
               · rw [au2_n (by omega), e4 a b z1, au2_n (by omega), e2 a b z1]
               · rw [e3 _ _ (by omega) (by decide), au2_n (by omega), au2_n (by omega), mkI_21]
               · rw [e3 _ _ (by omega) (by decide), au2_n (by omega), au2_n (by omega), mkI_n (by omega) (by omega), au2_s]
               · rw [hd _ _ (by omega) (by decide) (by omega), mkI_42]
               · rw [hd _ _ (by omega) (by decide) (by omega), mkI_43]
               · rw [hd _ _ (by omega) (by decide) (by omega), mkI_44]
               · rw [e3 _ _ (by omega) (by decide), au2_n (by omega), au2_s]
               · rw [e3 _ _ (by omega) (by decide), au2_s]
               · rw [hd _ _ (by omega) (by decide) (by omega), mkI_48]
               · rw [au2_n (by omega), e4 _ _ (by decide), au2_s]
               · rw [hd _ _ (by omega) (by decide) (by omega), mkI_50])
    · exact absurd c5 (by decide)

def bsM (la : Nat → Int32) (y : Int32) : Nat → Nat
  | 0 => 0
  | k + 1 => if k = 0 then 0 else if szL (y - la k).toInt64 < szL (y - la (bsM la y k)).toInt64 then k else bsM la y k
theorem bsM_lt (la : Nat → Int32) (y : Int32) : ∀ k, 0 < k → bsM la y k < k := by
  intro k
  induction k with
  | zero => intro h; omega
  | succ k ih =>
    intro _
    rw [bsM]
    split
    · omega
    · split
      · omega
      · have := ih (by omega); omega
abbrev rmX4_ageBy : Room := { frames := 1, cells := 0, slots := 0, locals := 21 }
set_option maxHeartbeats 4000000 in
set_option maxRecDepth 100000 in
theorem s_X4_ageBy {l : Launch} {E : aE} {S : aS} {I : aI} {L : aL} {Rf : aR} {Kr : aK} {Kx : aX} (hst : l.stackTraces = false) {n : Nat} {x : Int32} (hM : lyM S Rf) (h4 : I 20 4 = nI n) (hn6 : n ≤ 6) (hn0 : 0 < n) (hk : Kr (some (.int (I 25 (bsM (fun k => I 27 k) (40000 * x) n)))) S I L Rf) : aMet l E yX4_ageBy cX4_ageBy 4 (some .int) rmX4_ageBy [.ref 20, .int x] (S) (I) (L) (Rf) Kr Kx := by
  refine aMet.of (lv0 := [.ref 20, .int x, aU, aU]) (z := 2) (by decide +kernel) hst rfl (Nat.le_of_ble_eq_true rfl) ?_
  intro p e s m args below meth c io0 hx hin hno
  have hx : aCx p l s m args meth c RX4 cX4_ageBy 4 (some .int) E := hx
  obtain ⟨y, hy⟩ : ∃ y, y = 40000 * x := ⟨_, rfl⟩
  rw [← hy] at hk
  have loop1 : ∀ (r i : Nat) , i + r = n - 1 → aG p l e rmX4_ageBy s m args below meth c E io0 S 4 (vx_MQ below (aQc E io0 S Kr) (aXC E io0 S Kx) args s rmX4_ageBy.cells rmX4_ageBy.slots (aW E)) 4 [.ref 20, .int x, .int (nI (bsM (fun k => I 27 k) y (i + 1))), .int (nI (i + 1))] [] (S) (I) (L) (Rf) 0 0 := by
    intro r
    induction r with
    | zero =>
      intro i hi
      have hi : i = n - 1 := by omega
      have hni : i + 1 = n := by omega
      refine g_iloadG_n hx dX4_ageBy_4 rfl (nx := 5) rfl rfl ?_
      refine g_aloadG_n hx dX4_ageBy_5 rfl (nx := 6) rfl rfl ?_
      refine g_getfo_i hx dX4_ageBy_6 (nx := 9) rfl fa_X4_101 rfl (hM.1 0 _ rfl) (by decide) ?_
      refine g_icmp_ge hx dX4_ageBy_9 (tg := 58) (by decide) (nx := 12) rfl (fun c9 => ?_) (fun c9 => ?_)
      · rw [hni]
        have hb0 := bsM_lt (fun k => I 27 k) y n (by omega)
        refine g_aloadG_n hx dX4_ageBy_58 rfl (nx := 59) rfl rfl ?_
        refine g_getfo_R hx dX4_ageBy_59 (nx := 62) rfl fa_X4_19 rfl (r9 := 25) (hM.2 5 rfl) (hM.1 0 _ rfl) (by decide) ?_
        refine g_iloadG_n hx dX4_ageBy_62 rfl (nx := 63) rfl rfl ?_
        refine g_iaload hx dX4_ageBy_63 (nx := 64) rfl (hM.1 5 _ rfl) (by decide) (vp_in_nI (by omega) (by decide)) ?_
        refine g_iret hx dX4_ageBy_64 rfl rfl (Nat.le_of_ble_eq_true rfl) (Nat.le_of_ble_eq_true rfl) ?_
        rw [nI_clamp (by omega)]; exact hk
      · exact absurd (by rw [h4, hni]; exact Int32.le_refl _) c9
    | succ r ih =>
      intro i hi
      have hn : (nI (i + 1)).toNatClampNeg = i + 1 := nI_clamp (by omega)
      have hb9 := bsM_lt (fun k => I 27 k) y (i + 1) (by omega)
      have hbc : (nI (bsM (fun k => I 27 k) y (i + 1))).toNatClampNeg = bsM (fun k => I 27 k) y (i + 1) := nI_clamp (by omega)
      refine g_iloadG_n hx dX4_ageBy_4 rfl (nx := 5) rfl rfl ?_
      refine g_aloadG_n hx dX4_ageBy_5 rfl (nx := 6) rfl rfl ?_
      refine g_getfo_i hx dX4_ageBy_6 (nx := 9) rfl fa_X4_101 rfl (hM.1 0 _ rfl) (by decide) ?_
      refine g_icmp_ge hx dX4_ageBy_9 (tg := 58) (by decide) (nx := 12) rfl (fun c9 => ?_) (fun c9 => ?_)
      · exact absurd c9 (by rw [h4]; exact nI_ge (by omega) (by omega))
      · refine g_ldc hx dX4_ageBy_12 (nx := 14) rfl kc_X4_193 ?_
        refine g_iloadG_n hx dX4_ageBy_14 rfl (nx := 15) rfl rfl ?_
        refine g_imul hx dX4_ageBy_15 (nx := 16) rfl ?_
        refine g_aloadG_n hx dX4_ageBy_16 rfl (nx := 17) rfl rfl ?_
        refine g_getfo_R hx dX4_ageBy_17 (nx := 20) rfl fa_X4_25 rfl (r9 := 27) (hM.2 7 rfl) (hM.1 0 _ rfl) (by decide) ?_
        refine g_iloadG_n hx dX4_ageBy_20 rfl (nx := 21) rfl rfl ?_
        refine g_iaload hx dX4_ageBy_21 (nx := 22) rfl (hM.1 7 _ rfl) (by decide) (vp_in_nI (by omega) (by decide)) ?_
        refine g_isub hx dX4_ageBy_22 (nx := 23) rfl ?_
        refine g_i2l hx dX4_ageBy_23 (nx := 24) rfl ?_
        refine g_callS_M hx [_] (k' := 0) (n' := 0) dX4_ageBy_24 (nx := 27) rfl lk_X4_194 rfl (Nat.le_of_ble_eq_true rfl) (Nat.le_of_ble_eq_true rfl) (Nat.le_of_ble_eq_true rfl) (Nat.le_of_ble_eq_true rfl) (Nat.le_of_ble_eq_true rfl) (Nat.le_of_ble_eq_true rfl) (Nat.le_of_ble_eq_true rfl) (s_X4_size hst ?_)
        refine g_ldc hx dX4_ageBy_27 (nx := 29) rfl kc_X4_193 ?_
        refine g_iloadG_n hx dX4_ageBy_29 rfl (nx := 30) rfl rfl ?_
        refine g_imul hx dX4_ageBy_30 (nx := 31) rfl ?_
        refine g_aloadG_n hx dX4_ageBy_31 rfl (nx := 32) rfl rfl ?_
        refine g_getfo_R hx dX4_ageBy_32 (nx := 35) rfl fa_X4_25 rfl (r9 := 27) (hM.2 7 rfl) (hM.1 0 _ rfl) (by decide) ?_
        refine g_iloadG_n hx dX4_ageBy_35 rfl (nx := 36) rfl rfl ?_
        refine g_iaload hx dX4_ageBy_36 (nx := 37) rfl (hM.1 7 _ rfl) (by decide) (vp_in_nI (by omega) (by decide)) ?_
        refine g_isub hx dX4_ageBy_37 (nx := 38) rfl ?_
        refine g_i2l hx dX4_ageBy_38 (nx := 39) rfl ?_
        refine g_callS_M hx [_] (k' := 0) (n' := 0) dX4_ageBy_39 (nx := 42) rfl lk_X4_194 rfl (Nat.le_of_ble_eq_true rfl) (Nat.le_of_ble_eq_true rfl) (Nat.le_of_ble_eq_true rfl) (Nat.le_of_ble_eq_true rfl) (Nat.le_of_ble_eq_true rfl) (Nat.le_of_ble_eq_true rfl) (Nat.le_of_ble_eq_true rfl) (s_X4_size hst ?_)
        refine g_lcmp hx dX4_ageBy_42 (nx := 43) rfl ?_
        rw [hn, hbc, ← hy]
        have hcl := lg_cmp_lt (szL (y - I 27 (i + 1)).toInt64) (szL (y - I 27 (bsM (fun k => I 27 k) y (i + 1))).toInt64)
        refine g_if_ge hx dX4_ageBy_43 (tg := 50) (by decide) (nx := 46) rfl (fun c43 => ?_) (fun c43 => ?_)
        · have c43 := mt hcl.mpr (Int32.not_lt.mpr c43)
          refine g_iloadG_n hx dX4_ageBy_50 rfl (nx := 51) rfl rfl ?_
          refine g_istore_2 hx dX4_ageBy_51 (nx := 52) rfl (by decide) rfl ?_
          refine g_iinc_3 hx dX4_ageBy_52 (nx := 55) rfl (by decide) (v := 1) (by decide) rfl ?_
          refine g_goto hx dX4_ageBy_55 (tg := 4) (by decide) ?_
          rw [← nI_succ]
          have K := ih (i + 1) (by omega)
          first
            | (rw [show bsM (fun k => I 27 k) y (i + 1 + 1) = i + 1 from (if_neg (Nat.succ_ne_zero i)).trans (if_pos c43)] at K; exact K)
            | (rw [show bsM (fun k => I 27 k) y (i + 1 + 1) = bsM (fun k => I 27 k) y (i + 1) from (if_neg (Nat.succ_ne_zero i)).trans (if_neg c43)] at K; exact K)
        · have c43 := hcl.mp (Int32.not_le.mp c43)
          refine g_iloadG_n hx dX4_ageBy_46 rfl (nx := 47) rfl rfl ?_
          refine g_goto hx dX4_ageBy_47 (tg := 51) (by decide) ?_
          refine g_istore_2 hx dX4_ageBy_51 (nx := 52) rfl (by decide) rfl ?_
          refine g_iinc_3 hx dX4_ageBy_52 (nx := 55) rfl (by decide) (v := 1) (by decide) rfl ?_
          refine g_goto hx dX4_ageBy_55 (tg := 4) (by decide) ?_
          rw [← nI_succ]
          have K := ih (i + 1) (by omega)
          first
            | (rw [show bsM (fun k => I 27 k) y (i + 1 + 1) = i + 1 from (if_neg (Nat.succ_ne_zero i)).trans (if_pos c43)] at K; exact K)
            | (rw [show bsM (fun k => I 27 k) y (i + 1 + 1) = bsM (fun k => I 27 k) y (i + 1) from (if_neg (Nat.succ_ne_zero i)).trans (if_neg c43)] at K; exact K)
  refine g_iconst hx dX4_ageBy_0 (nx := 1) rfl (v := 0) (by decide) ?_
  refine g_istore_2 hx dX4_ageBy_1 (nx := 2) rfl (by decide) rfl ?_
  refine g_iconst hx dX4_ageBy_2 (nx := 3) rfl (v := 1) (by decide) ?_
  refine g_istore_3 hx dX4_ageBy_3 (nx := 4) rfl (by decide) rfl ?_
  exact loop1 (n - 1) 0 (Nat.zero_add _)

abbrev rmX4_claimAge : Room := { frames := 2, cells := 0, slots := 0, locals := 44 }
set_option maxHeartbeats 4000000 in
set_option maxRecDepth 100000 in
theorem s_X4_claimAge {l : Launch} {E : aE} {S : aS} {I : aI} {L : aL} {Rf : aR} {Kr : aK} {Kx : aX} (hst : l.stackTraces = false) {n nc : Nat} {ln : Nat → Nat} {x y : Int32} (hM : lyM S Rf) (h4 : I 20 4 = nI n) (hn6 : n ≤ 6) (hn0 : 0 < nc → 0 < n) (h21 : I 20 21 = nI nc) (hn40 : nc ≤ 40) (hln : ∀ i, i < nc → I 44 i = nI (ln i) ∧ ln i < 32) (hf1 : ¬ (inN x nc ∧ inN y nc) → Kr (some (.int 0)) S (au2 I 20 31 1) L Rf) (hf2 : ∀ i j, i < nc → j < nc → x = nI i → y = nI j → ¬ (I 42 i = 0 ∧ I 42 j = 0 ∧ I 43 i = I 43 j ∧ I 44 i ≠ I 44 j) → Kr (some (.int 0)) S (au2 I 20 31 2) L Rf) (hf3 : ∀ i j, i < nc → j < nc → x = nI i → y = nI j → (I 42 i = 0 ∧ I 42 j = 0 ∧ I 43 i = I 43 j ∧ I 44 i ≠ I 44 j) → ¬ (nc < 40 ∧ I 50 i ≠ 0 ∧ I 50 j ≠ 0) → Kr (some (.int 0)) S (au2 I 20 31 3) L Rf) (hk : ∀ i j, i < nc → j < nc → x = nI i → y = nI j → (I 42 i = 0 ∧ I 42 j = 0 ∧ I 43 i = I 43 j ∧ I 44 i ≠ I 44 j) → nc < 40 → I 50 i ≠ 0 → I 50 j ≠ 0 → ∀ I' L', newM nc I L I' L' 1 (I 43 i) (I 44 i) 0 0 0 (I 25 (bsM (fun k => I 27 k) (40000 * iabs (I 44 i - I 44 j)) n)) (bitL (nI i) ||| bitL (nI j)) → Kr (some (.int (nI nc))) S I' L' Rf) : aMet l E yX4_claimAge cX4_claimAge 6 (some .int) rmX4_claimAge [.ref 20, .int x, .int y] (S) (I) (L) (Rf) Kr Kx := by
  refine aMet.of (lv0 := [.ref 20, .int x, .int y, aU, aU, aU]) (z := 3) (by decide +kernel) hst rfl (Nat.le_of_ble_eq_true rfl) ?_
  intro p e s m args below meth c io0 hx hin hno
  have hx : aCx p l s m args meth c RX4 cX4_claimAge 6 (some .int) E := hx
  refine g_aloadG_n hx dX4_claimAge_0 rfl (nx := 1) rfl rfl ?_
  refine g_iloadG_n hx dX4_claimAge_1 rfl (nx := 2) rfl rfl ?_
  refine g_callV_M hx [_] (k' := 0) (n' := 0) dX4_claimAge_2 (nx := 5) rfl lk_X4_198 (hM.1 0 _ rfl) (by decide) rfl rfl (Nat.le_of_ble_eq_true rfl) (Nat.le_of_ble_eq_true rfl) (Nat.le_of_ble_eq_true rfl) (Nat.le_of_ble_eq_true rfl) (Nat.le_of_ble_eq_true rfl) (Nat.le_of_ble_eq_true rfl) (Nat.le_of_ble_eq_true rfl) (s_X4_isClaim (nc := nc) hst hM h21 hn40 (fun i ih ei => ?_) (fun qi => ?_))
  · subst ei
    have ic : (nI i).toNatClampNeg = i := nI_clamp (by omega)
    have iw9 : vp_in (nI i) 40 := vp_in_nI (by omega) (by decide)
    refine g_if_eq hx dX4_claimAge_5 (tg := 20) (by decide) (nx := 8) rfl (fun c5 => ?_) (fun c5 => ?_)
    · exact absurd c5 (by decide)
    · refine g_aloadG_n hx dX4_claimAge_8 rfl (nx := 9) rfl rfl ?_
      refine g_iloadG_n hx dX4_claimAge_9 rfl (nx := 10) rfl rfl ?_
      refine g_callV_M hx [_] (k' := 0) (n' := 0) dX4_claimAge_10 (nx := 13) rfl lk_X4_198 (hM.1 0 _ rfl) (by decide) rfl rfl (Nat.le_of_ble_eq_true rfl) (Nat.le_of_ble_eq_true rfl) (Nat.le_of_ble_eq_true rfl) (Nat.le_of_ble_eq_true rfl) (Nat.le_of_ble_eq_true rfl) (Nat.le_of_ble_eq_true rfl) (Nat.le_of_ble_eq_true rfl) (s_X4_isClaim (nc := nc) hst hM h21 hn40 (fun j jh ej => ?_) (fun qj => ?_))
      · subst ej
        have jc : (nI j).toNatClampNeg = j := nI_clamp (by omega)
        have jw9 : vp_in (nI j) 40 := vp_in_nI (by omega) (by decide)
        refine g_if_eq hx dX4_claimAge_13 (tg := 20) (by decide) (nx := 16) rfl (fun c13 => ?_) (fun c13 => ?_)
        · exact absurd c13 (by decide)
        · refine g_iconst hx dX4_claimAge_16 (nx := 17) rfl (v := 1) (by decide) ?_
          refine g_goto hx dX4_claimAge_17 (tg := 21) (by decide) ?_
          refine g_istore_3 hx dX4_claimAge_21 (nx := 22) rfl (by decide) rfl ?_
          refine g_iloadG_n hx dX4_claimAge_22 rfl (nx := 23) rfl rfl ?_
          refine g_if_eq hx dX4_claimAge_23 (tg := 78) (by decide) (nx := 26) rfl (fun c23 => ?_) (fun c23 => ?_)
          · exact absurd c23 (by decide)
          · refine g_aloadG_n hx dX4_claimAge_26 rfl (nx := 27) rfl rfl ?_
            refine g_getfo_R hx dX4_claimAge_27 (nx := 30) rfl fa_X4_67 rfl (r9 := 42) (hM.2 22 rfl) (hM.1 0 _ rfl) (by decide) ?_
            refine g_iloadG_n hx dX4_claimAge_30 rfl (nx := 31) rfl rfl ?_
            refine g_iaload hx dX4_claimAge_31 (nx := 32) rfl (hM.1 22 _ rfl) (by decide) iw9 ?_
            rw [ic]
            refine g_if_ne hx dX4_claimAge_32 (tg := 78) (by decide) (nx := 35) rfl (fun c32 => ?_) (fun c32 => ?_)
            · refine g_iconst hx dX4_claimAge_78 (nx := 79) rfl (v := 0) (by decide) ?_
              refine g_istore_4 hx dX4_claimAge_79 (nx := 81) rfl (by decide) rfl ?_
              refine g_aloadG_n hx dX4_claimAge_81 rfl (nx := 82) rfl rfl ?_
              refine g_iloadG_n hx dX4_claimAge_82 rfl (nx := 83) rfl rfl ?_
              refine g_if_ne hx dX4_claimAge_83 (tg := 90) (by decide) (nx := 86) rfl (fun c83 => ?_) (fun c83 => ?_)
              · refine g_iloadG hx dX4_claimAge_90 (nx := 92) rfl rfl ?_
                refine g_if_ne hx dX4_claimAge_92 (tg := 99) (by decide) (nx := 95) rfl (fun c92 => ?_) (fun c92 => ?_)
                · exact absurd c92 (by decide)
                · refine g_iconst hx dX4_claimAge_95 (nx := 96) rfl (v := 2) (by decide) ?_
                  refine g_goto hx dX4_claimAge_96 (tg := 131) (by decide) ?_
                  refine g_callV_M hx [_] (k' := 0) (n' := 0) dX4_claimAge_131 (nx := 134) rfl lk_X4_114 (hM.1 0 _ rfl) (by decide) rfl rfl (Nat.le_of_ble_eq_true rfl) (Nat.le_of_ble_eq_true rfl) (Nat.le_of_ble_eq_true rfl) (Nat.le_of_ble_eq_true rfl) (Nat.le_of_ble_eq_true rfl) (Nat.le_of_ble_eq_true rfl) (Nat.le_of_ble_eq_true rfl) (s_X4_can hst hM (fun z => absurd z (by decide)) (fun _ => ?_))
                  refine g_if_ne hx dX4_claimAge_134 (tg := 139) (by decide) (nx := 137) rfl (fun c134 => ?_) (fun c134 => ?_)
                  · exact absurd c134 (by decide)
                  · refine g_iconst hx dX4_claimAge_137 (nx := 138) rfl (v := 0) (by decide) ?_
                    refine g_iret hx dX4_claimAge_138 rfl rfl (Nat.le_of_ble_eq_true rfl) (Nat.le_of_ble_eq_true rfl) ?_
                    first
                      | exact hf1 (fun z => qi z.1)
                      | exact hf1 (fun z => qj z.2)
                      | exact hf2 i j ih jh rfl rfl (fun z => c32 z.1)
                      | exact hf2 i j ih jh rfl rfl (fun z => c41 z.2.1)
                      | exact hf2 i j ih jh rfl rfl (fun z => c56 z.2.2.1)
                      | exact hf2 i j ih jh rfl rfl (fun z => z.2.2.2 c71)
                      | exact hf3 i j ih jh rfl rfl ⟨c32, c41, c56, c71⟩ (fun z => absurd ((nI_leI (a := 40) (b := nc) (by decide) (by omega)).mp (by rw [← h21]; exact c105)) (by omega))
                      | exact hf3 i j ih jh rfl rfl ⟨c32, c41, c56, c71⟩ (fun z => z.2.1 c114)
                      | exact hf3 i j ih jh rfl rfl ⟨c32, c41, c56, c71⟩ (fun z => z.2.2 c123)
                      | (rw [hc]
                         refine hk i j ih jh rfl rfl ⟨c32, c41, c56, c71⟩ hlt c114 c123 _ _ ⟨fun a b z1 z2 z3 => ?_, fun a b z1 z2 => ?_, ?_, ?_, ?_, ?_, ?_, fun z => absurd z (by decide), ?_, ?_, ?_⟩
                         · rw [au2_n (by omega), mkI_n (by omega) (by omega), au2_n (by omega)]
                         · rw [au2_n (by omega), au2_n (by omega)]
                         · rw [au2_n (by omega), mkI_21]
                         · rw [au2_n (by omega), mkI_n (by omega) (by omega), au2_s]
                         · rw [au2_n (by omega), mkI_42]
                         · rw [au2_n (by omega), mkI_43]
                         · rw [au2_n (by omega), mkI_44]
                         · rw [au2_s]
                         · rw [au2_s]; rfl
                         · rw [au2_n (by omega), mkI_50])
              · exact absurd c83 (by decide)
            · refine g_aloadG_n hx dX4_claimAge_35 rfl (nx := 36) rfl rfl ?_
              refine g_getfo_R hx dX4_claimAge_36 (nx := 39) rfl fa_X4_67 rfl (r9 := 42) (hM.2 22 rfl) (hM.1 0 _ rfl) (by decide) ?_
              refine g_iloadG_n hx dX4_claimAge_39 rfl (nx := 40) rfl rfl ?_
              refine g_iaload hx dX4_claimAge_40 (nx := 41) rfl (hM.1 22 _ rfl) (by decide) jw9 ?_
              rw [jc]
              refine g_if_ne hx dX4_claimAge_41 (tg := 78) (by decide) (nx := 44) rfl (fun c41 => ?_) (fun c41 => ?_)
              · refine g_iconst hx dX4_claimAge_78 (nx := 79) rfl (v := 0) (by decide) ?_
                refine g_istore_4 hx dX4_claimAge_79 (nx := 81) rfl (by decide) rfl ?_
                refine g_aloadG_n hx dX4_claimAge_81 rfl (nx := 82) rfl rfl ?_
                refine g_iloadG_n hx dX4_claimAge_82 rfl (nx := 83) rfl rfl ?_
                refine g_if_ne hx dX4_claimAge_83 (tg := 90) (by decide) (nx := 86) rfl (fun c83 => ?_) (fun c83 => ?_)
                · refine g_iloadG hx dX4_claimAge_90 (nx := 92) rfl rfl ?_
                  refine g_if_ne hx dX4_claimAge_92 (tg := 99) (by decide) (nx := 95) rfl (fun c92 => ?_) (fun c92 => ?_)
                  · exact absurd c92 (by decide)
                  · refine g_iconst hx dX4_claimAge_95 (nx := 96) rfl (v := 2) (by decide) ?_
                    refine g_goto hx dX4_claimAge_96 (tg := 131) (by decide) ?_
                    refine g_callV_M hx [_] (k' := 0) (n' := 0) dX4_claimAge_131 (nx := 134) rfl lk_X4_114 (hM.1 0 _ rfl) (by decide) rfl rfl (Nat.le_of_ble_eq_true rfl) (Nat.le_of_ble_eq_true rfl) (Nat.le_of_ble_eq_true rfl) (Nat.le_of_ble_eq_true rfl) (Nat.le_of_ble_eq_true rfl) (Nat.le_of_ble_eq_true rfl) (Nat.le_of_ble_eq_true rfl) (s_X4_can hst hM (fun z => absurd z (by decide)) (fun _ => ?_))
                    refine g_if_ne hx dX4_claimAge_134 (tg := 139) (by decide) (nx := 137) rfl (fun c134 => ?_) (fun c134 => ?_)
                    · exact absurd c134 (by decide)
                    · refine g_iconst hx dX4_claimAge_137 (nx := 138) rfl (v := 0) (by decide) ?_
                      refine g_iret hx dX4_claimAge_138 rfl rfl (Nat.le_of_ble_eq_true rfl) (Nat.le_of_ble_eq_true rfl) ?_
                      first
                        | exact hf1 (fun z => qi z.1)
                        | exact hf1 (fun z => qj z.2)
                        | exact hf2 i j ih jh rfl rfl (fun z => c32 z.1)
                        | exact hf2 i j ih jh rfl rfl (fun z => c41 z.2.1)
                        | exact hf2 i j ih jh rfl rfl (fun z => c56 z.2.2.1)
                        | exact hf2 i j ih jh rfl rfl (fun z => z.2.2.2 c71)
                        | exact hf3 i j ih jh rfl rfl ⟨c32, c41, c56, c71⟩ (fun z => absurd ((nI_leI (a := 40) (b := nc) (by decide) (by omega)).mp (by rw [← h21]; exact c105)) (by omega))
                        | exact hf3 i j ih jh rfl rfl ⟨c32, c41, c56, c71⟩ (fun z => z.2.1 c114)
                        | exact hf3 i j ih jh rfl rfl ⟨c32, c41, c56, c71⟩ (fun z => z.2.2 c123)
                        | (rw [hc]
                           refine hk i j ih jh rfl rfl ⟨c32, c41, c56, c71⟩ hlt c114 c123 _ _ ⟨fun a b z1 z2 z3 => ?_, fun a b z1 z2 => ?_, ?_, ?_, ?_, ?_, ?_, fun z => absurd z (by decide), ?_, ?_, ?_⟩
                           · rw [au2_n (by omega), mkI_n (by omega) (by omega), au2_n (by omega)]
                           · rw [au2_n (by omega), au2_n (by omega)]
                           · rw [au2_n (by omega), mkI_21]
                           · rw [au2_n (by omega), mkI_n (by omega) (by omega), au2_s]
                           · rw [au2_n (by omega), mkI_42]
                           · rw [au2_n (by omega), mkI_43]
                           · rw [au2_n (by omega), mkI_44]
                           · rw [au2_s]
                           · rw [au2_s]; rfl
                           · rw [au2_n (by omega), mkI_50])
                · exact absurd c83 (by decide)
              · refine g_aloadG_n hx dX4_claimAge_44 rfl (nx := 45) rfl rfl ?_
                refine g_getfo_R hx dX4_claimAge_45 (nx := 48) rfl fa_X4_70 rfl (r9 := 43) (hM.2 23 rfl) (hM.1 0 _ rfl) (by decide) ?_
                refine g_iloadG_n hx dX4_claimAge_48 rfl (nx := 49) rfl rfl ?_
                refine g_iaload hx dX4_claimAge_49 (nx := 50) rfl (hM.1 23 _ rfl) (by decide) iw9 ?_
                refine g_aloadG_n hx dX4_claimAge_50 rfl (nx := 51) rfl rfl ?_
                refine g_getfo_R hx dX4_claimAge_51 (nx := 54) rfl fa_X4_70 rfl (r9 := 43) (hM.2 23 rfl) (hM.1 0 _ rfl) (by decide) ?_
                refine g_iloadG_n hx dX4_claimAge_54 rfl (nx := 55) rfl rfl ?_
                refine g_iaload hx dX4_claimAge_55 (nx := 56) rfl (hM.1 23 _ rfl) (by decide) jw9 ?_
                rw [ic, jc]
                refine g_icmp_ne hx dX4_claimAge_56 (tg := 78) (by decide) (nx := 59) rfl (fun c56 => ?_) (fun c56 => ?_)
                · refine g_iconst hx dX4_claimAge_78 (nx := 79) rfl (v := 0) (by decide) ?_
                  refine g_istore_4 hx dX4_claimAge_79 (nx := 81) rfl (by decide) rfl ?_
                  refine g_aloadG_n hx dX4_claimAge_81 rfl (nx := 82) rfl rfl ?_
                  refine g_iloadG_n hx dX4_claimAge_82 rfl (nx := 83) rfl rfl ?_
                  refine g_if_ne hx dX4_claimAge_83 (tg := 90) (by decide) (nx := 86) rfl (fun c83 => ?_) (fun c83 => ?_)
                  · refine g_iloadG hx dX4_claimAge_90 (nx := 92) rfl rfl ?_
                    refine g_if_ne hx dX4_claimAge_92 (tg := 99) (by decide) (nx := 95) rfl (fun c92 => ?_) (fun c92 => ?_)
                    · exact absurd c92 (by decide)
                    · refine g_iconst hx dX4_claimAge_95 (nx := 96) rfl (v := 2) (by decide) ?_
                      refine g_goto hx dX4_claimAge_96 (tg := 131) (by decide) ?_
                      refine g_callV_M hx [_] (k' := 0) (n' := 0) dX4_claimAge_131 (nx := 134) rfl lk_X4_114 (hM.1 0 _ rfl) (by decide) rfl rfl (Nat.le_of_ble_eq_true rfl) (Nat.le_of_ble_eq_true rfl) (Nat.le_of_ble_eq_true rfl) (Nat.le_of_ble_eq_true rfl) (Nat.le_of_ble_eq_true rfl) (Nat.le_of_ble_eq_true rfl) (Nat.le_of_ble_eq_true rfl) (s_X4_can hst hM (fun z => absurd z (by decide)) (fun _ => ?_))
                      refine g_if_ne hx dX4_claimAge_134 (tg := 139) (by decide) (nx := 137) rfl (fun c134 => ?_) (fun c134 => ?_)
                      · exact absurd c134 (by decide)
                      · refine g_iconst hx dX4_claimAge_137 (nx := 138) rfl (v := 0) (by decide) ?_
                        refine g_iret hx dX4_claimAge_138 rfl rfl (Nat.le_of_ble_eq_true rfl) (Nat.le_of_ble_eq_true rfl) ?_
                        first
                          | exact hf1 (fun z => qi z.1)
                          | exact hf1 (fun z => qj z.2)
                          | exact hf2 i j ih jh rfl rfl (fun z => c32 z.1)
                          | exact hf2 i j ih jh rfl rfl (fun z => c41 z.2.1)
                          | exact hf2 i j ih jh rfl rfl (fun z => c56 z.2.2.1)
                          | exact hf2 i j ih jh rfl rfl (fun z => z.2.2.2 c71)
                          | exact hf3 i j ih jh rfl rfl ⟨c32, c41, c56, c71⟩ (fun z => absurd ((nI_leI (a := 40) (b := nc) (by decide) (by omega)).mp (by rw [← h21]; exact c105)) (by omega))
                          | exact hf3 i j ih jh rfl rfl ⟨c32, c41, c56, c71⟩ (fun z => z.2.1 c114)
                          | exact hf3 i j ih jh rfl rfl ⟨c32, c41, c56, c71⟩ (fun z => z.2.2 c123)
                          | (rw [hc]
                             refine hk i j ih jh rfl rfl ⟨c32, c41, c56, c71⟩ hlt c114 c123 _ _ ⟨fun a b z1 z2 z3 => ?_, fun a b z1 z2 => ?_, ?_, ?_, ?_, ?_, ?_, fun z => absurd z (by decide), ?_, ?_, ?_⟩
                             · rw [au2_n (by omega), mkI_n (by omega) (by omega), au2_n (by omega)]
                             · rw [au2_n (by omega), au2_n (by omega)]
                             · rw [au2_n (by omega), mkI_21]
                             · rw [au2_n (by omega), mkI_n (by omega) (by omega), au2_s]
                             · rw [au2_n (by omega), mkI_42]
                             · rw [au2_n (by omega), mkI_43]
                             · rw [au2_n (by omega), mkI_44]
                             · rw [au2_s]
                             · rw [au2_s]; rfl
                             · rw [au2_n (by omega), mkI_50])
                  · exact absurd c83 (by decide)
                · refine g_aloadG_n hx dX4_claimAge_59 rfl (nx := 60) rfl rfl ?_
                  refine g_getfo_R hx dX4_claimAge_60 (nx := 63) rfl fa_X4_73 rfl (r9 := 44) (hM.2 24 rfl) (hM.1 0 _ rfl) (by decide) ?_
                  refine g_iloadG_n hx dX4_claimAge_63 rfl (nx := 64) rfl rfl ?_
                  refine g_iaload hx dX4_claimAge_64 (nx := 65) rfl (hM.1 24 _ rfl) (by decide) iw9 ?_
                  refine g_aloadG_n hx dX4_claimAge_65 rfl (nx := 66) rfl rfl ?_
                  refine g_getfo_R hx dX4_claimAge_66 (nx := 69) rfl fa_X4_73 rfl (r9 := 44) (hM.2 24 rfl) (hM.1 0 _ rfl) (by decide) ?_
                  refine g_iloadG_n hx dX4_claimAge_69 rfl (nx := 70) rfl rfl ?_
                  refine g_iaload hx dX4_claimAge_70 (nx := 71) rfl (hM.1 24 _ rfl) (by decide) jw9 ?_
                  rw [ic, jc]
                  refine g_icmp_eq hx dX4_claimAge_71 (tg := 78) (by decide) (nx := 74) rfl (fun c71 => ?_) (fun c71 => ?_)
                  · refine g_iconst hx dX4_claimAge_78 (nx := 79) rfl (v := 0) (by decide) ?_
                    refine g_istore_4 hx dX4_claimAge_79 (nx := 81) rfl (by decide) rfl ?_
                    refine g_aloadG_n hx dX4_claimAge_81 rfl (nx := 82) rfl rfl ?_
                    refine g_iloadG_n hx dX4_claimAge_82 rfl (nx := 83) rfl rfl ?_
                    refine g_if_ne hx dX4_claimAge_83 (tg := 90) (by decide) (nx := 86) rfl (fun c83 => ?_) (fun c83 => ?_)
                    · refine g_iloadG hx dX4_claimAge_90 (nx := 92) rfl rfl ?_
                      refine g_if_ne hx dX4_claimAge_92 (tg := 99) (by decide) (nx := 95) rfl (fun c92 => ?_) (fun c92 => ?_)
                      · exact absurd c92 (by decide)
                      · refine g_iconst hx dX4_claimAge_95 (nx := 96) rfl (v := 2) (by decide) ?_
                        refine g_goto hx dX4_claimAge_96 (tg := 131) (by decide) ?_
                        refine g_callV_M hx [_] (k' := 0) (n' := 0) dX4_claimAge_131 (nx := 134) rfl lk_X4_114 (hM.1 0 _ rfl) (by decide) rfl rfl (Nat.le_of_ble_eq_true rfl) (Nat.le_of_ble_eq_true rfl) (Nat.le_of_ble_eq_true rfl) (Nat.le_of_ble_eq_true rfl) (Nat.le_of_ble_eq_true rfl) (Nat.le_of_ble_eq_true rfl) (Nat.le_of_ble_eq_true rfl) (s_X4_can hst hM (fun z => absurd z (by decide)) (fun _ => ?_))
                        refine g_if_ne hx dX4_claimAge_134 (tg := 139) (by decide) (nx := 137) rfl (fun c134 => ?_) (fun c134 => ?_)
                        · exact absurd c134 (by decide)
                        · refine g_iconst hx dX4_claimAge_137 (nx := 138) rfl (v := 0) (by decide) ?_
                          refine g_iret hx dX4_claimAge_138 rfl rfl (Nat.le_of_ble_eq_true rfl) (Nat.le_of_ble_eq_true rfl) ?_
                          first
                            | exact hf1 (fun z => qi z.1)
                            | exact hf1 (fun z => qj z.2)
                            | exact hf2 i j ih jh rfl rfl (fun z => c32 z.1)
                            | exact hf2 i j ih jh rfl rfl (fun z => c41 z.2.1)
                            | exact hf2 i j ih jh rfl rfl (fun z => c56 z.2.2.1)
                            | exact hf2 i j ih jh rfl rfl (fun z => z.2.2.2 c71)
                            | exact hf3 i j ih jh rfl rfl ⟨c32, c41, c56, c71⟩ (fun z => absurd ((nI_leI (a := 40) (b := nc) (by decide) (by omega)).mp (by rw [← h21]; exact c105)) (by omega))
                            | exact hf3 i j ih jh rfl rfl ⟨c32, c41, c56, c71⟩ (fun z => z.2.1 c114)
                            | exact hf3 i j ih jh rfl rfl ⟨c32, c41, c56, c71⟩ (fun z => z.2.2 c123)
                            | (rw [hc]
                               refine hk i j ih jh rfl rfl ⟨c32, c41, c56, c71⟩ hlt c114 c123 _ _ ⟨fun a b z1 z2 z3 => ?_, fun a b z1 z2 => ?_, ?_, ?_, ?_, ?_, ?_, fun z => absurd z (by decide), ?_, ?_, ?_⟩
                               · rw [au2_n (by omega), mkI_n (by omega) (by omega), au2_n (by omega)]
                               · rw [au2_n (by omega), au2_n (by omega)]
                               · rw [au2_n (by omega), mkI_21]
                               · rw [au2_n (by omega), mkI_n (by omega) (by omega), au2_s]
                               · rw [au2_n (by omega), mkI_42]
                               · rw [au2_n (by omega), mkI_43]
                               · rw [au2_n (by omega), mkI_44]
                               · rw [au2_s]
                               · rw [au2_s]; rfl
                               · rw [au2_n (by omega), mkI_50])
                    · exact absurd c83 (by decide)
                  · refine g_iconst hx dX4_claimAge_74 (nx := 75) rfl (v := 1) (by decide) ?_
                    refine g_goto hx dX4_claimAge_75 (tg := 79) (by decide) ?_
                    refine g_istore_4 hx dX4_claimAge_79 (nx := 81) rfl (by decide) rfl ?_
                    refine g_aloadG_n hx dX4_claimAge_81 rfl (nx := 82) rfl rfl ?_
                    refine g_iloadG_n hx dX4_claimAge_82 rfl (nx := 83) rfl rfl ?_
                    refine g_if_ne hx dX4_claimAge_83 (tg := 90) (by decide) (nx := 86) rfl (fun c83 => ?_) (fun c83 => ?_)
                    · refine g_iloadG hx dX4_claimAge_90 (nx := 92) rfl rfl ?_
                      refine g_if_ne hx dX4_claimAge_92 (tg := 99) (by decide) (nx := 95) rfl (fun c92 => ?_) (fun c92 => ?_)
                      · refine g_aloadG_n hx dX4_claimAge_99 rfl (nx := 100) rfl rfl ?_
                        refine g_getfo_i hx dX4_claimAge_100 (nx := 103) rfl fa_X4_108 rfl (hM.1 0 _ rfl) (by decide) ?_
                        refine g_bipush hx dX4_claimAge_103 (nx := 105) rfl (v := 40) (by decide) ?_
                        refine g_icmp_ge hx dX4_claimAge_105 (tg := 130) (by decide) (nx := 108) rfl (fun c105 => ?_) (fun c105 => ?_)
                        · refine g_iconst hx dX4_claimAge_130 (nx := 131) rfl (v := 3) (by decide) ?_
                          refine g_callV_M hx [_] (k' := 0) (n' := 0) dX4_claimAge_131 (nx := 134) rfl lk_X4_114 (hM.1 0 _ rfl) (by decide) rfl rfl (Nat.le_of_ble_eq_true rfl) (Nat.le_of_ble_eq_true rfl) (Nat.le_of_ble_eq_true rfl) (Nat.le_of_ble_eq_true rfl) (Nat.le_of_ble_eq_true rfl) (Nat.le_of_ble_eq_true rfl) (Nat.le_of_ble_eq_true rfl) (s_X4_can hst hM (fun z => absurd z (by decide)) (fun _ => ?_))
                          refine g_if_ne hx dX4_claimAge_134 (tg := 139) (by decide) (nx := 137) rfl (fun c134 => ?_) (fun c134 => ?_)
                          · exact absurd c134 (by decide)
                          · refine g_iconst hx dX4_claimAge_137 (nx := 138) rfl (v := 0) (by decide) ?_
                            refine g_iret hx dX4_claimAge_138 rfl rfl (Nat.le_of_ble_eq_true rfl) (Nat.le_of_ble_eq_true rfl) ?_
                            first
                              | exact hf1 (fun z => qi z.1)
                              | exact hf1 (fun z => qj z.2)
                              | exact hf2 i j ih jh rfl rfl (fun z => c32 z.1)
                              | exact hf2 i j ih jh rfl rfl (fun z => c41 z.2.1)
                              | exact hf2 i j ih jh rfl rfl (fun z => c56 z.2.2.1)
                              | exact hf2 i j ih jh rfl rfl (fun z => z.2.2.2 c71)
                              | exact hf3 i j ih jh rfl rfl ⟨c32, c41, c56, c71⟩ (fun z => absurd ((nI_leI (a := 40) (b := nc) (by decide) (by omega)).mp (by rw [← h21]; exact c105)) (by omega))
                              | exact hf3 i j ih jh rfl rfl ⟨c32, c41, c56, c71⟩ (fun z => z.2.1 c114)
                              | exact hf3 i j ih jh rfl rfl ⟨c32, c41, c56, c71⟩ (fun z => z.2.2 c123)
                              | (rw [hc]
                                 refine hk i j ih jh rfl rfl ⟨c32, c41, c56, c71⟩ hlt c114 c123 _ _ ⟨fun a b z1 z2 z3 => ?_, fun a b z1 z2 => ?_, ?_, ?_, ?_, ?_, ?_, fun z => absurd z (by decide), ?_, ?_, ?_⟩
                                 · rw [au2_n (by omega), mkI_n (by omega) (by omega), au2_n (by omega)]
                                 · rw [au2_n (by omega), au2_n (by omega)]
                                 · rw [au2_n (by omega), mkI_21]
                                 · rw [au2_n (by omega), mkI_n (by omega) (by omega), au2_s]
                                 · rw [au2_n (by omega), mkI_42]
                                 · rw [au2_n (by omega), mkI_43]
                                 · rw [au2_n (by omega), mkI_44]
                                 · rw [au2_s]
                                 · rw [au2_s]; rfl
                                 · rw [au2_n (by omega), mkI_50])
                        · have hlt : nc < 40 := (nI_ltI (by omega) (by decide)).mp (by rw [← h21]; exact Int32.not_le.mp c105)
                          refine g_aloadG_n hx dX4_claimAge_108 rfl (nx := 109) rfl rfl ?_
                          refine g_getfo_R hx dX4_claimAge_109 (nx := 112) rfl fa_X4_91 rfl (r9 := 50) (hM.2 30 rfl) (hM.1 0 _ rfl) (by decide) ?_
                          refine g_iloadG_n hx dX4_claimAge_112 rfl (nx := 113) rfl rfl ?_
                          refine g_baload hx dX4_claimAge_113 (nx := 114) rfl (hM.1 30 _ rfl) (by decide) iw9 ?_
                          rw [ic]
                          refine g_if_eq hx dX4_claimAge_114 (tg := 130) (by decide) (nx := 117) rfl (fun c114 => ?_) (fun c114 => ?_)
                          · refine g_iconst hx dX4_claimAge_130 (nx := 131) rfl (v := 3) (by decide) ?_
                            refine g_callV_M hx [_] (k' := 0) (n' := 0) dX4_claimAge_131 (nx := 134) rfl lk_X4_114 (hM.1 0 _ rfl) (by decide) rfl rfl (Nat.le_of_ble_eq_true rfl) (Nat.le_of_ble_eq_true rfl) (Nat.le_of_ble_eq_true rfl) (Nat.le_of_ble_eq_true rfl) (Nat.le_of_ble_eq_true rfl) (Nat.le_of_ble_eq_true rfl) (Nat.le_of_ble_eq_true rfl) (s_X4_can hst hM (fun z => absurd z (by decide)) (fun _ => ?_))
                            refine g_if_ne hx dX4_claimAge_134 (tg := 139) (by decide) (nx := 137) rfl (fun c134 => ?_) (fun c134 => ?_)
                            · exact absurd c134 (by decide)
                            · refine g_iconst hx dX4_claimAge_137 (nx := 138) rfl (v := 0) (by decide) ?_
                              refine g_iret hx dX4_claimAge_138 rfl rfl (Nat.le_of_ble_eq_true rfl) (Nat.le_of_ble_eq_true rfl) ?_
                              first
                                | exact hf1 (fun z => qi z.1)
                                | exact hf1 (fun z => qj z.2)
                                | exact hf2 i j ih jh rfl rfl (fun z => c32 z.1)
                                | exact hf2 i j ih jh rfl rfl (fun z => c41 z.2.1)
                                | exact hf2 i j ih jh rfl rfl (fun z => c56 z.2.2.1)
                                | exact hf2 i j ih jh rfl rfl (fun z => z.2.2.2 c71)
                                | exact hf3 i j ih jh rfl rfl ⟨c32, c41, c56, c71⟩ (fun z => absurd ((nI_leI (a := 40) (b := nc) (by decide) (by omega)).mp (by rw [← h21]; exact c105)) (by omega))
                                | exact hf3 i j ih jh rfl rfl ⟨c32, c41, c56, c71⟩ (fun z => z.2.1 c114)
                                | exact hf3 i j ih jh rfl rfl ⟨c32, c41, c56, c71⟩ (fun z => z.2.2 c123)
                                | (rw [hc]
                                   refine hk i j ih jh rfl rfl ⟨c32, c41, c56, c71⟩ hlt c114 c123 _ _ ⟨fun a b z1 z2 z3 => ?_, fun a b z1 z2 => ?_, ?_, ?_, ?_, ?_, ?_, fun z => absurd z (by decide), ?_, ?_, ?_⟩
                                   · rw [au2_n (by omega), mkI_n (by omega) (by omega), au2_n (by omega)]
                                   · rw [au2_n (by omega), au2_n (by omega)]
                                   · rw [au2_n (by omega), mkI_21]
                                   · rw [au2_n (by omega), mkI_n (by omega) (by omega), au2_s]
                                   · rw [au2_n (by omega), mkI_42]
                                   · rw [au2_n (by omega), mkI_43]
                                   · rw [au2_n (by omega), mkI_44]
                                   · rw [au2_s]
                                   · rw [au2_s]; rfl
                                   · rw [au2_n (by omega), mkI_50])
                          · refine g_aloadG_n hx dX4_claimAge_117 rfl (nx := 118) rfl rfl ?_
                            refine g_getfo_R hx dX4_claimAge_118 (nx := 121) rfl fa_X4_91 rfl (r9 := 50) (hM.2 30 rfl) (hM.1 0 _ rfl) (by decide) ?_
                            refine g_iloadG_n hx dX4_claimAge_121 rfl (nx := 122) rfl rfl ?_
                            refine g_baload hx dX4_claimAge_122 (nx := 123) rfl (hM.1 30 _ rfl) (by decide) jw9 ?_
                            rw [jc]
                            refine g_if_eq hx dX4_claimAge_123 (tg := 130) (by decide) (nx := 126) rfl (fun c123 => ?_) (fun c123 => ?_)
                            · refine g_iconst hx dX4_claimAge_130 (nx := 131) rfl (v := 3) (by decide) ?_
                              refine g_callV_M hx [_] (k' := 0) (n' := 0) dX4_claimAge_131 (nx := 134) rfl lk_X4_114 (hM.1 0 _ rfl) (by decide) rfl rfl (Nat.le_of_ble_eq_true rfl) (Nat.le_of_ble_eq_true rfl) (Nat.le_of_ble_eq_true rfl) (Nat.le_of_ble_eq_true rfl) (Nat.le_of_ble_eq_true rfl) (Nat.le_of_ble_eq_true rfl) (Nat.le_of_ble_eq_true rfl) (s_X4_can hst hM (fun z => absurd z (by decide)) (fun _ => ?_))
                              refine g_if_ne hx dX4_claimAge_134 (tg := 139) (by decide) (nx := 137) rfl (fun c134 => ?_) (fun c134 => ?_)
                              · exact absurd c134 (by decide)
                              · refine g_iconst hx dX4_claimAge_137 (nx := 138) rfl (v := 0) (by decide) ?_
                                refine g_iret hx dX4_claimAge_138 rfl rfl (Nat.le_of_ble_eq_true rfl) (Nat.le_of_ble_eq_true rfl) ?_
                                first
                                  | exact hf1 (fun z => qi z.1)
                                  | exact hf1 (fun z => qj z.2)
                                  | exact hf2 i j ih jh rfl rfl (fun z => c32 z.1)
                                  | exact hf2 i j ih jh rfl rfl (fun z => c41 z.2.1)
                                  | exact hf2 i j ih jh rfl rfl (fun z => c56 z.2.2.1)
                                  | exact hf2 i j ih jh rfl rfl (fun z => z.2.2.2 c71)
                                  | exact hf3 i j ih jh rfl rfl ⟨c32, c41, c56, c71⟩ (fun z => absurd ((nI_leI (a := 40) (b := nc) (by decide) (by omega)).mp (by rw [← h21]; exact c105)) (by omega))
                                  | exact hf3 i j ih jh rfl rfl ⟨c32, c41, c56, c71⟩ (fun z => z.2.1 c114)
                                  | exact hf3 i j ih jh rfl rfl ⟨c32, c41, c56, c71⟩ (fun z => z.2.2 c123)
                                  | (rw [hc]
                                     refine hk i j ih jh rfl rfl ⟨c32, c41, c56, c71⟩ hlt c114 c123 _ _ ⟨fun a b z1 z2 z3 => ?_, fun a b z1 z2 => ?_, ?_, ?_, ?_, ?_, ?_, fun z => absurd z (by decide), ?_, ?_, ?_⟩
                                     · rw [au2_n (by omega), mkI_n (by omega) (by omega), au2_n (by omega)]
                                     · rw [au2_n (by omega), au2_n (by omega)]
                                     · rw [au2_n (by omega), mkI_21]
                                     · rw [au2_n (by omega), mkI_n (by omega) (by omega), au2_s]
                                     · rw [au2_n (by omega), mkI_42]
                                     · rw [au2_n (by omega), mkI_43]
                                     · rw [au2_n (by omega), mkI_44]
                                     · rw [au2_s]
                                     · rw [au2_s]; rfl
                                     · rw [au2_n (by omega), mkI_50])
                            · refine g_iconst hx dX4_claimAge_126 (nx := 127) rfl (v := 0) (by decide) ?_
                              refine g_goto hx dX4_claimAge_127 (tg := 131) (by decide) ?_
                              refine g_callV_M hx [_] (k' := 0) (n' := 0) dX4_claimAge_131 (nx := 134) rfl lk_X4_114 (hM.1 0 _ rfl) (by decide) rfl rfl (Nat.le_of_ble_eq_true rfl) (Nat.le_of_ble_eq_true rfl) (Nat.le_of_ble_eq_true rfl) (Nat.le_of_ble_eq_true rfl) (Nat.le_of_ble_eq_true rfl) (Nat.le_of_ble_eq_true rfl) (Nat.le_of_ble_eq_true rfl) (s_X4_can hst hM (fun _ => ?_) (fun z => absurd rfl z))
                              refine g_if_ne hx dX4_claimAge_134 (tg := 139) (by decide) (nx := 137) rfl (fun c134 => ?_) (fun c134 => ?_)
                              · have hin : vp_in (nI nc) 40 := vp_in_nI hlt (by decide)
                                have hc : (nI nc).toNatClampNeg = nc := nI_clamp (by omega)
                                have hn0 : 0 < n := hn0 (by omega)
                                refine g_aloadG_n hx dX4_claimAge_139 rfl (nx := 140) rfl rfl ?_
                                refine g_iconst hx dX4_claimAge_140 (nx := 141) rfl (v := 1) (by decide) ?_
                                refine g_aloadG_n hx dX4_claimAge_141 rfl (nx := 142) rfl rfl ?_
                                refine g_getfo_R hx dX4_claimAge_142 (nx := 145) rfl fa_X4_70 rfl (r9 := 43) (hM.2 23 rfl) (hM.1 0 _ rfl) (by decide) ?_
                                refine g_iloadG_n hx dX4_claimAge_145 rfl (nx := 146) rfl rfl ?_
                                refine g_iaload hx dX4_claimAge_146 (nx := 147) rfl (hM.1 23 _ rfl) (by decide) iw9 ?_
                                refine g_aloadG_n hx dX4_claimAge_147 rfl (nx := 148) rfl rfl ?_
                                refine g_getfo_R hx dX4_claimAge_148 (nx := 151) rfl fa_X4_73 rfl (r9 := 44) (hM.2 24 rfl) (hM.1 0 _ rfl) (by decide) ?_
                                refine g_iloadG_n hx dX4_claimAge_151 rfl (nx := 152) rfl rfl ?_
                                refine g_iaload hx dX4_claimAge_152 (nx := 153) rfl (hM.1 24 _ rfl) (by decide) iw9 ?_
                                rw [ic, au2_n (by omega), au2_n (by omega)]
                                refine g_callV_M hx [_, _, _] (k' := 0) (n' := 0) dX4_claimAge_153 (nx := 156) rfl lk_X4_189 (hM.1 0 _ rfl) (by decide) rfl rfl (Nat.le_of_ble_eq_true rfl) (Nat.le_of_ble_eq_true rfl) (Nat.le_of_ble_eq_true rfl) (Nat.le_of_ble_eq_true rfl) (Nat.le_of_ble_eq_true rfl) (Nat.le_of_ble_eq_true rfl) (Nat.le_of_ble_eq_true rfl) (s_X4_makes (nc := nc) hst hM (by rw [au2_n (by omega)]; exact h21) hlt ?_)
                                refine g_istore_5 hx dX4_claimAge_156 (nx := 158) rfl (by decide) rfl ?_
                                refine g_aloadG_n hx dX4_claimAge_158 rfl (nx := 159) rfl rfl ?_
                                refine g_getfo_R hx dX4_claimAge_159 (nx := 162) rfl fa_X4_85 rfl (r9 := 48) (hM.2 28 rfl) (hM.1 0 _ rfl) (by decide) ?_
                                refine g_iloadG hx dX4_claimAge_162 (nx := 164) rfl rfl ?_
                                refine g_aloadG_n hx dX4_claimAge_164 rfl (nx := 165) rfl rfl ?_
                                refine g_aloadG_n hx dX4_claimAge_165 rfl (nx := 166) rfl rfl ?_
                                refine g_getfo_R hx dX4_claimAge_166 (nx := 169) rfl fa_X4_73 rfl (r9 := 44) (hM.2 24 rfl) (hM.1 0 _ rfl) (by decide) ?_
                                refine g_iloadG_n hx dX4_claimAge_169 rfl (nx := 170) rfl rfl ?_
                                refine g_iaload hx dX4_claimAge_170 (nx := 171) rfl (hM.1 24 _ rfl) (by decide) iw9 ?_
                                refine g_aloadG_n hx dX4_claimAge_171 rfl (nx := 172) rfl rfl ?_
                                refine g_getfo_R hx dX4_claimAge_172 (nx := 175) rfl fa_X4_73 rfl (r9 := 44) (hM.2 24 rfl) (hM.1 0 _ rfl) (by decide) ?_
                                refine g_iloadG_n hx dX4_claimAge_175 rfl (nx := 176) rfl rfl ?_
                                refine g_iaload hx dX4_claimAge_176 (nx := 177) rfl (hM.1 24 _ rfl) (by decide) jw9 ?_
                                rw [ic, jc, mkI_n (a := 44) (b := i) (by omega) (by omega), mkI_n (a := 44) (b := j) (by omega) (by omega), au2_n (by omega), au2_n (by omega)]
                                refine g_icmp_le hx dX4_claimAge_177 (tg := 196) (by decide) (nx := 180) rfl (fun c177 => ?_) (fun c177 => ?_)
                                · refine g_aloadG_n hx dX4_claimAge_196 rfl (nx := 197) rfl rfl ?_
                                  refine g_getfo_R hx dX4_claimAge_197 (nx := 200) rfl fa_X4_73 rfl (r9 := 44) (hM.2 24 rfl) (hM.1 0 _ rfl) (by decide) ?_
                                  refine g_iloadG_n hx dX4_claimAge_200 rfl (nx := 201) rfl rfl ?_
                                  refine g_iaload hx dX4_claimAge_201 (nx := 202) rfl (hM.1 24 _ rfl) (by decide) jw9 ?_
                                  refine g_aloadG_n hx dX4_claimAge_202 rfl (nx := 203) rfl rfl ?_
                                  refine g_getfo_R hx dX4_claimAge_203 (nx := 206) rfl fa_X4_73 rfl (r9 := 44) (hM.2 24 rfl) (hM.1 0 _ rfl) (by decide) ?_
                                  refine g_iloadG_n hx dX4_claimAge_206 rfl (nx := 207) rfl rfl ?_
                                  refine g_iaload hx dX4_claimAge_207 (nx := 208) rfl (hM.1 24 _ rfl) (by decide) iw9 ?_
                                  refine g_isub hx dX4_claimAge_208 (nx := 209) rfl ?_
                                  rw [ic, jc, mkI_n (a := 44) (b := i) (by omega) (by omega), mkI_n (a := 44) (b := j) (by omega) (by omega), au2_n (by omega), au2_n (by omega)]
                                  have efar : I 44 j - I 44 i = iabs (I 44 i - I 44 j) := by
                                    rw [(hln i ih).1, (hln j jh).1] at c177 ⊢
                                    exact iabs_sub ((nI_leI (by have := (hln i ih).2; omega) (by have := (hln j jh).2; omega)).mp c177) (by have := (hln j jh).2; omega)
                                  rw [efar]
                                  refine g_callV_M hx [_] (k' := 0) (n' := 0) dX4_claimAge_209 (nx := 212) rfl lk_X4_201 (hM.1 0 _ rfl) (by decide) rfl rfl (Nat.le_of_ble_eq_true rfl) (Nat.le_of_ble_eq_true rfl) (Nat.le_of_ble_eq_true rfl) (Nat.le_of_ble_eq_true rfl) (Nat.le_of_ble_eq_true rfl) (Nat.le_of_ble_eq_true rfl) (Nat.le_of_ble_eq_true rfl) (s_X4_ageBy (n := n) hst hM (by rw [mkI_n (by omega) (by omega), au2_n (by omega)]; exact h4) hn6 hn0 ?_)
                                  rw [mkI_n (by omega) (by omega), au2_n (by omega)]
                                  have ela : (fun k => mkI (au2 I 20 31 0) nc 1 (I 43 i) (I 44 i) 27 k) = fun k => I 27 k := funext fun k => by rw [mkI_n (by omega) (by omega), au2_n (by omega)]
                                  rw [ela]
                                  refine g_iastore hx dX4_claimAge_212 (nx := 213) rfl (hM.1 28 _ rfl) (by decide) hin ?_
                                  refine g_aloadG_n hx dX4_claimAge_213 rfl (nx := 214) rfl rfl ?_
                                  refine g_getfo_R hx dX4_claimAge_214 (nx := 217) rfl fa_X4_88 rfl (r9 := 49) (hM.2 29 rfl) (hM.1 0 _ rfl) (by decide) ?_
                                  refine g_iloadG hx dX4_claimAge_217 (nx := 219) rfl rfl ?_
                                  refine g_lconst hx dX4_claimAge_219 (nx := 220) rfl (v := 1) (by decide) ?_
                                  refine g_iloadG_n hx dX4_claimAge_220 rfl (nx := 221) rfl rfl ?_
                                  refine g_lshl hx dX4_claimAge_221 (nx := 222) rfl ?_
                                  refine g_lconst hx dX4_claimAge_222 (nx := 223) rfl (v := 1) (by decide) ?_
                                  refine g_iloadG_n hx dX4_claimAge_223 rfl (nx := 224) rfl rfl ?_
                                  refine g_lshl hx dX4_claimAge_224 (nx := 225) rfl ?_
                                  refine g_lor hx dX4_claimAge_225 (nx := 226) rfl ?_
                                  refine g_lastore hx dX4_claimAge_226 (nx := 227) rfl (hM.1 29 _ rfl) (by decide) hin ?_
                                  refine g_iloadG hx dX4_claimAge_227 (nx := 229) rfl rfl ?_
                                  refine g_iret hx dX4_claimAge_229 rfl rfl (Nat.le_of_ble_eq_true rfl) (Nat.le_of_ble_eq_true rfl) ?_
                                  first
                                    | exact hf1 (fun z => qi z.1)
                                    | exact hf1 (fun z => qj z.2)
                                    | exact hf2 i j ih jh rfl rfl (fun z => c32 z.1)
                                    | exact hf2 i j ih jh rfl rfl (fun z => c41 z.2.1)
                                    | exact hf2 i j ih jh rfl rfl (fun z => c56 z.2.2.1)
                                    | exact hf2 i j ih jh rfl rfl (fun z => z.2.2.2 c71)
                                    | exact hf3 i j ih jh rfl rfl ⟨c32, c41, c56, c71⟩ (fun z => absurd ((nI_leI (a := 40) (b := nc) (by decide) (by omega)).mp (by rw [← h21]; exact c105)) (by omega))
                                    | exact hf3 i j ih jh rfl rfl ⟨c32, c41, c56, c71⟩ (fun z => z.2.1 c114)
                                    | exact hf3 i j ih jh rfl rfl ⟨c32, c41, c56, c71⟩ (fun z => z.2.2 c123)
                                    | (rw [hc]
                                       refine hk i j ih jh rfl rfl ⟨c32, c41, c56, c71⟩ hlt c114 c123 _ _ ⟨fun a b z1 z2 z3 => ?_, fun a b z1 z2 => ?_, ?_, ?_, ?_, ?_, ?_, fun z => absurd z (by decide), ?_, ?_, ?_⟩
                                       · rw [au2_n (by omega), mkI_n (by omega) (by omega), au2_n (by omega)]
                                       · rw [au2_n (by omega), au2_n (by omega)]
                                       · rw [au2_n (by omega), mkI_21]
                                       · rw [au2_n (by omega), mkI_n (by omega) (by omega), au2_s]
                                       · rw [au2_n (by omega), mkI_42]
                                       · rw [au2_n (by omega), mkI_43]
                                       · rw [au2_n (by omega), mkI_44]
                                       · rw [au2_s]
                                       · rw [au2_s]; rfl
                                       · rw [au2_n (by omega), mkI_50])
                                · refine g_aloadG_n hx dX4_claimAge_180 rfl (nx := 181) rfl rfl ?_
                                  refine g_getfo_R hx dX4_claimAge_181 (nx := 184) rfl fa_X4_73 rfl (r9 := 44) (hM.2 24 rfl) (hM.1 0 _ rfl) (by decide) ?_
                                  refine g_iloadG_n hx dX4_claimAge_184 rfl (nx := 185) rfl rfl ?_
                                  refine g_iaload hx dX4_claimAge_185 (nx := 186) rfl (hM.1 24 _ rfl) (by decide) iw9 ?_
                                  refine g_aloadG_n hx dX4_claimAge_186 rfl (nx := 187) rfl rfl ?_
                                  refine g_getfo_R hx dX4_claimAge_187 (nx := 190) rfl fa_X4_73 rfl (r9 := 44) (hM.2 24 rfl) (hM.1 0 _ rfl) (by decide) ?_
                                  refine g_iloadG_n hx dX4_claimAge_190 rfl (nx := 191) rfl rfl ?_
                                  refine g_iaload hx dX4_claimAge_191 (nx := 192) rfl (hM.1 24 _ rfl) (by decide) jw9 ?_
                                  refine g_isub hx dX4_claimAge_192 (nx := 193) rfl ?_
                                  refine g_goto hx dX4_claimAge_193 (tg := 209) (by decide) ?_
                                  rw [ic, jc, mkI_n (a := 44) (b := i) (by omega) (by omega), mkI_n (a := 44) (b := j) (by omega) (by omega), au2_n (by omega), au2_n (by omega)]
                                  have efar : I 44 i - I 44 j = iabs (I 44 i - I 44 j) := by
                                    rw [(hln i ih).1, (hln j jh).1] at c177 ⊢
                                    have hlt := (nI_ltI (a := ln j) (b := ln i) (by have := (hln j jh).2; omega) (by have := (hln i ih).2; omega)).mp (Int32.not_le.mp c177)
                                    rw [iabs, if_pos]
                                    rw [pk_sub (by omega)]; exact nI_pos' (by have := (hln i ih).2; omega)
                                  rw [efar]
                                  refine g_callV_M hx [_] (k' := 0) (n' := 0) dX4_claimAge_209 (nx := 212) rfl lk_X4_201 (hM.1 0 _ rfl) (by decide) rfl rfl (Nat.le_of_ble_eq_true rfl) (Nat.le_of_ble_eq_true rfl) (Nat.le_of_ble_eq_true rfl) (Nat.le_of_ble_eq_true rfl) (Nat.le_of_ble_eq_true rfl) (Nat.le_of_ble_eq_true rfl) (Nat.le_of_ble_eq_true rfl) (s_X4_ageBy (n := n) hst hM (by rw [mkI_n (by omega) (by omega), au2_n (by omega)]; exact h4) hn6 hn0 ?_)
                                  rw [mkI_n (by omega) (by omega), au2_n (by omega)]
                                  have ela : (fun k => mkI (au2 I 20 31 0) nc 1 (I 43 i) (I 44 i) 27 k) = fun k => I 27 k := funext fun k => by rw [mkI_n (by omega) (by omega), au2_n (by omega)]
                                  rw [ela]
                                  refine g_iastore hx dX4_claimAge_212 (nx := 213) rfl (hM.1 28 _ rfl) (by decide) hin ?_
                                  refine g_aloadG_n hx dX4_claimAge_213 rfl (nx := 214) rfl rfl ?_
                                  refine g_getfo_R hx dX4_claimAge_214 (nx := 217) rfl fa_X4_88 rfl (r9 := 49) (hM.2 29 rfl) (hM.1 0 _ rfl) (by decide) ?_
                                  refine g_iloadG hx dX4_claimAge_217 (nx := 219) rfl rfl ?_
                                  refine g_lconst hx dX4_claimAge_219 (nx := 220) rfl (v := 1) (by decide) ?_
                                  refine g_iloadG_n hx dX4_claimAge_220 rfl (nx := 221) rfl rfl ?_
                                  refine g_lshl hx dX4_claimAge_221 (nx := 222) rfl ?_
                                  refine g_lconst hx dX4_claimAge_222 (nx := 223) rfl (v := 1) (by decide) ?_
                                  refine g_iloadG_n hx dX4_claimAge_223 rfl (nx := 224) rfl rfl ?_
                                  refine g_lshl hx dX4_claimAge_224 (nx := 225) rfl ?_
                                  refine g_lor hx dX4_claimAge_225 (nx := 226) rfl ?_
                                  refine g_lastore hx dX4_claimAge_226 (nx := 227) rfl (hM.1 29 _ rfl) (by decide) hin ?_
                                  refine g_iloadG hx dX4_claimAge_227 (nx := 229) rfl rfl ?_
                                  refine g_iret hx dX4_claimAge_229 rfl rfl (Nat.le_of_ble_eq_true rfl) (Nat.le_of_ble_eq_true rfl) ?_
                                  first
                                    | exact hf1 (fun z => qi z.1)
                                    | exact hf1 (fun z => qj z.2)
                                    | exact hf2 i j ih jh rfl rfl (fun z => c32 z.1)
                                    | exact hf2 i j ih jh rfl rfl (fun z => c41 z.2.1)
                                    | exact hf2 i j ih jh rfl rfl (fun z => c56 z.2.2.1)
                                    | exact hf2 i j ih jh rfl rfl (fun z => z.2.2.2 c71)
                                    | exact hf3 i j ih jh rfl rfl ⟨c32, c41, c56, c71⟩ (fun z => absurd ((nI_leI (a := 40) (b := nc) (by decide) (by omega)).mp (by rw [← h21]; exact c105)) (by omega))
                                    | exact hf3 i j ih jh rfl rfl ⟨c32, c41, c56, c71⟩ (fun z => z.2.1 c114)
                                    | exact hf3 i j ih jh rfl rfl ⟨c32, c41, c56, c71⟩ (fun z => z.2.2 c123)
                                    | (rw [hc]
                                       refine hk i j ih jh rfl rfl ⟨c32, c41, c56, c71⟩ hlt c114 c123 _ _ ⟨fun a b z1 z2 z3 => ?_, fun a b z1 z2 => ?_, ?_, ?_, ?_, ?_, ?_, fun z => absurd z (by decide), ?_, ?_, ?_⟩
                                       · rw [au2_n (by omega), mkI_n (by omega) (by omega), au2_n (by omega)]
                                       · rw [au2_n (by omega), au2_n (by omega)]
                                       · rw [au2_n (by omega), mkI_21]
                                       · rw [au2_n (by omega), mkI_n (by omega) (by omega), au2_s]
                                       · rw [au2_n (by omega), mkI_42]
                                       · rw [au2_n (by omega), mkI_43]
                                       · rw [au2_n (by omega), mkI_44]
                                       · rw [au2_s]
                                       · rw [au2_s]; rfl
                                       · rw [au2_n (by omega), mkI_50])
                              · exact absurd c134 (by decide)
                      · exact absurd c92 (by decide)
                    · exact absurd c83 (by decide)
      · refine g_if_eq hx dX4_claimAge_13 (tg := 20) (by decide) (nx := 16) rfl (fun c13 => ?_) (fun c13 => ?_)
        · refine g_iconst hx dX4_claimAge_20 (nx := 21) rfl (v := 0) (by decide) ?_
          refine g_istore_3 hx dX4_claimAge_21 (nx := 22) rfl (by decide) rfl ?_
          refine g_iloadG_n hx dX4_claimAge_22 rfl (nx := 23) rfl rfl ?_
          refine g_if_eq hx dX4_claimAge_23 (tg := 78) (by decide) (nx := 26) rfl (fun c23 => ?_) (fun c23 => ?_)
          · refine g_iconst hx dX4_claimAge_78 (nx := 79) rfl (v := 0) (by decide) ?_
            refine g_istore_4 hx dX4_claimAge_79 (nx := 81) rfl (by decide) rfl ?_
            refine g_aloadG_n hx dX4_claimAge_81 rfl (nx := 82) rfl rfl ?_
            refine g_iloadG_n hx dX4_claimAge_82 rfl (nx := 83) rfl rfl ?_
            refine g_if_ne hx dX4_claimAge_83 (tg := 90) (by decide) (nx := 86) rfl (fun c83 => ?_) (fun c83 => ?_)
            · exact absurd c83 (by decide)
            · refine g_iconst hx dX4_claimAge_86 (nx := 87) rfl (v := 1) (by decide) ?_
              refine g_goto hx dX4_claimAge_87 (tg := 131) (by decide) ?_
              refine g_callV_M hx [_] (k' := 0) (n' := 0) dX4_claimAge_131 (nx := 134) rfl lk_X4_114 (hM.1 0 _ rfl) (by decide) rfl rfl (Nat.le_of_ble_eq_true rfl) (Nat.le_of_ble_eq_true rfl) (Nat.le_of_ble_eq_true rfl) (Nat.le_of_ble_eq_true rfl) (Nat.le_of_ble_eq_true rfl) (Nat.le_of_ble_eq_true rfl) (Nat.le_of_ble_eq_true rfl) (s_X4_can hst hM (fun z => absurd z (by decide)) (fun _ => ?_))
              refine g_if_ne hx dX4_claimAge_134 (tg := 139) (by decide) (nx := 137) rfl (fun c134 => ?_) (fun c134 => ?_)
              · exact absurd c134 (by decide)
              · refine g_iconst hx dX4_claimAge_137 (nx := 138) rfl (v := 0) (by decide) ?_
                refine g_iret hx dX4_claimAge_138 rfl rfl (Nat.le_of_ble_eq_true rfl) (Nat.le_of_ble_eq_true rfl) ?_
                first
                  | exact hf1 (fun z => qi z.1)
                  | exact hf1 (fun z => qj z.2)
                  | exact hf2 i j ih jh rfl rfl (fun z => c32 z.1)
                  | exact hf2 i j ih jh rfl rfl (fun z => c41 z.2.1)
                  | exact hf2 i j ih jh rfl rfl (fun z => c56 z.2.2.1)
                  | exact hf2 i j ih jh rfl rfl (fun z => z.2.2.2 c71)
                  | exact hf3 i j ih jh rfl rfl ⟨c32, c41, c56, c71⟩ (fun z => absurd ((nI_leI (a := 40) (b := nc) (by decide) (by omega)).mp (by rw [← h21]; exact c105)) (by omega))
                  | exact hf3 i j ih jh rfl rfl ⟨c32, c41, c56, c71⟩ (fun z => z.2.1 c114)
                  | exact hf3 i j ih jh rfl rfl ⟨c32, c41, c56, c71⟩ (fun z => z.2.2 c123)
                  | (rw [hc]
                     refine hk i j ih jh rfl rfl ⟨c32, c41, c56, c71⟩ hlt c114 c123 _ _ ⟨fun a b z1 z2 z3 => ?_, fun a b z1 z2 => ?_, ?_, ?_, ?_, ?_, ?_, fun z => absurd z (by decide), ?_, ?_, ?_⟩
                     · rw [au2_n (by omega), mkI_n (by omega) (by omega), au2_n (by omega)]
                     · rw [au2_n (by omega), au2_n (by omega)]
                     · rw [au2_n (by omega), mkI_21]
                     · rw [au2_n (by omega), mkI_n (by omega) (by omega), au2_s]
                     · rw [au2_n (by omega), mkI_42]
                     · rw [au2_n (by omega), mkI_43]
                     · rw [au2_n (by omega), mkI_44]
                     · rw [au2_s]
                     · rw [au2_s]; rfl
                     · rw [au2_n (by omega), mkI_50])
          · exact absurd c23 (by decide)
        · exact absurd c13 (by decide)
  · refine g_if_eq hx dX4_claimAge_5 (tg := 20) (by decide) (nx := 8) rfl (fun c5 => ?_) (fun c5 => ?_)
    · refine g_iconst hx dX4_claimAge_20 (nx := 21) rfl (v := 0) (by decide) ?_
      refine g_istore_3 hx dX4_claimAge_21 (nx := 22) rfl (by decide) rfl ?_
      refine g_iloadG_n hx dX4_claimAge_22 rfl (nx := 23) rfl rfl ?_
      refine g_if_eq hx dX4_claimAge_23 (tg := 78) (by decide) (nx := 26) rfl (fun c23 => ?_) (fun c23 => ?_)
      · refine g_iconst hx dX4_claimAge_78 (nx := 79) rfl (v := 0) (by decide) ?_
        refine g_istore_4 hx dX4_claimAge_79 (nx := 81) rfl (by decide) rfl ?_
        refine g_aloadG_n hx dX4_claimAge_81 rfl (nx := 82) rfl rfl ?_
        refine g_iloadG_n hx dX4_claimAge_82 rfl (nx := 83) rfl rfl ?_
        refine g_if_ne hx dX4_claimAge_83 (tg := 90) (by decide) (nx := 86) rfl (fun c83 => ?_) (fun c83 => ?_)
        · exact absurd c83 (by decide)
        · refine g_iconst hx dX4_claimAge_86 (nx := 87) rfl (v := 1) (by decide) ?_
          refine g_goto hx dX4_claimAge_87 (tg := 131) (by decide) ?_
          refine g_callV_M hx [_] (k' := 0) (n' := 0) dX4_claimAge_131 (nx := 134) rfl lk_X4_114 (hM.1 0 _ rfl) (by decide) rfl rfl (Nat.le_of_ble_eq_true rfl) (Nat.le_of_ble_eq_true rfl) (Nat.le_of_ble_eq_true rfl) (Nat.le_of_ble_eq_true rfl) (Nat.le_of_ble_eq_true rfl) (Nat.le_of_ble_eq_true rfl) (Nat.le_of_ble_eq_true rfl) (s_X4_can hst hM (fun z => absurd z (by decide)) (fun _ => ?_))
          refine g_if_ne hx dX4_claimAge_134 (tg := 139) (by decide) (nx := 137) rfl (fun c134 => ?_) (fun c134 => ?_)
          · exact absurd c134 (by decide)
          · refine g_iconst hx dX4_claimAge_137 (nx := 138) rfl (v := 0) (by decide) ?_
            refine g_iret hx dX4_claimAge_138 rfl rfl (Nat.le_of_ble_eq_true rfl) (Nat.le_of_ble_eq_true rfl) ?_
            first
              | exact hf1 (fun z => qi z.1)
              | exact hf1 (fun z => qj z.2)
              | exact hf2 i j ih jh rfl rfl (fun z => c32 z.1)
              | exact hf2 i j ih jh rfl rfl (fun z => c41 z.2.1)
              | exact hf2 i j ih jh rfl rfl (fun z => c56 z.2.2.1)
              | exact hf2 i j ih jh rfl rfl (fun z => z.2.2.2 c71)
              | exact hf3 i j ih jh rfl rfl ⟨c32, c41, c56, c71⟩ (fun z => absurd ((nI_leI (a := 40) (b := nc) (by decide) (by omega)).mp (by rw [← h21]; exact c105)) (by omega))
              | exact hf3 i j ih jh rfl rfl ⟨c32, c41, c56, c71⟩ (fun z => z.2.1 c114)
              | exact hf3 i j ih jh rfl rfl ⟨c32, c41, c56, c71⟩ (fun z => z.2.2 c123)
              | (rw [hc]
                 refine hk i j ih jh rfl rfl ⟨c32, c41, c56, c71⟩ hlt c114 c123 _ _ ⟨fun a b z1 z2 z3 => ?_, fun a b z1 z2 => ?_, ?_, ?_, ?_, ?_, ?_, fun z => absurd z (by decide), ?_, ?_, ?_⟩
                 · rw [au2_n (by omega), mkI_n (by omega) (by omega), au2_n (by omega)]
                 · rw [au2_n (by omega), au2_n (by omega)]
                 · rw [au2_n (by omega), mkI_21]
                 · rw [au2_n (by omega), mkI_n (by omega) (by omega), au2_s]
                 · rw [au2_n (by omega), mkI_42]
                 · rw [au2_n (by omega), mkI_43]
                 · rw [au2_n (by omega), mkI_44]
                 · rw [au2_s]
                 · rw [au2_s]; rfl
                 · rw [au2_n (by omega), mkI_50])
      · exact absurd c23 (by decide)
    · exact absurd c5 (by decide)

abbrev rmX4_claimPlanet : Room := { frames := 2, cells := 0, slots := 0, locals := 43 }
set_option maxHeartbeats 4000000 in
set_option maxRecDepth 100000 in
theorem s_X4_claimPlanet {l : Launch} {E : aE} {S : aS} {I : aI} {L : aL} {Rf : aR} {Kr : aK} {Kx : aX} (hst : l.stackTraces = false) {nc : Nat} {x : Int32} (hM : lyM S Rf) (h21 : I 20 21 = nI nc) (hn40 : nc ≤ 40) (hf1 : ¬ inN x nc → Kr (some (.int 0)) S (au2 I 20 31 1) L Rf) (hf2 : ∀ i, i < nc → x = nI i → I 42 i ≠ 0 → Kr (some (.int 0)) S (au2 I 20 31 2) L Rf) (hf3 : ∀ i, i < nc → x = nI i → I 42 i = 0 → ¬ (nc < 40 ∧ I 50 i ≠ 0) → Kr (some (.int 0)) S (au2 I 20 31 3) L Rf) (hk : ∀ i, i < nc → x = nI i → I 42 i = 0 → nc < 40 → I 50 i ≠ 0 → ∀ I' L', newM nc I L I' L' 2 (I 43 i) (I 44 i) 0 0 0 (-1) (bitL (nI i)) → Kr (some (.int (nI nc))) S I' L' Rf) : aMet l E yX4_claimPlanet cX4_claimPlanet 5 (some .int) rmX4_claimPlanet [.ref 20, .int x] (S) (I) (L) (Rf) Kr Kx := by
  refine aMet.of (lv0 := [.ref 20, .int x, aU, aU, aU]) (z := 3) (by decide +kernel) hst rfl (Nat.le_of_ble_eq_true rfl) ?_
  intro p e s m args below meth c io0 hx hin hno
  have hx : aCx p l s m args meth c RX4 cX4_claimPlanet 5 (some .int) E := hx
  refine g_aloadG_n hx dX4_claimPlanet_0 rfl (nx := 1) rfl rfl ?_
  refine g_iloadG_n hx dX4_claimPlanet_1 rfl (nx := 2) rfl rfl ?_
  refine g_callV_M hx [_] (k' := 0) (n' := 0) dX4_claimPlanet_2 (nx := 5) rfl lk_X4_198 (hM.1 0 _ rfl) (by decide) rfl rfl (Nat.le_of_ble_eq_true rfl) (Nat.le_of_ble_eq_true rfl) (Nat.le_of_ble_eq_true rfl) (Nat.le_of_ble_eq_true rfl) (Nat.le_of_ble_eq_true rfl) (Nat.le_of_ble_eq_true rfl) (Nat.le_of_ble_eq_true rfl) (s_X4_isClaim (nc := nc) hst hM h21 hn40 (fun i ih ei => ?_) (fun qi => ?_))
  · subst ei
    have ic : (nI i).toNatClampNeg = i := nI_clamp (by omega)
    have iw9 : vp_in (nI i) 40 := vp_in_nI (by omega) (by decide)
    refine g_istore_2 hx dX4_claimPlanet_5 (nx := 6) rfl (by decide) rfl ?_
    refine g_iloadG_n hx dX4_claimPlanet_6 rfl (nx := 7) rfl rfl ?_
    refine g_if_eq hx dX4_claimPlanet_7 (tg := 23) (by decide) (nx := 10) rfl (fun c7 => ?_) (fun c7 => ?_)
    · exact absurd c7 (by decide)
    · refine g_aloadG_n hx dX4_claimPlanet_10 rfl (nx := 11) rfl rfl ?_
      refine g_getfo_R hx dX4_claimPlanet_11 (nx := 14) rfl fa_X4_67 rfl (r9 := 42) (hM.2 22 rfl) (hM.1 0 _ rfl) (by decide) ?_
      refine g_iloadG_n hx dX4_claimPlanet_14 rfl (nx := 15) rfl rfl ?_
      refine g_iaload hx dX4_claimPlanet_15 (nx := 16) rfl (hM.1 22 _ rfl) (by decide) iw9 ?_
      rw [ic]
      refine g_if_ne hx dX4_claimPlanet_16 (tg := 23) (by decide) (nx := 19) rfl (fun c16 => ?_) (fun c16 => ?_)
      · refine g_iconst hx dX4_claimPlanet_23 (nx := 24) rfl (v := 0) (by decide) ?_
        refine g_istore_3 hx dX4_claimPlanet_24 (nx := 25) rfl (by decide) rfl ?_
        refine g_aloadG_n hx dX4_claimPlanet_25 rfl (nx := 26) rfl rfl ?_
        refine g_iloadG_n hx dX4_claimPlanet_26 rfl (nx := 27) rfl rfl ?_
        refine g_if_ne hx dX4_claimPlanet_27 (tg := 34) (by decide) (nx := 30) rfl (fun c27 => ?_) (fun c27 => ?_)
        · refine g_iloadG_n hx dX4_claimPlanet_34 rfl (nx := 35) rfl rfl ?_
          refine g_if_ne hx dX4_claimPlanet_35 (tg := 42) (by decide) (nx := 38) rfl (fun c35 => ?_) (fun c35 => ?_)
          · exact absurd c35 (by decide)
          · refine g_iconst hx dX4_claimPlanet_38 (nx := 39) rfl (v := 2) (by decide) ?_
            refine g_goto hx dX4_claimPlanet_39 (tg := 65) (by decide) ?_
            refine g_callV_M hx [_] (k' := 0) (n' := 0) dX4_claimPlanet_65 (nx := 68) rfl lk_X4_114 (hM.1 0 _ rfl) (by decide) rfl rfl (Nat.le_of_ble_eq_true rfl) (Nat.le_of_ble_eq_true rfl) (Nat.le_of_ble_eq_true rfl) (Nat.le_of_ble_eq_true rfl) (Nat.le_of_ble_eq_true rfl) (Nat.le_of_ble_eq_true rfl) (Nat.le_of_ble_eq_true rfl) (s_X4_can hst hM (fun z => absurd z (by decide)) (fun _ => ?_))
            refine g_if_ne hx dX4_claimPlanet_68 (tg := 73) (by decide) (nx := 71) rfl (fun c68 => ?_) (fun c68 => ?_)
            · exact absurd c68 (by decide)
            · refine g_iconst hx dX4_claimPlanet_71 (nx := 72) rfl (v := 0) (by decide) ?_
              refine g_iret hx dX4_claimPlanet_72 rfl rfl (Nat.le_of_ble_eq_true rfl) (Nat.le_of_ble_eq_true rfl) ?_
              first
                | exact hf1 qi
                | exact hf2 i ih rfl c16
                | exact hf3 i ih rfl c16 (fun z => absurd ((nI_leI (a := 40) (b := nc) (by decide) (by omega)).mp (by rw [← h21]; exact c48)) (by omega))
                | exact hf3 i ih rfl c16 (fun z => z.2 c57)
                | (rw [hc]
                   refine hk i ih rfl c16 hlt c57 _ _ ⟨fun a b z1 z2 z3 => ?_, fun a b z1 z2 => ?_, ?_, ?_, ?_, ?_, ?_, fun z => absurd z (by decide), ?_, ?_, ?_⟩
                   · rw [mkI_n (by omega) (by omega), au2_n (by omega)]
                   · rw [au2_n (by omega), au2_n (by omega)]
                   · rw [mkI_21]
                   · rw [mkI_n (by omega) (by omega), au2_s]
                   · rw [mkI_42]
                   · rw [mkI_43]
                   · rw [mkI_44]
                   · rw [mkI_48]
                   · rw [au2_s]; rfl
                   · rw [mkI_50])
        · exact absurd c27 (by decide)
      · refine g_iconst hx dX4_claimPlanet_19 (nx := 20) rfl (v := 1) (by decide) ?_
        refine g_goto hx dX4_claimPlanet_20 (tg := 24) (by decide) ?_
        refine g_istore_3 hx dX4_claimPlanet_24 (nx := 25) rfl (by decide) rfl ?_
        refine g_aloadG_n hx dX4_claimPlanet_25 rfl (nx := 26) rfl rfl ?_
        refine g_iloadG_n hx dX4_claimPlanet_26 rfl (nx := 27) rfl rfl ?_
        refine g_if_ne hx dX4_claimPlanet_27 (tg := 34) (by decide) (nx := 30) rfl (fun c27 => ?_) (fun c27 => ?_)
        · refine g_iloadG_n hx dX4_claimPlanet_34 rfl (nx := 35) rfl rfl ?_
          refine g_if_ne hx dX4_claimPlanet_35 (tg := 42) (by decide) (nx := 38) rfl (fun c35 => ?_) (fun c35 => ?_)
          · refine g_aloadG_n hx dX4_claimPlanet_42 rfl (nx := 43) rfl rfl ?_
            refine g_getfo_i hx dX4_claimPlanet_43 (nx := 46) rfl fa_X4_108 rfl (hM.1 0 _ rfl) (by decide) ?_
            refine g_bipush hx dX4_claimPlanet_46 (nx := 48) rfl (v := 40) (by decide) ?_
            refine g_icmp_ge hx dX4_claimPlanet_48 (tg := 64) (by decide) (nx := 51) rfl (fun c48 => ?_) (fun c48 => ?_)
            · refine g_iconst hx dX4_claimPlanet_64 (nx := 65) rfl (v := 3) (by decide) ?_
              refine g_callV_M hx [_] (k' := 0) (n' := 0) dX4_claimPlanet_65 (nx := 68) rfl lk_X4_114 (hM.1 0 _ rfl) (by decide) rfl rfl (Nat.le_of_ble_eq_true rfl) (Nat.le_of_ble_eq_true rfl) (Nat.le_of_ble_eq_true rfl) (Nat.le_of_ble_eq_true rfl) (Nat.le_of_ble_eq_true rfl) (Nat.le_of_ble_eq_true rfl) (Nat.le_of_ble_eq_true rfl) (s_X4_can hst hM (fun z => absurd z (by decide)) (fun _ => ?_))
              refine g_if_ne hx dX4_claimPlanet_68 (tg := 73) (by decide) (nx := 71) rfl (fun c68 => ?_) (fun c68 => ?_)
              · exact absurd c68 (by decide)
              · refine g_iconst hx dX4_claimPlanet_71 (nx := 72) rfl (v := 0) (by decide) ?_
                refine g_iret hx dX4_claimPlanet_72 rfl rfl (Nat.le_of_ble_eq_true rfl) (Nat.le_of_ble_eq_true rfl) ?_
                first
                  | exact hf1 qi
                  | exact hf2 i ih rfl c16
                  | exact hf3 i ih rfl c16 (fun z => absurd ((nI_leI (a := 40) (b := nc) (by decide) (by omega)).mp (by rw [← h21]; exact c48)) (by omega))
                  | exact hf3 i ih rfl c16 (fun z => z.2 c57)
                  | (rw [hc]
                     refine hk i ih rfl c16 hlt c57 _ _ ⟨fun a b z1 z2 z3 => ?_, fun a b z1 z2 => ?_, ?_, ?_, ?_, ?_, ?_, fun z => absurd z (by decide), ?_, ?_, ?_⟩
                     · rw [mkI_n (by omega) (by omega), au2_n (by omega)]
                     · rw [au2_n (by omega), au2_n (by omega)]
                     · rw [mkI_21]
                     · rw [mkI_n (by omega) (by omega), au2_s]
                     · rw [mkI_42]
                     · rw [mkI_43]
                     · rw [mkI_44]
                     · rw [mkI_48]
                     · rw [au2_s]; rfl
                     · rw [mkI_50])
            · have hlt : nc < 40 := (nI_ltI (by omega) (by decide)).mp (by rw [← h21]; exact Int32.not_le.mp c48)
              refine g_aloadG_n hx dX4_claimPlanet_51 rfl (nx := 52) rfl rfl ?_
              refine g_getfo_R hx dX4_claimPlanet_52 (nx := 55) rfl fa_X4_91 rfl (r9 := 50) (hM.2 30 rfl) (hM.1 0 _ rfl) (by decide) ?_
              refine g_iloadG_n hx dX4_claimPlanet_55 rfl (nx := 56) rfl rfl ?_
              refine g_baload hx dX4_claimPlanet_56 (nx := 57) rfl (hM.1 30 _ rfl) (by decide) iw9 ?_
              rw [ic]
              refine g_if_eq hx dX4_claimPlanet_57 (tg := 64) (by decide) (nx := 60) rfl (fun c57 => ?_) (fun c57 => ?_)
              · refine g_iconst hx dX4_claimPlanet_64 (nx := 65) rfl (v := 3) (by decide) ?_
                refine g_callV_M hx [_] (k' := 0) (n' := 0) dX4_claimPlanet_65 (nx := 68) rfl lk_X4_114 (hM.1 0 _ rfl) (by decide) rfl rfl (Nat.le_of_ble_eq_true rfl) (Nat.le_of_ble_eq_true rfl) (Nat.le_of_ble_eq_true rfl) (Nat.le_of_ble_eq_true rfl) (Nat.le_of_ble_eq_true rfl) (Nat.le_of_ble_eq_true rfl) (Nat.le_of_ble_eq_true rfl) (s_X4_can hst hM (fun z => absurd z (by decide)) (fun _ => ?_))
                refine g_if_ne hx dX4_claimPlanet_68 (tg := 73) (by decide) (nx := 71) rfl (fun c68 => ?_) (fun c68 => ?_)
                · exact absurd c68 (by decide)
                · refine g_iconst hx dX4_claimPlanet_71 (nx := 72) rfl (v := 0) (by decide) ?_
                  refine g_iret hx dX4_claimPlanet_72 rfl rfl (Nat.le_of_ble_eq_true rfl) (Nat.le_of_ble_eq_true rfl) ?_
                  first
                    | exact hf1 qi
                    | exact hf2 i ih rfl c16
                    | exact hf3 i ih rfl c16 (fun z => absurd ((nI_leI (a := 40) (b := nc) (by decide) (by omega)).mp (by rw [← h21]; exact c48)) (by omega))
                    | exact hf3 i ih rfl c16 (fun z => z.2 c57)
                    | (rw [hc]
                       refine hk i ih rfl c16 hlt c57 _ _ ⟨fun a b z1 z2 z3 => ?_, fun a b z1 z2 => ?_, ?_, ?_, ?_, ?_, ?_, fun z => absurd z (by decide), ?_, ?_, ?_⟩
                       · rw [mkI_n (by omega) (by omega), au2_n (by omega)]
                       · rw [au2_n (by omega), au2_n (by omega)]
                       · rw [mkI_21]
                       · rw [mkI_n (by omega) (by omega), au2_s]
                       · rw [mkI_42]
                       · rw [mkI_43]
                       · rw [mkI_44]
                       · rw [mkI_48]
                       · rw [au2_s]; rfl
                       · rw [mkI_50])
              · refine g_iconst hx dX4_claimPlanet_60 (nx := 61) rfl (v := 0) (by decide) ?_
                refine g_goto hx dX4_claimPlanet_61 (tg := 65) (by decide) ?_
                refine g_callV_M hx [_] (k' := 0) (n' := 0) dX4_claimPlanet_65 (nx := 68) rfl lk_X4_114 (hM.1 0 _ rfl) (by decide) rfl rfl (Nat.le_of_ble_eq_true rfl) (Nat.le_of_ble_eq_true rfl) (Nat.le_of_ble_eq_true rfl) (Nat.le_of_ble_eq_true rfl) (Nat.le_of_ble_eq_true rfl) (Nat.le_of_ble_eq_true rfl) (Nat.le_of_ble_eq_true rfl) (s_X4_can hst hM (fun _ => ?_) (fun z => absurd rfl z))
                refine g_if_ne hx dX4_claimPlanet_68 (tg := 73) (by decide) (nx := 71) rfl (fun c68 => ?_) (fun c68 => ?_)
                · have hin : vp_in (nI nc) 40 := vp_in_nI hlt (by decide)
                  have hc : (nI nc).toNatClampNeg = nc := nI_clamp (by omega)
                  refine g_aloadG_n hx dX4_claimPlanet_73 rfl (nx := 74) rfl rfl ?_
                  refine g_iconst hx dX4_claimPlanet_74 (nx := 75) rfl (v := 2) (by decide) ?_
                  refine g_aloadG_n hx dX4_claimPlanet_75 rfl (nx := 76) rfl rfl ?_
                  refine g_getfo_R hx dX4_claimPlanet_76 (nx := 79) rfl fa_X4_70 rfl (r9 := 43) (hM.2 23 rfl) (hM.1 0 _ rfl) (by decide) ?_
                  refine g_iloadG_n hx dX4_claimPlanet_79 rfl (nx := 80) rfl rfl ?_
                  refine g_iaload hx dX4_claimPlanet_80 (nx := 81) rfl (hM.1 23 _ rfl) (by decide) iw9 ?_
                  refine g_aloadG_n hx dX4_claimPlanet_81 rfl (nx := 82) rfl rfl ?_
                  refine g_getfo_R hx dX4_claimPlanet_82 (nx := 85) rfl fa_X4_73 rfl (r9 := 44) (hM.2 24 rfl) (hM.1 0 _ rfl) (by decide) ?_
                  refine g_iloadG_n hx dX4_claimPlanet_85 rfl (nx := 86) rfl rfl ?_
                  refine g_iaload hx dX4_claimPlanet_86 (nx := 87) rfl (hM.1 24 _ rfl) (by decide) iw9 ?_
                  rw [ic, au2_n (by omega), au2_n (by omega)]
                  refine g_callV_M hx [_, _, _] (k' := 0) (n' := 0) dX4_claimPlanet_87 (nx := 90) rfl lk_X4_189 (hM.1 0 _ rfl) (by decide) rfl rfl (Nat.le_of_ble_eq_true rfl) (Nat.le_of_ble_eq_true rfl) (Nat.le_of_ble_eq_true rfl) (Nat.le_of_ble_eq_true rfl) (Nat.le_of_ble_eq_true rfl) (Nat.le_of_ble_eq_true rfl) (Nat.le_of_ble_eq_true rfl) (s_X4_makes (nc := nc) hst hM (by rw [au2_n (by omega)]; exact h21) hlt ?_)
                  refine g_istore_4 hx dX4_claimPlanet_90 (nx := 92) rfl (by decide) rfl ?_
                  refine g_aloadG_n hx dX4_claimPlanet_92 rfl (nx := 93) rfl rfl ?_
                  refine g_getfo_R hx dX4_claimPlanet_93 (nx := 96) rfl fa_X4_88 rfl (r9 := 49) (hM.2 29 rfl) (hM.1 0 _ rfl) (by decide) ?_
                  refine g_iloadG hx dX4_claimPlanet_96 (nx := 98) rfl rfl ?_
                  refine g_lconst hx dX4_claimPlanet_98 (nx := 99) rfl (v := 1) (by decide) ?_
                  refine g_iloadG_n hx dX4_claimPlanet_99 rfl (nx := 100) rfl rfl ?_
                  refine g_lshl hx dX4_claimPlanet_100 (nx := 101) rfl ?_
                  refine g_lastore hx dX4_claimPlanet_101 (nx := 102) rfl (hM.1 29 _ rfl) (by decide) hin ?_
                  refine g_iloadG hx dX4_claimPlanet_102 (nx := 104) rfl rfl ?_
                  refine g_iret hx dX4_claimPlanet_104 rfl rfl (Nat.le_of_ble_eq_true rfl) (Nat.le_of_ble_eq_true rfl) ?_
                  first
                    | exact hf1 qi
                    | exact hf2 i ih rfl c16
                    | exact hf3 i ih rfl c16 (fun z => absurd ((nI_leI (a := 40) (b := nc) (by decide) (by omega)).mp (by rw [← h21]; exact c48)) (by omega))
                    | exact hf3 i ih rfl c16 (fun z => z.2 c57)
                    | (rw [hc]
                       refine hk i ih rfl c16 hlt c57 _ _ ⟨fun a b z1 z2 z3 => ?_, fun a b z1 z2 => ?_, ?_, ?_, ?_, ?_, ?_, fun z => absurd z (by decide), ?_, ?_, ?_⟩
                       · rw [mkI_n (by omega) (by omega), au2_n (by omega)]
                       · rw [au2_n (by omega), au2_n (by omega)]
                       · rw [mkI_21]
                       · rw [mkI_n (by omega) (by omega), au2_s]
                       · rw [mkI_42]
                       · rw [mkI_43]
                       · rw [mkI_44]
                       · rw [mkI_48]
                       · rw [au2_s]; rfl
                       · rw [mkI_50])
                · exact absurd c68 (by decide)
          · exact absurd c35 (by decide)
        · exact absurd c27 (by decide)
  · refine g_istore_2 hx dX4_claimPlanet_5 (nx := 6) rfl (by decide) rfl ?_
    refine g_iloadG_n hx dX4_claimPlanet_6 rfl (nx := 7) rfl rfl ?_
    refine g_if_eq hx dX4_claimPlanet_7 (tg := 23) (by decide) (nx := 10) rfl (fun c7 => ?_) (fun c7 => ?_)
    · refine g_iconst hx dX4_claimPlanet_23 (nx := 24) rfl (v := 0) (by decide) ?_
      refine g_istore_3 hx dX4_claimPlanet_24 (nx := 25) rfl (by decide) rfl ?_
      refine g_aloadG_n hx dX4_claimPlanet_25 rfl (nx := 26) rfl rfl ?_
      refine g_iloadG_n hx dX4_claimPlanet_26 rfl (nx := 27) rfl rfl ?_
      refine g_if_ne hx dX4_claimPlanet_27 (tg := 34) (by decide) (nx := 30) rfl (fun c27 => ?_) (fun c27 => ?_)
      · exact absurd c27 (by decide)
      · refine g_iconst hx dX4_claimPlanet_30 (nx := 31) rfl (v := 1) (by decide) ?_
        refine g_goto hx dX4_claimPlanet_31 (tg := 65) (by decide) ?_
        refine g_callV_M hx [_] (k' := 0) (n' := 0) dX4_claimPlanet_65 (nx := 68) rfl lk_X4_114 (hM.1 0 _ rfl) (by decide) rfl rfl (Nat.le_of_ble_eq_true rfl) (Nat.le_of_ble_eq_true rfl) (Nat.le_of_ble_eq_true rfl) (Nat.le_of_ble_eq_true rfl) (Nat.le_of_ble_eq_true rfl) (Nat.le_of_ble_eq_true rfl) (Nat.le_of_ble_eq_true rfl) (s_X4_can hst hM (fun z => absurd z (by decide)) (fun _ => ?_))
        refine g_if_ne hx dX4_claimPlanet_68 (tg := 73) (by decide) (nx := 71) rfl (fun c68 => ?_) (fun c68 => ?_)
        · exact absurd c68 (by decide)
        · refine g_iconst hx dX4_claimPlanet_71 (nx := 72) rfl (v := 0) (by decide) ?_
          refine g_iret hx dX4_claimPlanet_72 rfl rfl (Nat.le_of_ble_eq_true rfl) (Nat.le_of_ble_eq_true rfl) ?_
          first
            | exact hf1 qi
            | exact hf2 i ih rfl c16
            | exact hf3 i ih rfl c16 (fun z => absurd ((nI_leI (a := 40) (b := nc) (by decide) (by omega)).mp (by rw [← h21]; exact c48)) (by omega))
            | exact hf3 i ih rfl c16 (fun z => z.2 c57)
            | (rw [hc]
               refine hk i ih rfl c16 hlt c57 _ _ ⟨fun a b z1 z2 z3 => ?_, fun a b z1 z2 => ?_, ?_, ?_, ?_, ?_, ?_, fun z => absurd z (by decide), ?_, ?_, ?_⟩
               · rw [mkI_n (by omega) (by omega), au2_n (by omega)]
               · rw [au2_n (by omega), au2_n (by omega)]
               · rw [mkI_21]
               · rw [mkI_n (by omega) (by omega), au2_s]
               · rw [mkI_42]
               · rw [mkI_43]
               · rw [mkI_44]
               · rw [mkI_48]
               · rw [au2_s]; rfl
               · rw [mkI_50])
    · exact absurd c7 (by decide)

def bqP (c : Int64) (k : Nat) : Prop := c >>> ((nI k).toInt64 &&& 63) &&& 1 = 1
noncomputable def ctM (c : Int64) : Nat → Int32
  | 0 => 0
  | k + 1 => ctM c k + zI (bqP c k)
abbrev rmX4_citesOf : Room := { frames := 0, cells := 0, slots := 0, locals := 0 }
set_option maxHeartbeats 4000000 in
set_option maxRecDepth 100000 in
theorem s_X4_citesOf {l : Launch} {E : aE} {S : aS} {I : aI} {L : aL} {Rf : aR} {Kr : aK} {Kx : aX} (hst : l.stackTraces = false) {nc i9 : Nat} (hM : lyM S Rf) (h21 : I 20 21 = nI nc) (hn40 : nc ≤ 40) (hi9 : i9 < 40) (hk : Kr (some (.int (ctM (L 49 i9) nc))) S I L Rf) : aMet l E yX4_citesOf cX4_citesOf 4 (some .int) rmX4_citesOf [.ref 20, .int (nI i9)] (S) (I) (L) (Rf) Kr Kx := by
  refine aMet.of (lv0 := [.ref 20, .int (nI i9), aU, aU]) (z := 2) (by decide +kernel) hst rfl (Nat.le_of_ble_eq_true rfl) ?_
  intro p e s m args below meth c io0 hx hin hno
  have hx : aCx p l s m args meth c RX4 cX4_citesOf 4 (some .int) E := hx
  have hc : (nI i9).toNatClampNeg = i9 := nI_clamp (by omega)
  have hin : vp_in (nI i9) 40 := vp_in_nI hi9 (by decide)
  have loop1 : ∀ (r i : Nat) , i + r = nc → aG p l e rmX4_citesOf s m args below meth c E io0 S 4 (vx_MQ below (aQc E io0 S Kr) (aXC E io0 S Kx) args s rmX4_citesOf.cells rmX4_citesOf.slots (aW E)) 4 [.ref 20, .int (nI i9), .int (ctM (L 49 i9) i), .int (nI i)] [] (S) (I) (L) (Rf) 0 0 := by
    intro r
    induction r with
    | zero =>
      intro i hi
      have hi : i = nc := by omega
      subst hi
      refine g_iloadG_n hx dX4_citesOf_4 rfl (nx := 5) rfl rfl ?_
      refine g_aloadG_n hx dX4_citesOf_5 rfl (nx := 6) rfl rfl ?_
      refine g_getfo_i hx dX4_citesOf_6 (nx := 9) rfl fa_X4_108 rfl (hM.1 0 _ rfl) (by decide) ?_
      refine g_icmp_ge hx dX4_citesOf_9 (tg := 41) (by decide) (nx := 12) rfl (fun c9 => ?_) (fun c9 => ?_)
      · refine g_iloadG_n hx dX4_citesOf_41 rfl (nx := 42) rfl rfl ?_
        refine g_iret hx dX4_citesOf_42 rfl rfl (Nat.le_of_ble_eq_true rfl) (Nat.le_of_ble_eq_true rfl) ?_
        exact hk
      · exact absurd (by rw [h21]; exact Int32.le_refl _) c9
    | succ r ih =>
      intro i hi
      refine g_iloadG_n hx dX4_citesOf_4 rfl (nx := 5) rfl rfl ?_
      refine g_aloadG_n hx dX4_citesOf_5 rfl (nx := 6) rfl rfl ?_
      refine g_getfo_i hx dX4_citesOf_6 (nx := 9) rfl fa_X4_108 rfl (hM.1 0 _ rfl) (by decide) ?_
      refine g_icmp_ge hx dX4_citesOf_9 (tg := 41) (by decide) (nx := 12) rfl (fun c9 => ?_) (fun c9 => ?_)
      · exact absurd c9 (by rw [h21]; exact nI_ge (by omega) (by omega))
      · refine g_iloadG_n hx dX4_citesOf_12 rfl (nx := 13) rfl rfl ?_
        refine g_aloadG_n hx dX4_citesOf_13 rfl (nx := 14) rfl rfl ?_
        refine g_getfo_R hx dX4_citesOf_14 (nx := 17) rfl fa_X4_88 rfl (r9 := 49) (hM.2 29 rfl) (hM.1 0 _ rfl) (by decide) ?_
        refine g_iloadG_n hx dX4_citesOf_17 rfl (nx := 18) rfl rfl ?_
        refine g_laload hx dX4_citesOf_18 (nx := 19) rfl (hM.1 29 _ rfl) (by decide) hin ?_
        rw [hc]
        refine g_iloadG_n hx dX4_citesOf_19 rfl (nx := 20) rfl rfl ?_
        refine g_lshr hx dX4_citesOf_20 (nx := 21) rfl ?_
        refine g_lconst hx dX4_citesOf_21 (nx := 22) rfl (v := 1) (by decide) ?_
        refine g_land hx dX4_citesOf_22 (nx := 23) rfl ?_
        refine g_lconst hx dX4_citesOf_23 (nx := 24) rfl (v := 1) (by decide) ?_
        refine g_lcmp hx dX4_citesOf_24 (nx := 25) rfl ?_
        refine g_if_ne hx dX4_citesOf_25 (tg := 32) (by decide) (nx := 28) rfl (fun c25 => ?_) (fun c25 => ?_)
        · refine g_iconst hx dX4_citesOf_32 (nx := 33) rfl (v := 0) (by decide) ?_
          refine g_iadd hx dX4_citesOf_33 (nx := 34) rfl ?_
          refine g_istore_2 hx dX4_citesOf_34 (nx := 35) rfl (by decide) rfl ?_
          refine g_iinc_3 hx dX4_citesOf_35 (nx := 38) rfl (by decide) (v := 1) (by decide) rfl ?_
          refine g_goto hx dX4_citesOf_38 (tg := 4) (by decide) ?_
          rw [← nI_succ]
          have K := ih (i + 1) (by omega)
          rw [ctM] at K
          first
            | (rw [zI_t (show bqP (L 49 i9) i from (lg_cmp_eq _ _).mp c25)] at K; exact K)
            | (rw [zI_f (show ¬ bqP (L 49 i9) i from fun z => c25 ((lg_cmp_eq _ _).mpr z))] at K; exact K)
        · refine g_iconst hx dX4_citesOf_28 (nx := 29) rfl (v := 1) (by decide) ?_
          refine g_goto hx dX4_citesOf_29 (tg := 33) (by decide) ?_
          refine g_iadd hx dX4_citesOf_33 (nx := 34) rfl ?_
          refine g_istore_2 hx dX4_citesOf_34 (nx := 35) rfl (by decide) rfl ?_
          refine g_iinc_3 hx dX4_citesOf_35 (nx := 38) rfl (by decide) (v := 1) (by decide) rfl ?_
          refine g_goto hx dX4_citesOf_38 (tg := 4) (by decide) ?_
          rw [← nI_succ]
          have K := ih (i + 1) (by omega)
          rw [ctM] at K
          first
            | (rw [zI_t (show bqP (L 49 i9) i from (lg_cmp_eq _ _).mp c25)] at K; exact K)
            | (rw [zI_f (show ¬ bqP (L 49 i9) i from fun z => c25 ((lg_cmp_eq _ _).mpr z))] at K; exact K)
  refine g_iconst hx dX4_citesOf_0 (nx := 1) rfl (v := 0) (by decide) ?_
  refine g_istore_2 hx dX4_citesOf_1 (nx := 2) rfl (by decide) rfl ?_
  refine g_iconst hx dX4_citesOf_2 (nx := 3) rfl (v := 0) (by decide) ?_
  refine g_istore_3 hx dX4_citesOf_3 (nx := 4) rfl (by decide) rfl ?_
  exact loop1 nc 0 (Nat.zero_add _)

abbrev rmX4_cite : Room := { frames := 2, cells := 0, slots := 0, locals := 43 }
set_option maxHeartbeats 4000000 in
set_option maxRecDepth 100000 in
theorem s_X4_cite {l : Launch} {E : aE} {S : aS} {I : aI} {L : aL} {Rf : aR} {Kr : aK} {Kx : aX} (hst : l.stackTraces = false) {nc : Nat} {x y : Int32} (hM : lyM S Rf) (h21 : I 20 21 = nI nc) (hn40 : nc ≤ 40) (hf1 : ¬ (inN x nc ∧ inN y nc) → Kr (some (.int 0)) S (au2 I 20 31 1) L Rf) (hf2 : ∀ i j, i < nc → j < nc → x = nI i → y = nI j → ¬ j < i → Kr (some (.int 0)) S (au2 I 20 31 2) L Rf) (hf3 : ∀ i j, i < nc → j < nc → x = nI i → y = nI j → j < i → ¬ (I 50 i ≠ 0 ∧ I 50 j ≠ 0 ∧ L 49 i >>> ((nI j).toInt64 &&& 63) &&& 1 = 0) → Kr (some (.int 0)) S (au2 I 20 31 3) L Rf) (hk : ∀ i j, i < nc → j < nc → x = nI i → y = nI j → j < i → I 50 i ≠ 0 → I 50 j ≠ 0 → L 49 i >>> ((nI j).toInt64 &&& 63) &&& 1 = 0 → Kr (some (.int (ctM (L 49 i ||| bitL (nI j)) nc))) S (au2 I 20 31 0) (au2 L 49 i (L 49 i ||| bitL (nI j))) Rf) : aMet l E yX4_cite cX4_cite 6 (some .int) rmX4_cite [.ref 20, .int x, .int y] (S) (I) (L) (Rf) Kr Kx := by
  refine aMet.of (lv0 := [.ref 20, .int x, .int y, aU, aU, aU]) (z := 3) (by decide +kernel) hst rfl (Nat.le_of_ble_eq_true rfl) ?_
  intro p e s m args below meth c io0 hx hin hno
  have hx : aCx p l s m args meth c RX4 cX4_cite 6 (some .int) E := hx
  refine g_aloadG_n hx dX4_cite_0 rfl (nx := 1) rfl rfl ?_
  refine g_iloadG_n hx dX4_cite_1 rfl (nx := 2) rfl rfl ?_
  refine g_callV_M hx [_] (k' := 0) (n' := 0) dX4_cite_2 (nx := 5) rfl lk_X4_198 (hM.1 0 _ rfl) (by decide) rfl rfl (Nat.le_of_ble_eq_true rfl) (Nat.le_of_ble_eq_true rfl) (Nat.le_of_ble_eq_true rfl) (Nat.le_of_ble_eq_true rfl) (Nat.le_of_ble_eq_true rfl) (Nat.le_of_ble_eq_true rfl) (Nat.le_of_ble_eq_true rfl) (s_X4_isClaim (nc := nc) hst hM h21 hn40 (fun i ih ei => ?_) (fun qi => ?_))
  · subst ei
    have ic : (nI i).toNatClampNeg = i := nI_clamp (by omega)
    have iw9 : vp_in (nI i) 40 := vp_in_nI (by omega) (by decide)
    refine g_if_eq hx dX4_cite_5 (tg := 20) (by decide) (nx := 8) rfl (fun c5 => ?_) (fun c5 => ?_)
    · exact absurd c5 (by decide)
    · refine g_aloadG_n hx dX4_cite_8 rfl (nx := 9) rfl rfl ?_
      refine g_iloadG_n hx dX4_cite_9 rfl (nx := 10) rfl rfl ?_
      refine g_callV_M hx [_] (k' := 0) (n' := 0) dX4_cite_10 (nx := 13) rfl lk_X4_198 (hM.1 0 _ rfl) (by decide) rfl rfl (Nat.le_of_ble_eq_true rfl) (Nat.le_of_ble_eq_true rfl) (Nat.le_of_ble_eq_true rfl) (Nat.le_of_ble_eq_true rfl) (Nat.le_of_ble_eq_true rfl) (Nat.le_of_ble_eq_true rfl) (Nat.le_of_ble_eq_true rfl) (s_X4_isClaim (nc := nc) hst hM h21 hn40 (fun j jh ej => ?_) (fun qj => ?_))
      · subst ej
        have jc : (nI j).toNatClampNeg = j := nI_clamp (by omega)
        have jw9 : vp_in (nI j) 40 := vp_in_nI (by omega) (by decide)
        refine g_if_eq hx dX4_cite_13 (tg := 20) (by decide) (nx := 16) rfl (fun c13 => ?_) (fun c13 => ?_)
        · exact absurd c13 (by decide)
        · refine g_iconst hx dX4_cite_16 (nx := 17) rfl (v := 1) (by decide) ?_
          refine g_goto hx dX4_cite_17 (tg := 21) (by decide) ?_
          refine g_istore_3 hx dX4_cite_21 (nx := 22) rfl (by decide) rfl ?_
          refine g_iloadG_n hx dX4_cite_22 rfl (nx := 23) rfl rfl ?_
          refine g_if_eq hx dX4_cite_23 (tg := 35) (by decide) (nx := 26) rfl (fun c23 => ?_) (fun c23 => ?_)
          · exact absurd c23 (by decide)
          · refine g_iloadG_n hx dX4_cite_26 rfl (nx := 27) rfl rfl ?_
            refine g_iloadG_n hx dX4_cite_27 rfl (nx := 28) rfl rfl ?_
            refine g_icmp_ge hx dX4_cite_28 (tg := 35) (by decide) (nx := 31) rfl (fun c28 => ?_) (fun c28 => ?_)
            · refine g_iconst hx dX4_cite_35 (nx := 36) rfl (v := 0) (by decide) ?_
              refine g_istore_4 hx dX4_cite_36 (nx := 38) rfl (by decide) rfl ?_
              refine g_iloadG hx dX4_cite_38 (nx := 40) rfl rfl ?_
              refine g_if_eq hx dX4_cite_40 (tg := 80) (by decide) (nx := 43) rfl (fun c40 => ?_) (fun c40 => ?_)
              · refine g_iconst hx dX4_cite_80 (nx := 81) rfl (v := 0) (by decide) ?_
                refine g_istore_5 hx dX4_cite_81 (nx := 83) rfl (by decide) rfl ?_
                refine g_aloadG_n hx dX4_cite_83 rfl (nx := 84) rfl rfl ?_
                refine g_iloadG_n hx dX4_cite_84 rfl (nx := 85) rfl rfl ?_
                refine g_if_ne hx dX4_cite_85 (tg := 92) (by decide) (nx := 88) rfl (fun c85 => ?_) (fun c85 => ?_)
                · refine g_iloadG hx dX4_cite_92 (nx := 94) rfl rfl ?_
                  refine g_if_ne hx dX4_cite_94 (tg := 101) (by decide) (nx := 97) rfl (fun c94 => ?_) (fun c94 => ?_)
                  · exact absurd c94 (by decide)
                  · refine g_iconst hx dX4_cite_97 (nx := 98) rfl (v := 2) (by decide) ?_
                    refine g_goto hx dX4_cite_98 (tg := 111) (by decide) ?_
                    refine g_callV_M hx [_] (k' := 0) (n' := 0) dX4_cite_111 (nx := 114) rfl lk_X4_114 (hM.1 0 _ rfl) (by decide) rfl rfl (Nat.le_of_ble_eq_true rfl) (Nat.le_of_ble_eq_true rfl) (Nat.le_of_ble_eq_true rfl) (Nat.le_of_ble_eq_true rfl) (Nat.le_of_ble_eq_true rfl) (Nat.le_of_ble_eq_true rfl) (Nat.le_of_ble_eq_true rfl) (s_X4_can hst hM (fun z => absurd z (by decide)) (fun _ => ?_))
                    refine g_if_ne hx dX4_cite_114 (tg := 119) (by decide) (nx := 117) rfl (fun c114 => ?_) (fun c114 => ?_)
                    · exact absurd c114 (by decide)
                    · refine g_iconst hx dX4_cite_117 (nx := 118) rfl (v := 0) (by decide) ?_
                      refine g_iret hx dX4_cite_118 rfl rfl (Nat.le_of_ble_eq_true rfl) (Nat.le_of_ble_eq_true rfl) ?_
                      first
                        | exact hf1 (fun z => qi z.1)
                        | exact hf1 (fun z => qj z.2)
                        | exact hf2 i j ih jh rfl rfl (fun z => absurd ((nI_ltI (by omega) (by omega)).mpr z) (Int32.not_lt.mpr c28))
                        | exact hf3 i j ih jh rfl rfl ((nI_ltI (by omega) (by omega)).mp (Int32.not_le.mp c28)) (fun z => z.1 c49)
                        | exact hf3 i j ih jh rfl rfl ((nI_ltI (by omega) (by omega)).mp (Int32.not_le.mp c28)) (fun z => z.2.1 c58)
                        | exact hf3 i j ih jh rfl rfl ((nI_ltI (by omega) (by omega)).mp (Int32.not_le.mp c28)) (fun z => c73 ((lg_cmp_eq _ _).mpr z.2.2))
                        | (rw [au2_s]; exact hk i j ih jh rfl rfl ((nI_ltI (by omega) (by omega)).mp (Int32.not_le.mp c28)) c49 c58 ((lg_cmp_eq _ _).mp c73))
                · exact absurd c85 (by decide)
              · exact absurd c40 (by decide)
            · refine g_iconst hx dX4_cite_31 (nx := 32) rfl (v := 1) (by decide) ?_
              refine g_goto hx dX4_cite_32 (tg := 36) (by decide) ?_
              refine g_istore_4 hx dX4_cite_36 (nx := 38) rfl (by decide) rfl ?_
              refine g_iloadG hx dX4_cite_38 (nx := 40) rfl rfl ?_
              refine g_if_eq hx dX4_cite_40 (tg := 80) (by decide) (nx := 43) rfl (fun c40 => ?_) (fun c40 => ?_)
              · exact absurd c40 (by decide)
              · refine g_aloadG_n hx dX4_cite_43 rfl (nx := 44) rfl rfl ?_
                refine g_getfo_R hx dX4_cite_44 (nx := 47) rfl fa_X4_91 rfl (r9 := 50) (hM.2 30 rfl) (hM.1 0 _ rfl) (by decide) ?_
                refine g_iloadG_n hx dX4_cite_47 rfl (nx := 48) rfl rfl ?_
                refine g_baload hx dX4_cite_48 (nx := 49) rfl (hM.1 30 _ rfl) (by decide) iw9 ?_
                rw [ic]
                refine g_if_eq hx dX4_cite_49 (tg := 80) (by decide) (nx := 52) rfl (fun c49 => ?_) (fun c49 => ?_)
                · refine g_iconst hx dX4_cite_80 (nx := 81) rfl (v := 0) (by decide) ?_
                  refine g_istore_5 hx dX4_cite_81 (nx := 83) rfl (by decide) rfl ?_
                  refine g_aloadG_n hx dX4_cite_83 rfl (nx := 84) rfl rfl ?_
                  refine g_iloadG_n hx dX4_cite_84 rfl (nx := 85) rfl rfl ?_
                  refine g_if_ne hx dX4_cite_85 (tg := 92) (by decide) (nx := 88) rfl (fun c85 => ?_) (fun c85 => ?_)
                  · refine g_iloadG hx dX4_cite_92 (nx := 94) rfl rfl ?_
                    refine g_if_ne hx dX4_cite_94 (tg := 101) (by decide) (nx := 97) rfl (fun c94 => ?_) (fun c94 => ?_)
                    · refine g_iloadG hx dX4_cite_101 (nx := 103) rfl rfl ?_
                      refine g_if_eq hx dX4_cite_103 (tg := 110) (by decide) (nx := 106) rfl (fun c103 => ?_) (fun c103 => ?_)
                      · refine g_iconst hx dX4_cite_110 (nx := 111) rfl (v := 3) (by decide) ?_
                        refine g_callV_M hx [_] (k' := 0) (n' := 0) dX4_cite_111 (nx := 114) rfl lk_X4_114 (hM.1 0 _ rfl) (by decide) rfl rfl (Nat.le_of_ble_eq_true rfl) (Nat.le_of_ble_eq_true rfl) (Nat.le_of_ble_eq_true rfl) (Nat.le_of_ble_eq_true rfl) (Nat.le_of_ble_eq_true rfl) (Nat.le_of_ble_eq_true rfl) (Nat.le_of_ble_eq_true rfl) (s_X4_can hst hM (fun z => absurd z (by decide)) (fun _ => ?_))
                        refine g_if_ne hx dX4_cite_114 (tg := 119) (by decide) (nx := 117) rfl (fun c114 => ?_) (fun c114 => ?_)
                        · exact absurd c114 (by decide)
                        · refine g_iconst hx dX4_cite_117 (nx := 118) rfl (v := 0) (by decide) ?_
                          refine g_iret hx dX4_cite_118 rfl rfl (Nat.le_of_ble_eq_true rfl) (Nat.le_of_ble_eq_true rfl) ?_
                          first
                            | exact hf1 (fun z => qi z.1)
                            | exact hf1 (fun z => qj z.2)
                            | exact hf2 i j ih jh rfl rfl (fun z => absurd ((nI_ltI (by omega) (by omega)).mpr z) (Int32.not_lt.mpr c28))
                            | exact hf3 i j ih jh rfl rfl ((nI_ltI (by omega) (by omega)).mp (Int32.not_le.mp c28)) (fun z => z.1 c49)
                            | exact hf3 i j ih jh rfl rfl ((nI_ltI (by omega) (by omega)).mp (Int32.not_le.mp c28)) (fun z => z.2.1 c58)
                            | exact hf3 i j ih jh rfl rfl ((nI_ltI (by omega) (by omega)).mp (Int32.not_le.mp c28)) (fun z => c73 ((lg_cmp_eq _ _).mpr z.2.2))
                            | (rw [au2_s]; exact hk i j ih jh rfl rfl ((nI_ltI (by omega) (by omega)).mp (Int32.not_le.mp c28)) c49 c58 ((lg_cmp_eq _ _).mp c73))
                      · exact absurd c103 (by decide)
                    · exact absurd c94 (by decide)
                  · exact absurd c85 (by decide)
                · refine g_aloadG_n hx dX4_cite_52 rfl (nx := 53) rfl rfl ?_
                  refine g_getfo_R hx dX4_cite_53 (nx := 56) rfl fa_X4_91 rfl (r9 := 50) (hM.2 30 rfl) (hM.1 0 _ rfl) (by decide) ?_
                  refine g_iloadG_n hx dX4_cite_56 rfl (nx := 57) rfl rfl ?_
                  refine g_baload hx dX4_cite_57 (nx := 58) rfl (hM.1 30 _ rfl) (by decide) jw9 ?_
                  rw [jc]
                  refine g_if_eq hx dX4_cite_58 (tg := 80) (by decide) (nx := 61) rfl (fun c58 => ?_) (fun c58 => ?_)
                  · refine g_iconst hx dX4_cite_80 (nx := 81) rfl (v := 0) (by decide) ?_
                    refine g_istore_5 hx dX4_cite_81 (nx := 83) rfl (by decide) rfl ?_
                    refine g_aloadG_n hx dX4_cite_83 rfl (nx := 84) rfl rfl ?_
                    refine g_iloadG_n hx dX4_cite_84 rfl (nx := 85) rfl rfl ?_
                    refine g_if_ne hx dX4_cite_85 (tg := 92) (by decide) (nx := 88) rfl (fun c85 => ?_) (fun c85 => ?_)
                    · refine g_iloadG hx dX4_cite_92 (nx := 94) rfl rfl ?_
                      refine g_if_ne hx dX4_cite_94 (tg := 101) (by decide) (nx := 97) rfl (fun c94 => ?_) (fun c94 => ?_)
                      · refine g_iloadG hx dX4_cite_101 (nx := 103) rfl rfl ?_
                        refine g_if_eq hx dX4_cite_103 (tg := 110) (by decide) (nx := 106) rfl (fun c103 => ?_) (fun c103 => ?_)
                        · refine g_iconst hx dX4_cite_110 (nx := 111) rfl (v := 3) (by decide) ?_
                          refine g_callV_M hx [_] (k' := 0) (n' := 0) dX4_cite_111 (nx := 114) rfl lk_X4_114 (hM.1 0 _ rfl) (by decide) rfl rfl (Nat.le_of_ble_eq_true rfl) (Nat.le_of_ble_eq_true rfl) (Nat.le_of_ble_eq_true rfl) (Nat.le_of_ble_eq_true rfl) (Nat.le_of_ble_eq_true rfl) (Nat.le_of_ble_eq_true rfl) (Nat.le_of_ble_eq_true rfl) (s_X4_can hst hM (fun z => absurd z (by decide)) (fun _ => ?_))
                          refine g_if_ne hx dX4_cite_114 (tg := 119) (by decide) (nx := 117) rfl (fun c114 => ?_) (fun c114 => ?_)
                          · exact absurd c114 (by decide)
                          · refine g_iconst hx dX4_cite_117 (nx := 118) rfl (v := 0) (by decide) ?_
                            refine g_iret hx dX4_cite_118 rfl rfl (Nat.le_of_ble_eq_true rfl) (Nat.le_of_ble_eq_true rfl) ?_
                            first
                              | exact hf1 (fun z => qi z.1)
                              | exact hf1 (fun z => qj z.2)
                              | exact hf2 i j ih jh rfl rfl (fun z => absurd ((nI_ltI (by omega) (by omega)).mpr z) (Int32.not_lt.mpr c28))
                              | exact hf3 i j ih jh rfl rfl ((nI_ltI (by omega) (by omega)).mp (Int32.not_le.mp c28)) (fun z => z.1 c49)
                              | exact hf3 i j ih jh rfl rfl ((nI_ltI (by omega) (by omega)).mp (Int32.not_le.mp c28)) (fun z => z.2.1 c58)
                              | exact hf3 i j ih jh rfl rfl ((nI_ltI (by omega) (by omega)).mp (Int32.not_le.mp c28)) (fun z => c73 ((lg_cmp_eq _ _).mpr z.2.2))
                              | (rw [au2_s]; exact hk i j ih jh rfl rfl ((nI_ltI (by omega) (by omega)).mp (Int32.not_le.mp c28)) c49 c58 ((lg_cmp_eq _ _).mp c73))
                        · exact absurd c103 (by decide)
                      · exact absurd c94 (by decide)
                    · exact absurd c85 (by decide)
                  · refine g_aloadG_n hx dX4_cite_61 rfl (nx := 62) rfl rfl ?_
                    refine g_getfo_R hx dX4_cite_62 (nx := 65) rfl fa_X4_88 rfl (r9 := 49) (hM.2 29 rfl) (hM.1 0 _ rfl) (by decide) ?_
                    refine g_iloadG_n hx dX4_cite_65 rfl (nx := 66) rfl rfl ?_
                    refine g_laload hx dX4_cite_66 (nx := 67) rfl (hM.1 29 _ rfl) (by decide) iw9 ?_
                    rw [ic]
                    refine g_iloadG_n hx dX4_cite_67 rfl (nx := 68) rfl rfl ?_
                    refine g_lshr hx dX4_cite_68 (nx := 69) rfl ?_
                    refine g_lconst hx dX4_cite_69 (nx := 70) rfl (v := 1) (by decide) ?_
                    refine g_land hx dX4_cite_70 (nx := 71) rfl ?_
                    refine g_lconst hx dX4_cite_71 (nx := 72) rfl (v := 0) (by decide) ?_
                    refine g_lcmp hx dX4_cite_72 (nx := 73) rfl ?_
                    refine g_if_ne hx dX4_cite_73 (tg := 80) (by decide) (nx := 76) rfl (fun c73 => ?_) (fun c73 => ?_)
                    · refine g_iconst hx dX4_cite_80 (nx := 81) rfl (v := 0) (by decide) ?_
                      refine g_istore_5 hx dX4_cite_81 (nx := 83) rfl (by decide) rfl ?_
                      refine g_aloadG_n hx dX4_cite_83 rfl (nx := 84) rfl rfl ?_
                      refine g_iloadG_n hx dX4_cite_84 rfl (nx := 85) rfl rfl ?_
                      refine g_if_ne hx dX4_cite_85 (tg := 92) (by decide) (nx := 88) rfl (fun c85 => ?_) (fun c85 => ?_)
                      · refine g_iloadG hx dX4_cite_92 (nx := 94) rfl rfl ?_
                        refine g_if_ne hx dX4_cite_94 (tg := 101) (by decide) (nx := 97) rfl (fun c94 => ?_) (fun c94 => ?_)
                        · refine g_iloadG hx dX4_cite_101 (nx := 103) rfl rfl ?_
                          refine g_if_eq hx dX4_cite_103 (tg := 110) (by decide) (nx := 106) rfl (fun c103 => ?_) (fun c103 => ?_)
                          · refine g_iconst hx dX4_cite_110 (nx := 111) rfl (v := 3) (by decide) ?_
                            refine g_callV_M hx [_] (k' := 0) (n' := 0) dX4_cite_111 (nx := 114) rfl lk_X4_114 (hM.1 0 _ rfl) (by decide) rfl rfl (Nat.le_of_ble_eq_true rfl) (Nat.le_of_ble_eq_true rfl) (Nat.le_of_ble_eq_true rfl) (Nat.le_of_ble_eq_true rfl) (Nat.le_of_ble_eq_true rfl) (Nat.le_of_ble_eq_true rfl) (Nat.le_of_ble_eq_true rfl) (s_X4_can hst hM (fun z => absurd z (by decide)) (fun _ => ?_))
                            refine g_if_ne hx dX4_cite_114 (tg := 119) (by decide) (nx := 117) rfl (fun c114 => ?_) (fun c114 => ?_)
                            · exact absurd c114 (by decide)
                            · refine g_iconst hx dX4_cite_117 (nx := 118) rfl (v := 0) (by decide) ?_
                              refine g_iret hx dX4_cite_118 rfl rfl (Nat.le_of_ble_eq_true rfl) (Nat.le_of_ble_eq_true rfl) ?_
                              first
                                | exact hf1 (fun z => qi z.1)
                                | exact hf1 (fun z => qj z.2)
                                | exact hf2 i j ih jh rfl rfl (fun z => absurd ((nI_ltI (by omega) (by omega)).mpr z) (Int32.not_lt.mpr c28))
                                | exact hf3 i j ih jh rfl rfl ((nI_ltI (by omega) (by omega)).mp (Int32.not_le.mp c28)) (fun z => z.1 c49)
                                | exact hf3 i j ih jh rfl rfl ((nI_ltI (by omega) (by omega)).mp (Int32.not_le.mp c28)) (fun z => z.2.1 c58)
                                | exact hf3 i j ih jh rfl rfl ((nI_ltI (by omega) (by omega)).mp (Int32.not_le.mp c28)) (fun z => c73 ((lg_cmp_eq _ _).mpr z.2.2))
                                | (rw [au2_s]; exact hk i j ih jh rfl rfl ((nI_ltI (by omega) (by omega)).mp (Int32.not_le.mp c28)) c49 c58 ((lg_cmp_eq _ _).mp c73))
                          · exact absurd c103 (by decide)
                        · exact absurd c94 (by decide)
                      · exact absurd c85 (by decide)
                    · refine g_iconst hx dX4_cite_76 (nx := 77) rfl (v := 1) (by decide) ?_
                      refine g_goto hx dX4_cite_77 (tg := 81) (by decide) ?_
                      refine g_istore_5 hx dX4_cite_81 (nx := 83) rfl (by decide) rfl ?_
                      refine g_aloadG_n hx dX4_cite_83 rfl (nx := 84) rfl rfl ?_
                      refine g_iloadG_n hx dX4_cite_84 rfl (nx := 85) rfl rfl ?_
                      refine g_if_ne hx dX4_cite_85 (tg := 92) (by decide) (nx := 88) rfl (fun c85 => ?_) (fun c85 => ?_)
                      · refine g_iloadG hx dX4_cite_92 (nx := 94) rfl rfl ?_
                        refine g_if_ne hx dX4_cite_94 (tg := 101) (by decide) (nx := 97) rfl (fun c94 => ?_) (fun c94 => ?_)
                        · refine g_iloadG hx dX4_cite_101 (nx := 103) rfl rfl ?_
                          refine g_if_eq hx dX4_cite_103 (tg := 110) (by decide) (nx := 106) rfl (fun c103 => ?_) (fun c103 => ?_)
                          · exact absurd c103 (by decide)
                          · refine g_iconst hx dX4_cite_106 (nx := 107) rfl (v := 0) (by decide) ?_
                            refine g_goto hx dX4_cite_107 (tg := 111) (by decide) ?_
                            refine g_callV_M hx [_] (k' := 0) (n' := 0) dX4_cite_111 (nx := 114) rfl lk_X4_114 (hM.1 0 _ rfl) (by decide) rfl rfl (Nat.le_of_ble_eq_true rfl) (Nat.le_of_ble_eq_true rfl) (Nat.le_of_ble_eq_true rfl) (Nat.le_of_ble_eq_true rfl) (Nat.le_of_ble_eq_true rfl) (Nat.le_of_ble_eq_true rfl) (Nat.le_of_ble_eq_true rfl) (s_X4_can hst hM (fun _ => ?_) (fun z => absurd rfl z))
                            refine g_if_ne hx dX4_cite_114 (tg := 119) (by decide) (nx := 117) rfl (fun c114 => ?_) (fun c114 => ?_)
                            · refine g_aloadG_n hx dX4_cite_119 rfl (nx := 120) rfl rfl ?_
                              refine g_getfo_R hx dX4_cite_120 (nx := 123) rfl fa_X4_88 rfl (r9 := 49) (hM.2 29 rfl) (hM.1 0 _ rfl) (by decide) ?_
                              refine g_iloadG_n hx dX4_cite_123 rfl (nx := 124) rfl rfl ?_
                              refine g_dup2i hx dX4_cite_124 (nx := 125) rfl rfl rfl ?_
                              refine g_laload hx dX4_cite_125 (nx := 126) rfl (hM.1 29 _ rfl) (by decide) iw9 ?_
                              refine g_lconst hx dX4_cite_126 (nx := 127) rfl (v := 1) (by decide) ?_
                              refine g_iloadG_n hx dX4_cite_127 rfl (nx := 128) rfl rfl ?_
                              refine g_lshl hx dX4_cite_128 (nx := 129) rfl ?_
                              refine g_lor hx dX4_cite_129 (nx := 130) rfl ?_
                              refine g_lastore hx dX4_cite_130 (nx := 131) rfl (hM.1 29 _ rfl) (by decide) iw9 ?_
                              rw [ic]
                              refine g_aloadG_n hx dX4_cite_131 rfl (nx := 132) rfl rfl ?_
                              refine g_iloadG_n hx dX4_cite_132 rfl (nx := 133) rfl rfl ?_
                              refine g_callV_M hx [_] (k' := 0) (n' := 0) dX4_cite_133 (nx := 136) rfl lk_X4_205 (hM.1 0 _ rfl) (by decide) rfl rfl (Nat.le_of_ble_eq_true rfl) (Nat.le_of_ble_eq_true rfl) (Nat.le_of_ble_eq_true rfl) (Nat.le_of_ble_eq_true rfl) (Nat.le_of_ble_eq_true rfl) (Nat.le_of_ble_eq_true rfl) (Nat.le_of_ble_eq_true rfl) (s_X4_citesOf (nc := nc) (i9 := i) hst hM (by rw [au2_n (by omega)]; exact h21) hn40 (by omega) ?_)
                              refine g_iret hx dX4_cite_136 rfl rfl (Nat.le_of_ble_eq_true rfl) (Nat.le_of_ble_eq_true rfl) ?_
                              first
                                | exact hf1 (fun z => qi z.1)
                                | exact hf1 (fun z => qj z.2)
                                | exact hf2 i j ih jh rfl rfl (fun z => absurd ((nI_ltI (by omega) (by omega)).mpr z) (Int32.not_lt.mpr c28))
                                | exact hf3 i j ih jh rfl rfl ((nI_ltI (by omega) (by omega)).mp (Int32.not_le.mp c28)) (fun z => z.1 c49)
                                | exact hf3 i j ih jh rfl rfl ((nI_ltI (by omega) (by omega)).mp (Int32.not_le.mp c28)) (fun z => z.2.1 c58)
                                | exact hf3 i j ih jh rfl rfl ((nI_ltI (by omega) (by omega)).mp (Int32.not_le.mp c28)) (fun z => c73 ((lg_cmp_eq _ _).mpr z.2.2))
                                | (rw [au2_s]; exact hk i j ih jh rfl rfl ((nI_ltI (by omega) (by omega)).mp (Int32.not_le.mp c28)) c49 c58 ((lg_cmp_eq _ _).mp c73))
                            · exact absurd c114 (by decide)
                        · exact absurd c94 (by decide)
                      · exact absurd c85 (by decide)
      · refine g_if_eq hx dX4_cite_13 (tg := 20) (by decide) (nx := 16) rfl (fun c13 => ?_) (fun c13 => ?_)
        · refine g_iconst hx dX4_cite_20 (nx := 21) rfl (v := 0) (by decide) ?_
          refine g_istore_3 hx dX4_cite_21 (nx := 22) rfl (by decide) rfl ?_
          refine g_iloadG_n hx dX4_cite_22 rfl (nx := 23) rfl rfl ?_
          refine g_if_eq hx dX4_cite_23 (tg := 35) (by decide) (nx := 26) rfl (fun c23 => ?_) (fun c23 => ?_)
          · refine g_iconst hx dX4_cite_35 (nx := 36) rfl (v := 0) (by decide) ?_
            refine g_istore_4 hx dX4_cite_36 (nx := 38) rfl (by decide) rfl ?_
            refine g_iloadG hx dX4_cite_38 (nx := 40) rfl rfl ?_
            refine g_if_eq hx dX4_cite_40 (tg := 80) (by decide) (nx := 43) rfl (fun c40 => ?_) (fun c40 => ?_)
            · refine g_iconst hx dX4_cite_80 (nx := 81) rfl (v := 0) (by decide) ?_
              refine g_istore_5 hx dX4_cite_81 (nx := 83) rfl (by decide) rfl ?_
              refine g_aloadG_n hx dX4_cite_83 rfl (nx := 84) rfl rfl ?_
              refine g_iloadG_n hx dX4_cite_84 rfl (nx := 85) rfl rfl ?_
              refine g_if_ne hx dX4_cite_85 (tg := 92) (by decide) (nx := 88) rfl (fun c85 => ?_) (fun c85 => ?_)
              · exact absurd c85 (by decide)
              · refine g_iconst hx dX4_cite_88 (nx := 89) rfl (v := 1) (by decide) ?_
                refine g_goto hx dX4_cite_89 (tg := 111) (by decide) ?_
                refine g_callV_M hx [_] (k' := 0) (n' := 0) dX4_cite_111 (nx := 114) rfl lk_X4_114 (hM.1 0 _ rfl) (by decide) rfl rfl (Nat.le_of_ble_eq_true rfl) (Nat.le_of_ble_eq_true rfl) (Nat.le_of_ble_eq_true rfl) (Nat.le_of_ble_eq_true rfl) (Nat.le_of_ble_eq_true rfl) (Nat.le_of_ble_eq_true rfl) (Nat.le_of_ble_eq_true rfl) (s_X4_can hst hM (fun z => absurd z (by decide)) (fun _ => ?_))
                refine g_if_ne hx dX4_cite_114 (tg := 119) (by decide) (nx := 117) rfl (fun c114 => ?_) (fun c114 => ?_)
                · exact absurd c114 (by decide)
                · refine g_iconst hx dX4_cite_117 (nx := 118) rfl (v := 0) (by decide) ?_
                  refine g_iret hx dX4_cite_118 rfl rfl (Nat.le_of_ble_eq_true rfl) (Nat.le_of_ble_eq_true rfl) ?_
                  first
                    | exact hf1 (fun z => qi z.1)
                    | exact hf1 (fun z => qj z.2)
                    | exact hf2 i j ih jh rfl rfl (fun z => absurd ((nI_ltI (by omega) (by omega)).mpr z) (Int32.not_lt.mpr c28))
                    | exact hf3 i j ih jh rfl rfl ((nI_ltI (by omega) (by omega)).mp (Int32.not_le.mp c28)) (fun z => z.1 c49)
                    | exact hf3 i j ih jh rfl rfl ((nI_ltI (by omega) (by omega)).mp (Int32.not_le.mp c28)) (fun z => z.2.1 c58)
                    | exact hf3 i j ih jh rfl rfl ((nI_ltI (by omega) (by omega)).mp (Int32.not_le.mp c28)) (fun z => c73 ((lg_cmp_eq _ _).mpr z.2.2))
                    | (rw [au2_s]; exact hk i j ih jh rfl rfl ((nI_ltI (by omega) (by omega)).mp (Int32.not_le.mp c28)) c49 c58 ((lg_cmp_eq _ _).mp c73))
            · exact absurd c40 (by decide)
          · exact absurd c23 (by decide)
        · exact absurd c13 (by decide)
  · refine g_if_eq hx dX4_cite_5 (tg := 20) (by decide) (nx := 8) rfl (fun c5 => ?_) (fun c5 => ?_)
    · refine g_iconst hx dX4_cite_20 (nx := 21) rfl (v := 0) (by decide) ?_
      refine g_istore_3 hx dX4_cite_21 (nx := 22) rfl (by decide) rfl ?_
      refine g_iloadG_n hx dX4_cite_22 rfl (nx := 23) rfl rfl ?_
      refine g_if_eq hx dX4_cite_23 (tg := 35) (by decide) (nx := 26) rfl (fun c23 => ?_) (fun c23 => ?_)
      · refine g_iconst hx dX4_cite_35 (nx := 36) rfl (v := 0) (by decide) ?_
        refine g_istore_4 hx dX4_cite_36 (nx := 38) rfl (by decide) rfl ?_
        refine g_iloadG hx dX4_cite_38 (nx := 40) rfl rfl ?_
        refine g_if_eq hx dX4_cite_40 (tg := 80) (by decide) (nx := 43) rfl (fun c40 => ?_) (fun c40 => ?_)
        · refine g_iconst hx dX4_cite_80 (nx := 81) rfl (v := 0) (by decide) ?_
          refine g_istore_5 hx dX4_cite_81 (nx := 83) rfl (by decide) rfl ?_
          refine g_aloadG_n hx dX4_cite_83 rfl (nx := 84) rfl rfl ?_
          refine g_iloadG_n hx dX4_cite_84 rfl (nx := 85) rfl rfl ?_
          refine g_if_ne hx dX4_cite_85 (tg := 92) (by decide) (nx := 88) rfl (fun c85 => ?_) (fun c85 => ?_)
          · exact absurd c85 (by decide)
          · refine g_iconst hx dX4_cite_88 (nx := 89) rfl (v := 1) (by decide) ?_
            refine g_goto hx dX4_cite_89 (tg := 111) (by decide) ?_
            refine g_callV_M hx [_] (k' := 0) (n' := 0) dX4_cite_111 (nx := 114) rfl lk_X4_114 (hM.1 0 _ rfl) (by decide) rfl rfl (Nat.le_of_ble_eq_true rfl) (Nat.le_of_ble_eq_true rfl) (Nat.le_of_ble_eq_true rfl) (Nat.le_of_ble_eq_true rfl) (Nat.le_of_ble_eq_true rfl) (Nat.le_of_ble_eq_true rfl) (Nat.le_of_ble_eq_true rfl) (s_X4_can hst hM (fun z => absurd z (by decide)) (fun _ => ?_))
            refine g_if_ne hx dX4_cite_114 (tg := 119) (by decide) (nx := 117) rfl (fun c114 => ?_) (fun c114 => ?_)
            · exact absurd c114 (by decide)
            · refine g_iconst hx dX4_cite_117 (nx := 118) rfl (v := 0) (by decide) ?_
              refine g_iret hx dX4_cite_118 rfl rfl (Nat.le_of_ble_eq_true rfl) (Nat.le_of_ble_eq_true rfl) ?_
              first
                | exact hf1 (fun z => qi z.1)
                | exact hf1 (fun z => qj z.2)
                | exact hf2 i j ih jh rfl rfl (fun z => absurd ((nI_ltI (by omega) (by omega)).mpr z) (Int32.not_lt.mpr c28))
                | exact hf3 i j ih jh rfl rfl ((nI_ltI (by omega) (by omega)).mp (Int32.not_le.mp c28)) (fun z => z.1 c49)
                | exact hf3 i j ih jh rfl rfl ((nI_ltI (by omega) (by omega)).mp (Int32.not_le.mp c28)) (fun z => z.2.1 c58)
                | exact hf3 i j ih jh rfl rfl ((nI_ltI (by omega) (by omega)).mp (Int32.not_le.mp c28)) (fun z => c73 ((lg_cmp_eq _ _).mpr z.2.2))
                | (rw [au2_s]; exact hk i j ih jh rfl rfl ((nI_ltI (by omega) (by omega)).mp (Int32.not_le.mp c28)) c49 c58 ((lg_cmp_eq _ _).mp c73))
        · exact absurd c40 (by decide)
      · exact absurd c23 (by decide)
    · exact absurd c5 (by decide)

