/-! the reference: what it tells of light -/
theorem f3_of {j : Nat} (h : j < 3) : nI j = 0 ∨ nI j = 1 ∨ nI j = 2 := by
  match j, h with
  | 0, _ => exact Or.inl rfl
  | 1, _ => exact Or.inr (Or.inl rfl)
  | 2, _ => exact Or.inr (Or.inr rfl)
abbrev okM (I : aI) (n : Nat) (q : Nat → Nat → Bool) (V : Nat → Nat → Int64) (ff : Nat → Nat → Int32) (oo : Nat → Nat) : Prop := ∀ k, k < n → lgM I k (q k) (V k) (ff k) (oo k) ∧ I 35 k = nI (oo k) ∧ oo k ≤ 6
abbrev wtM (q : Nat → Nat → Bool) (V : Nat → Nat → Int64) (ff : Nat → Nat → Int32) (k : Nat) (f : Int32) (m : Nat) : Nat → Int64 := tks (q k) (flV (q k) (V k) f) (ff k) m
def pkQ (le : Int32) (q : Nat → Bool) (W : Nat → Int64) (y : Int32) : Prop := le.toInt64 ≤ pw q W y ∧ pw q W (y - 1) < pw q W y ∧ pw q W (y + 1) < pw q W y
def stQ (q : Nat → Bool) (W : Nat → Int64) (y w : Int32) : Prop := pw q W y < pw q W w ∧ (nI (aT q).length).toInt64 * (nI (aT q).length).toInt64 ≤ 4 * pw q (fun _ => 1) (iabs (y - w))
theorem okM.x {I J : aI} {n : Nat} {q : Nat → Nat → Bool} {V : Nat → Nat → Int64} {ff : Nat → Nat → Int32} {oo : Nat → Nat} (h : okM I n q V ff oo) (e : ∀ a b, a = 31 ∨ a = 32 ∨ a = 33 ∨ a = 35 ∨ a = 36 → J a b = I a b) : okM J n q V ff oo := fun k hk => ⟨(h k hk).1.x (fun a b z => e a b (by omega)), (e 35 k (by decide)).trans (h k hk).2.1, (h k hk).2.2⟩
theorem tbM.y {I J : aI} (h : tbM I) (e : ∀ b, J 37 b = I 37 b) : tbM J := fun k hk => (e k).trans (h k hk)
theorem iabs_sub {t u : Nat} (h : t ≤ u) (hu : u < 2 ^ 31) : nI u - nI t = iabs (nI t - nI u) := by
  rcases Nat.eq_or_lt_of_le h with w | w
  · subst w; rw [Int32.sub_self]; rfl
  · have e : (nI t - nI u).toInt = (t : Int) - u := by
      rw [Int32.toInt_sub, nI_toInt (by omega), nI_toInt (by omega), Int.bmod_def]
      split <;> omega
    rw [iabs, if_neg, Int32.neg_sub]
    rw [Int32.le_iff_toInt_le, e, Int32.toInt_zero]
    omega
theorem trM1f (q : Nat → Bool) {I : aI} {L : aL} {W : Nat → Int64} (h : Mrep I L q (fun t => if (1 : Int32) = 0 then W t else 1)) : Mrep I L q (fun _ => 1) := h.c (fun t _ _ => if_neg (by decide))
abbrev rmX4_frames : Room := { frames := 2, cells := 0, slots := 0, locals := 43 }
set_option maxHeartbeats 4000000 in
set_option maxRecDepth 100000 in
theorem s_X4_frames {l : Launch} {E : aE} {S : aS} {I : aI} {L : aL} {Rf : aR} {Kr : aK} {Kx : aX} (hst : l.stackTraces = false) {n : Nat} {x : Int32} {q : Nat → Nat → Bool} {V : Nat → Nat → Int64} {ff : Nat → Nat → Int32} {oo : Nat → Nat} (hM : lyM S Rf) (h4 : I 20 4 = nI n) (hn6 : n ≤ 6) (hl : okM I n q V ff oo) (hf1 : ¬ inN x n → Kr (some (.int 0)) S (au2 I 20 31 1) L Rf) (hk : ∀ k, k < n → x = nI k → ∀ I' L', eM I' (au2 I 20 31 0) → eL L' L → Kr (some (.int (nI (aT (q k)).length))) S I' L' Rf) : aMet l E yX4_frames cX4_frames 2 (some .int) rmX4_frames [.ref 20, .int x] (S) (I) (L) (Rf) Kr Kx := by
  refine aMet.of (lv0 := [.ref 20, .int x]) (z := 0) (by decide +kernel) hst rfl (Nat.le_of_ble_eq_true rfl) ?_
  intro p e s m args below meth c io0 hx hin hno
  have hx : aCx p l s m args meth c RX4 cX4_frames 2 (some .int) E := hx
  refine g_aloadG_n hx dX4_frames_0 rfl (nx := 1) rfl rfl ?_
  refine g_aloadG_n hx dX4_frames_1 rfl (nx := 2) rfl rfl ?_
  refine g_iloadG_n hx dX4_frames_2 rfl (nx := 3) rfl rfl ?_
  refine g_callV_M hx [_] (k' := 0) (n' := 0) dX4_frames_3 (nx := 6) rfl lk_X4_119 (hM.1 0 _ rfl) (by decide) rfl rfl (Nat.le_of_ble_eq_true rfl) (Nat.le_of_ble_eq_true rfl) (Nat.le_of_ble_eq_true rfl) (Nat.le_of_ble_eq_true rfl) (Nat.le_of_ble_eq_true rfl) (Nat.le_of_ble_eq_true rfl) (Nat.le_of_ble_eq_true rfl) (s_X4_isStar (n := n) hst hM h4 (by omega) (fun k hk9 ek => ?_) (fun qs => ?_))
  · subst ek
    have hkc : (nI k).toNatClampNeg = k := nI_clamp (by omega)
    have hin6 : vp_in (nI k) 6 := vp_in_nI (by omega) (by decide)
    refine g_if_eq hx dX4_frames_6 (tg := 13) (by decide) (nx := 9) rfl (fun c6 => ?_) (fun c6 => ?_)
    · exact absurd c6 (by decide)
    · refine g_iconst hx dX4_frames_9 (nx := 10) rfl (v := 0) (by decide) ?_
      refine g_goto hx dX4_frames_10 (tg := 14) (by decide) ?_
      refine g_callV_M hx [_] (k' := 0) (n' := 0) dX4_frames_14 (nx := 17) rfl lk_X4_114 (hM.1 0 _ rfl) (by decide) rfl rfl (Nat.le_of_ble_eq_true rfl) (Nat.le_of_ble_eq_true rfl) (Nat.le_of_ble_eq_true rfl) (Nat.le_of_ble_eq_true rfl) (Nat.le_of_ble_eq_true rfl) (Nat.le_of_ble_eq_true rfl) (Nat.le_of_ble_eq_true rfl) (s_X4_can hst hM (fun _ => ?_) (fun z => absurd rfl z))
      refine g_if_ne hx dX4_frames_17 (tg := 22) (by decide) (nx := 20) rfl (fun c17 => ?_) (fun c17 => ?_)
      · have hl0 : okM (au2 I 20 31 0) n q V ff oo := hl.x (fun a b z => au2_n (by omega))
        refine g_aloadG_n hx dX4_frames_22 rfl (nx := 23) rfl rfl ?_
        refine g_iloadG_n hx dX4_frames_23 rfl (nx := 24) rfl rfl ?_
        refine g_iconst hx dX4_frames_24 (nx := 25) rfl (v := 1) (by decide) ?_
        refine g_callV_M hx [_, _] (k' := 0) (n' := 0) dX4_frames_25 (nx := 28) rfl lk_X4_152 (hM.1 0 _ rfl) (by decide) rfl rfl (Nat.le_of_ble_eq_true rfl) (Nat.le_of_ble_eq_true rfl) (Nat.le_of_ble_eq_true rfl) (Nat.le_of_ble_eq_true rfl) (Nat.le_of_ble_eq_true rfl) (Nat.le_of_ble_eq_true rfl) (Nat.le_of_ble_eq_true rfl) (s_X4_lays (q := q k) hst hM (by omega) (hl0 k hk9).1.1 (hl0 k hk9).1.2.1 (fun I1 L1 e1 e2 r1 => ?_))
        refine g_aloadG_n hx dX4_frames_28 rfl (nx := 29) rfl rfl ?_
        refine g_getfo_i hx dX4_frames_29 (nx := 32) rfl fa_X4_143 rfl (hM.1 0 _ rfl) (by decide) ?_
        refine g_iret hx dX4_frames_32 rfl rfl (Nat.le_of_ble_eq_true rfl) (Nat.le_of_ble_eq_true rfl) ?_
        first | exact hf1 qs | (rw [r1.2.2]; exact hk k hk9 rfl I1 L1 e1 e2)
      · exact absurd c17 (by decide)
  · refine g_if_eq hx dX4_frames_6 (tg := 13) (by decide) (nx := 9) rfl (fun c6 => ?_) (fun c6 => ?_)
    · refine g_iconst hx dX4_frames_13 (nx := 14) rfl (v := 1) (by decide) ?_
      refine g_callV_M hx [_] (k' := 0) (n' := 0) dX4_frames_14 (nx := 17) rfl lk_X4_114 (hM.1 0 _ rfl) (by decide) rfl rfl (Nat.le_of_ble_eq_true rfl) (Nat.le_of_ble_eq_true rfl) (Nat.le_of_ble_eq_true rfl) (Nat.le_of_ble_eq_true rfl) (Nat.le_of_ble_eq_true rfl) (Nat.le_of_ble_eq_true rfl) (Nat.le_of_ble_eq_true rfl) (s_X4_can hst hM (fun z => absurd z (by decide)) (fun _ => ?_))
      refine g_if_ne hx dX4_frames_17 (tg := 22) (by decide) (nx := 20) rfl (fun c17 => ?_) (fun c17 => ?_)
      · exact absurd c17 (by decide)
      · refine g_iconst hx dX4_frames_20 (nx := 21) rfl (v := 0) (by decide) ?_
        refine g_iret hx dX4_frames_21 rfl rfl (Nat.le_of_ble_eq_true rfl) (Nat.le_of_ble_eq_true rfl) ?_
        first | exact hf1 qs | (rw [r1.2.2]; exact hk k hk9 rfl I1 L1 e1 e2)
    · exact absurd c6 (by decide)

abbrev rmX4_value : Room := { frames := 4, cells := 0, slots := 0, locals := 96 }
set_option maxHeartbeats 4000000 in
set_option maxRecDepth 100000 in
theorem s_X4_value {l : Launch} {E : aE} {S : aS} {I : aI} {L : aL} {Rf : aR} {Kr : aK} {Kx : aX} (hst : l.stackTraces = false) {n : Nat} {x y w : Int32} {q : Nat → Nat → Bool} {V : Nat → Nat → Int64} {ff : Nat → Nat → Int32} {oo : Nat → Nat} (hM : lyM S Rf) (h4 : I 20 4 = nI n) (hn6 : n ≤ 6) (hT : tbM I) (hl : okM I n q V ff oo) (hf1 : ¬ (inN x n ∧ inN y 3) → Kr (some (.int 0)) S (au2 I 20 31 1) L Rf) (hf2 : (inN x n ∧ inN y 3) → ¬ inN w 256 → Kr (some (.int 0)) S (au2 I 20 31 2) L Rf) (hk : ∀ k j t, k < n → j < 3 → t < 256 → x = nI k → y = nI j → w = nI t → ∀ I' L', eM I' (au2 I 20 31 0) → eL L' L → Kr (some (.int (if q k t = true then wtM q V ff k (nI j) (oo k) t else 0).toInt32)) S I' L' Rf) : aMet l E yX4_value cX4_value 5 (some .int) rmX4_value [.ref 20, .int x, .int y, .int w] (S) (I) (L) (Rf) Kr Kx := by
  refine aMet.of (lv0 := [.ref 20, .int x, .int y, .int w, aU]) (z := 1) (by decide +kernel) hst rfl (Nat.le_of_ble_eq_true rfl) ?_
  intro p e s m args below meth c io0 hx hin hno
  have hx : aCx p l s m args meth c RX4 cX4_value 5 (some .int) E := hx
  refine g_aloadG_n hx dX4_value_0 rfl (nx := 1) rfl rfl ?_
  refine g_iloadG_n hx dX4_value_1 rfl (nx := 2) rfl rfl ?_
  refine g_callV_M hx [_] (k' := 0) (n' := 0) dX4_value_2 (nx := 5) rfl lk_X4_119 (hM.1 0 _ rfl) (by decide) rfl rfl (Nat.le_of_ble_eq_true rfl) (Nat.le_of_ble_eq_true rfl) (Nat.le_of_ble_eq_true rfl) (Nat.le_of_ble_eq_true rfl) (Nat.le_of_ble_eq_true rfl) (Nat.le_of_ble_eq_true rfl) (Nat.le_of_ble_eq_true rfl) (s_X4_isStar (n := n) hst hM h4 (by omega) (fun k hk9 ek => ?_) (fun qs => ?_))
  · subst ek
    have hkc : (nI k).toNatClampNeg = k := nI_clamp (by omega)
    have hin6 : vp_in (nI k) 6 := vp_in_nI (by omega) (by decide)
    refine g_if_eq hx dX4_value_5 (tg := 19) (by decide) (nx := 8) rfl (fun c5 => ?_) (fun c5 => ?_)
    · exact absurd c5 (by decide)
    · refine g_iloadG_n hx dX4_value_8 rfl (nx := 9) rfl rfl ?_
      refine g_callS_M hx [_] (k' := 0) (n' := 0) dX4_value_9 (nx := 12) rfl lk_X4_163 rfl (Nat.le_of_ble_eq_true rfl) (Nat.le_of_ble_eq_true rfl) (Nat.le_of_ble_eq_true rfl) (Nat.le_of_ble_eq_true rfl) (Nat.le_of_ble_eq_true rfl) (Nat.le_of_ble_eq_true rfl) (Nat.le_of_ble_eq_true rfl) (s_X4_isFilter hst (fun j hj9 ej => ?_) (fun qj => ?_))
      · subst ej
        refine g_if_eq hx dX4_value_12 (tg := 19) (by decide) (nx := 15) rfl (fun c12 => ?_) (fun c12 => ?_)
        · exact absurd c12 (by decide)
        · refine g_iconst hx dX4_value_15 (nx := 16) rfl (v := 1) (by decide) ?_
          refine g_goto hx dX4_value_16 (tg := 20) (by decide) ?_
          refine g_istore_4 hx dX4_value_20 (nx := 22) rfl (by decide) rfl ?_
          refine g_aloadG_n hx dX4_value_22 rfl (nx := 23) rfl rfl ?_
          refine g_iloadG hx dX4_value_23 (nx := 25) rfl rfl ?_
          refine g_if_ne hx dX4_value_25 (tg := 32) (by decide) (nx := 28) rfl (fun c25 => ?_) (fun c25 => ?_)
          · refine g_iloadG_n hx dX4_value_32 rfl (nx := 33) rfl rfl ?_
            refine g_callS_M hx [_] (k' := 0) (n' := 0) dX4_value_33 (nx := 36) rfl lk_X4_126 rfl (Nat.le_of_ble_eq_true rfl) (Nat.le_of_ble_eq_true rfl) (Nat.le_of_ble_eq_true rfl) (Nat.le_of_ble_eq_true rfl) (Nat.le_of_ble_eq_true rfl) (Nat.le_of_ble_eq_true rfl) (Nat.le_of_ble_eq_true rfl) (s_X4_isTime hst (fun t ht9 et => ?_) (fun qt => ?_))
            · subst et
              refine g_if_eq hx dX4_value_36 (tg := 43) (by decide) (nx := 39) rfl (fun c36 => ?_) (fun c36 => ?_)
              · exact absurd c36 (by decide)
              · refine g_iconst hx dX4_value_39 (nx := 40) rfl (v := 0) (by decide) ?_
                refine g_goto hx dX4_value_40 (tg := 44) (by decide) ?_
                refine g_callV_M hx [_] (k' := 0) (n' := 0) dX4_value_44 (nx := 47) rfl lk_X4_114 (hM.1 0 _ rfl) (by decide) rfl rfl (Nat.le_of_ble_eq_true rfl) (Nat.le_of_ble_eq_true rfl) (Nat.le_of_ble_eq_true rfl) (Nat.le_of_ble_eq_true rfl) (Nat.le_of_ble_eq_true rfl) (Nat.le_of_ble_eq_true rfl) (Nat.le_of_ble_eq_true rfl) (s_X4_can hst hM (fun _ => ?_) (fun z => absurd rfl z))
                refine g_if_ne hx dX4_value_47 (tg := 52) (by decide) (nx := 50) rfl (fun c47 => ?_) (fun c47 => ?_)
                · have hT0 : tbM (au2 I 20 31 0) := hT.y (fun b => au2_n (by omega))
                  have hl0 : okM (au2 I 20 31 0) n q V ff oo := hl.x (fun a b z => au2_n (by omega))
                  refine g_aloadG_n hx dX4_value_52 rfl (nx := 53) rfl rfl ?_
                  refine g_iloadG_n hx dX4_value_53 rfl (nx := 54) rfl rfl ?_
                  refine g_iloadG_n hx dX4_value_54 rfl (nx := 55) rfl rfl ?_
                  refine g_aloadG_n hx dX4_value_55 rfl (nx := 56) rfl rfl ?_
                  refine g_getfo_R hx dX4_value_56 (nx := 59) rfl fa_X4_51 rfl (r9 := 35) (hM.2 15 rfl) (hM.1 0 _ rfl) (by decide) ?_
                  refine g_iloadG_n hx dX4_value_59 rfl (nx := 60) rfl rfl ?_
                  refine g_iaload hx dX4_value_60 (nx := 61) rfl (hM.1 15 _ rfl) (by decide) hin6 ?_
                  rw [hkc, (hl0 k hk9).2.1]
                  refine g_callV_M hx [_, _, _] (k' := 0) (n' := 0) dX4_value_61 (nx := 64) rfl lk_X4_166 (hM.1 0 _ rfl) (by decide) rfl rfl (Nat.le_of_ble_eq_true rfl) (Nat.le_of_ble_eq_true rfl) (Nat.le_of_ble_eq_true rfl) (Nat.le_of_ble_eq_true rfl) (Nat.le_of_ble_eq_true rfl) (Nat.le_of_ble_eq_true rfl) (Nat.le_of_ble_eq_true rfl) (s_X4_laysAll (q := q k) (V := V k) (ff := ff k) (mm := oo k) hst hM hT0 (by omega) (hl0 k hk9).1 (hl0 k hk9).2.2 (f3_of hj9) (fun I1 L1 e1 e2 r1 => ?_))
                  refine g_aloadG_n hx dX4_value_64 rfl (nx := 65) rfl rfl ?_
                  refine g_getfo_R hx dX4_value_65 (nx := 68) rfl fa_X4_60 rfl (r9 := 39) (hM.2 19 rfl) (hM.1 0 _ rfl) (by decide) ?_
                  refine g_iloadG_n hx dX4_value_68 rfl (nx := 69) rfl rfl ?_
                  refine g_laload hx dX4_value_69 (nx := 70) rfl (hM.1 19 _ rfl) (by decide) (vp_in_nI ht9 (by decide)) ?_
                  refine g_l2i hx dX4_value_70 (nx := 71) rfl ?_
                  refine g_iret hx dX4_value_71 rfl rfl (Nat.le_of_ble_eq_true rfl) (Nat.le_of_ble_eq_true rfl) ?_
                  first
                    | exact hf1 (fun z => qs z.1)
                    | exact hf1 (fun z => qj z.2)
                    | exact hf2 ⟨⟨k, hk9, rfl⟩, ⟨j, hj9, rfl⟩⟩ qt
                    | (rw [nI_clamp (by omega), r1.2.1 t ht9]; exact hk k j t hk9 hj9 ht9 rfl rfl rfl I1 L1 e1 e2)
                · exact absurd c47 (by decide)
            · refine g_if_eq hx dX4_value_36 (tg := 43) (by decide) (nx := 39) rfl (fun c36 => ?_) (fun c36 => ?_)
              · refine g_iconst hx dX4_value_43 (nx := 44) rfl (v := 2) (by decide) ?_
                refine g_callV_M hx [_] (k' := 0) (n' := 0) dX4_value_44 (nx := 47) rfl lk_X4_114 (hM.1 0 _ rfl) (by decide) rfl rfl (Nat.le_of_ble_eq_true rfl) (Nat.le_of_ble_eq_true rfl) (Nat.le_of_ble_eq_true rfl) (Nat.le_of_ble_eq_true rfl) (Nat.le_of_ble_eq_true rfl) (Nat.le_of_ble_eq_true rfl) (Nat.le_of_ble_eq_true rfl) (s_X4_can hst hM (fun z => absurd z (by decide)) (fun _ => ?_))
                refine g_if_ne hx dX4_value_47 (tg := 52) (by decide) (nx := 50) rfl (fun c47 => ?_) (fun c47 => ?_)
                · exact absurd c47 (by decide)
                · refine g_iconst hx dX4_value_50 (nx := 51) rfl (v := 0) (by decide) ?_
                  refine g_iret hx dX4_value_51 rfl rfl (Nat.le_of_ble_eq_true rfl) (Nat.le_of_ble_eq_true rfl) ?_
                  first
                    | exact hf1 (fun z => qs z.1)
                    | exact hf1 (fun z => qj z.2)
                    | exact hf2 ⟨⟨k, hk9, rfl⟩, ⟨j, hj9, rfl⟩⟩ qt
                    | (rw [nI_clamp (by omega), r1.2.1 t ht9]; exact hk k j t hk9 hj9 ht9 rfl rfl rfl I1 L1 e1 e2)
              · exact absurd c36 (by decide)
          · exact absurd c25 (by decide)
      · refine g_if_eq hx dX4_value_12 (tg := 19) (by decide) (nx := 15) rfl (fun c12 => ?_) (fun c12 => ?_)
        · refine g_iconst hx dX4_value_19 (nx := 20) rfl (v := 0) (by decide) ?_
          refine g_istore_4 hx dX4_value_20 (nx := 22) rfl (by decide) rfl ?_
          refine g_aloadG_n hx dX4_value_22 rfl (nx := 23) rfl rfl ?_
          refine g_iloadG hx dX4_value_23 (nx := 25) rfl rfl ?_
          refine g_if_ne hx dX4_value_25 (tg := 32) (by decide) (nx := 28) rfl (fun c25 => ?_) (fun c25 => ?_)
          · exact absurd c25 (by decide)
          · refine g_iconst hx dX4_value_28 (nx := 29) rfl (v := 1) (by decide) ?_
            refine g_goto hx dX4_value_29 (tg := 44) (by decide) ?_
            refine g_callV_M hx [_] (k' := 0) (n' := 0) dX4_value_44 (nx := 47) rfl lk_X4_114 (hM.1 0 _ rfl) (by decide) rfl rfl (Nat.le_of_ble_eq_true rfl) (Nat.le_of_ble_eq_true rfl) (Nat.le_of_ble_eq_true rfl) (Nat.le_of_ble_eq_true rfl) (Nat.le_of_ble_eq_true rfl) (Nat.le_of_ble_eq_true rfl) (Nat.le_of_ble_eq_true rfl) (s_X4_can hst hM (fun z => absurd z (by decide)) (fun _ => ?_))
            refine g_if_ne hx dX4_value_47 (tg := 52) (by decide) (nx := 50) rfl (fun c47 => ?_) (fun c47 => ?_)
            · exact absurd c47 (by decide)
            · refine g_iconst hx dX4_value_50 (nx := 51) rfl (v := 0) (by decide) ?_
              refine g_iret hx dX4_value_51 rfl rfl (Nat.le_of_ble_eq_true rfl) (Nat.le_of_ble_eq_true rfl) ?_
              first
                | exact hf1 (fun z => qs z.1)
                | exact hf1 (fun z => qj z.2)
                | exact hf2 ⟨⟨k, hk9, rfl⟩, ⟨j, hj9, rfl⟩⟩ qt
                | (rw [nI_clamp (by omega), r1.2.1 t ht9]; exact hk k j t hk9 hj9 ht9 rfl rfl rfl I1 L1 e1 e2)
        · exact absurd c12 (by decide)
  · refine g_if_eq hx dX4_value_5 (tg := 19) (by decide) (nx := 8) rfl (fun c5 => ?_) (fun c5 => ?_)
    · refine g_iconst hx dX4_value_19 (nx := 20) rfl (v := 0) (by decide) ?_
      refine g_istore_4 hx dX4_value_20 (nx := 22) rfl (by decide) rfl ?_
      refine g_aloadG_n hx dX4_value_22 rfl (nx := 23) rfl rfl ?_
      refine g_iloadG hx dX4_value_23 (nx := 25) rfl rfl ?_
      refine g_if_ne hx dX4_value_25 (tg := 32) (by decide) (nx := 28) rfl (fun c25 => ?_) (fun c25 => ?_)
      · exact absurd c25 (by decide)
      · refine g_iconst hx dX4_value_28 (nx := 29) rfl (v := 1) (by decide) ?_
        refine g_goto hx dX4_value_29 (tg := 44) (by decide) ?_
        refine g_callV_M hx [_] (k' := 0) (n' := 0) dX4_value_44 (nx := 47) rfl lk_X4_114 (hM.1 0 _ rfl) (by decide) rfl rfl (Nat.le_of_ble_eq_true rfl) (Nat.le_of_ble_eq_true rfl) (Nat.le_of_ble_eq_true rfl) (Nat.le_of_ble_eq_true rfl) (Nat.le_of_ble_eq_true rfl) (Nat.le_of_ble_eq_true rfl) (Nat.le_of_ble_eq_true rfl) (s_X4_can hst hM (fun z => absurd z (by decide)) (fun _ => ?_))
        refine g_if_ne hx dX4_value_47 (tg := 52) (by decide) (nx := 50) rfl (fun c47 => ?_) (fun c47 => ?_)
        · exact absurd c47 (by decide)
        · refine g_iconst hx dX4_value_50 (nx := 51) rfl (v := 0) (by decide) ?_
          refine g_iret hx dX4_value_51 rfl rfl (Nat.le_of_ble_eq_true rfl) (Nat.le_of_ble_eq_true rfl) ?_
          first
            | exact hf1 (fun z => qs z.1)
            | exact hf1 (fun z => qj z.2)
            | exact hf2 ⟨⟨k, hk9, rfl⟩, ⟨j, hj9, rfl⟩⟩ qt
            | (rw [nI_clamp (by omega), r1.2.1 t ht9]; exact hk k j t hk9 hj9 ht9 rfl rfl rfl I1 L1 e1 e2)
    · exact absurd c5 (by decide)

abbrev rmX4_power : Room := { frames := 4, cells := 0, slots := 0, locals := 96 }
set_option maxHeartbeats 4000000 in
set_option maxRecDepth 100000 in
theorem s_X4_power {l : Launch} {E : aE} {S : aS} {I : aI} {L : aL} {Rf : aR} {Kr : aK} {Kx : aX} (hst : l.stackTraces = false) {n : Nat} {x y w : Int32} {q : Nat → Nat → Bool} {V : Nat → Nat → Int64} {ff : Nat → Nat → Int32} {oo : Nat → Nat} (hM : lyM S Rf) (h4 : I 20 4 = nI n) (hn6 : n ≤ 6) (hT : tbM I) (hl : okM I n q V ff oo) (hf1 : ¬ (inN x n ∧ inN y 3) → Kr (some (.long 0)) S (au2 I 20 31 1) L Rf) (hf2 : (inN x n ∧ inN y 3) → ¬ inN w 32 → Kr (some (.long 0)) S (au2 I 20 31 2) L Rf) (hk : ∀ k j t, k < n → j < 3 → t < 32 → x = nI k → y = nI j → w = nI t → ∀ I' L', eM I' (au2 I 20 31 0) → eL L' L → Kr (some (.long (pw (q k) (wtM q V ff k (nI j) (oo k)) (nI t)))) S I' L' Rf) : aMet l E yX4_power cX4_power 5 (some .long) rmX4_power [.ref 20, .int x, .int y, .int w] (S) (I) (L) (Rf) Kr Kx := by
  refine aMet.of (lv0 := [.ref 20, .int x, .int y, .int w, aU]) (z := 1) (by decide +kernel) hst rfl (Nat.le_of_ble_eq_true rfl) ?_
  intro p e s m args below meth c io0 hx hin hno
  have hx : aCx p l s m args meth c RX4 cX4_power 5 (some .long) E := hx
  refine g_aloadG_n hx dX4_power_0 rfl (nx := 1) rfl rfl ?_
  refine g_iloadG_n hx dX4_power_1 rfl (nx := 2) rfl rfl ?_
  refine g_callV_M hx [_] (k' := 0) (n' := 0) dX4_power_2 (nx := 5) rfl lk_X4_119 (hM.1 0 _ rfl) (by decide) rfl rfl (Nat.le_of_ble_eq_true rfl) (Nat.le_of_ble_eq_true rfl) (Nat.le_of_ble_eq_true rfl) (Nat.le_of_ble_eq_true rfl) (Nat.le_of_ble_eq_true rfl) (Nat.le_of_ble_eq_true rfl) (Nat.le_of_ble_eq_true rfl) (s_X4_isStar (n := n) hst hM h4 (by omega) (fun k hk9 ek => ?_) (fun qs => ?_))
  · subst ek
    have hkc : (nI k).toNatClampNeg = k := nI_clamp (by omega)
    have hin6 : vp_in (nI k) 6 := vp_in_nI (by omega) (by decide)
    refine g_if_eq hx dX4_power_5 (tg := 19) (by decide) (nx := 8) rfl (fun c5 => ?_) (fun c5 => ?_)
    · exact absurd c5 (by decide)
    · refine g_iloadG_n hx dX4_power_8 rfl (nx := 9) rfl rfl ?_
      refine g_callS_M hx [_] (k' := 0) (n' := 0) dX4_power_9 (nx := 12) rfl lk_X4_163 rfl (Nat.le_of_ble_eq_true rfl) (Nat.le_of_ble_eq_true rfl) (Nat.le_of_ble_eq_true rfl) (Nat.le_of_ble_eq_true rfl) (Nat.le_of_ble_eq_true rfl) (Nat.le_of_ble_eq_true rfl) (Nat.le_of_ble_eq_true rfl) (s_X4_isFilter hst (fun j hj9 ej => ?_) (fun qj => ?_))
      · subst ej
        refine g_if_eq hx dX4_power_12 (tg := 19) (by decide) (nx := 15) rfl (fun c12 => ?_) (fun c12 => ?_)
        · exact absurd c12 (by decide)
        · refine g_iconst hx dX4_power_15 (nx := 16) rfl (v := 1) (by decide) ?_
          refine g_goto hx dX4_power_16 (tg := 20) (by decide) ?_
          refine g_istore_4 hx dX4_power_20 (nx := 22) rfl (by decide) rfl ?_
          refine g_aloadG_n hx dX4_power_22 rfl (nx := 23) rfl rfl ?_
          refine g_iloadG hx dX4_power_23 (nx := 25) rfl rfl ?_
          refine g_if_ne hx dX4_power_25 (tg := 32) (by decide) (nx := 28) rfl (fun c25 => ?_) (fun c25 => ?_)
          · refine g_iloadG_n hx dX4_power_32 rfl (nx := 33) rfl rfl ?_
            refine g_callS_M hx [_] (k' := 0) (n' := 0) dX4_power_33 (nx := 36) rfl lk_X4_170 rfl (Nat.le_of_ble_eq_true rfl) (Nat.le_of_ble_eq_true rfl) (Nat.le_of_ble_eq_true rfl) (Nat.le_of_ble_eq_true rfl) (Nat.le_of_ble_eq_true rfl) (Nat.le_of_ble_eq_true rfl) (Nat.le_of_ble_eq_true rfl) (s_X4_isLine hst (fun t ht9 et => ?_) (fun qt => ?_))
            · subst et
              refine g_if_eq hx dX4_power_36 (tg := 43) (by decide) (nx := 39) rfl (fun c36 => ?_) (fun c36 => ?_)
              · exact absurd c36 (by decide)
              · refine g_iconst hx dX4_power_39 (nx := 40) rfl (v := 0) (by decide) ?_
                refine g_goto hx dX4_power_40 (tg := 44) (by decide) ?_
                refine g_callV_M hx [_] (k' := 0) (n' := 0) dX4_power_44 (nx := 47) rfl lk_X4_114 (hM.1 0 _ rfl) (by decide) rfl rfl (Nat.le_of_ble_eq_true rfl) (Nat.le_of_ble_eq_true rfl) (Nat.le_of_ble_eq_true rfl) (Nat.le_of_ble_eq_true rfl) (Nat.le_of_ble_eq_true rfl) (Nat.le_of_ble_eq_true rfl) (Nat.le_of_ble_eq_true rfl) (s_X4_can hst hM (fun _ => ?_) (fun z => absurd rfl z))
                refine g_if_ne hx dX4_power_47 (tg := 52) (by decide) (nx := 50) rfl (fun c47 => ?_) (fun c47 => ?_)
                · have hT0 : tbM (au2 I 20 31 0) := hT.y (fun b => au2_n (by omega))
                  have hl0 : okM (au2 I 20 31 0) n q V ff oo := hl.x (fun a b z => au2_n (by omega))
                  refine g_aloadG_n hx dX4_power_52 rfl (nx := 53) rfl rfl ?_
                  refine g_iloadG_n hx dX4_power_53 rfl (nx := 54) rfl rfl ?_
                  refine g_iloadG_n hx dX4_power_54 rfl (nx := 55) rfl rfl ?_
                  refine g_aloadG_n hx dX4_power_55 rfl (nx := 56) rfl rfl ?_
                  refine g_getfo_R hx dX4_power_56 (nx := 59) rfl fa_X4_51 rfl (r9 := 35) (hM.2 15 rfl) (hM.1 0 _ rfl) (by decide) ?_
                  refine g_iloadG_n hx dX4_power_59 rfl (nx := 60) rfl rfl ?_
                  refine g_iaload hx dX4_power_60 (nx := 61) rfl (hM.1 15 _ rfl) (by decide) hin6 ?_
                  rw [hkc, (hl0 k hk9).2.1]
                  refine g_callV_M hx [_, _, _] (k' := 0) (n' := 0) dX4_power_61 (nx := 64) rfl lk_X4_166 (hM.1 0 _ rfl) (by decide) rfl rfl (Nat.le_of_ble_eq_true rfl) (Nat.le_of_ble_eq_true rfl) (Nat.le_of_ble_eq_true rfl) (Nat.le_of_ble_eq_true rfl) (Nat.le_of_ble_eq_true rfl) (Nat.le_of_ble_eq_true rfl) (Nat.le_of_ble_eq_true rfl) (s_X4_laysAll (q := q k) (V := V k) (ff := ff k) (mm := oo k) hst hM hT0 (by omega) (hl0 k hk9).1 (hl0 k hk9).2.2 (f3_of hj9) (fun I1 L1 e1 e2 r1 => ?_))
                  refine g_aloadG_n hx dX4_power_64 rfl (nx := 65) rfl rfl ?_
                  refine g_iloadG_n hx dX4_power_65 rfl (nx := 66) rfl rfl ?_
                  refine g_callV_M hx [_] (k' := 0) (n' := 0) dX4_power_66 (nx := 69) rfl lk_X4_173 (hM.1 0 _ rfl) (by decide) rfl rfl (Nat.le_of_ble_eq_true rfl) (Nat.le_of_ble_eq_true rfl) (Nat.le_of_ble_eq_true rfl) (Nat.le_of_ble_eq_true rfl) (Nat.le_of_ble_eq_true rfl) (Nat.le_of_ble_eq_true rfl) (Nat.le_of_ble_eq_true rfl) (s_X4_powerOf (j := t) hst hM (hT0.x e1) r1 rfl (by omega) ?_)
                  refine g_lret hx dX4_power_69 rfl (Nat.le_of_ble_eq_true rfl) (Nat.le_of_ble_eq_true rfl) ?_
                  first
                    | exact hf1 (fun z => qs z.1)
                    | exact hf1 (fun z => qj z.2)
                    | exact hf2 ⟨⟨k, hk9, rfl⟩, ⟨j, hj9, rfl⟩⟩ qt
                    | exact hk k j t hk9 hj9 ht9 rfl rfl rfl I1 L1 e1 e2
                · exact absurd c47 (by decide)
            · refine g_if_eq hx dX4_power_36 (tg := 43) (by decide) (nx := 39) rfl (fun c36 => ?_) (fun c36 => ?_)
              · refine g_iconst hx dX4_power_43 (nx := 44) rfl (v := 2) (by decide) ?_
                refine g_callV_M hx [_] (k' := 0) (n' := 0) dX4_power_44 (nx := 47) rfl lk_X4_114 (hM.1 0 _ rfl) (by decide) rfl rfl (Nat.le_of_ble_eq_true rfl) (Nat.le_of_ble_eq_true rfl) (Nat.le_of_ble_eq_true rfl) (Nat.le_of_ble_eq_true rfl) (Nat.le_of_ble_eq_true rfl) (Nat.le_of_ble_eq_true rfl) (Nat.le_of_ble_eq_true rfl) (s_X4_can hst hM (fun z => absurd z (by decide)) (fun _ => ?_))
                refine g_if_ne hx dX4_power_47 (tg := 52) (by decide) (nx := 50) rfl (fun c47 => ?_) (fun c47 => ?_)
                · exact absurd c47 (by decide)
                · refine g_lconst hx dX4_power_50 (nx := 51) rfl (v := 0) (by decide) ?_
                  refine g_lret hx dX4_power_51 rfl (Nat.le_of_ble_eq_true rfl) (Nat.le_of_ble_eq_true rfl) ?_
                  first
                    | exact hf1 (fun z => qs z.1)
                    | exact hf1 (fun z => qj z.2)
                    | exact hf2 ⟨⟨k, hk9, rfl⟩, ⟨j, hj9, rfl⟩⟩ qt
                    | exact hk k j t hk9 hj9 ht9 rfl rfl rfl I1 L1 e1 e2
              · exact absurd c36 (by decide)
          · exact absurd c25 (by decide)
      · refine g_if_eq hx dX4_power_12 (tg := 19) (by decide) (nx := 15) rfl (fun c12 => ?_) (fun c12 => ?_)
        · refine g_iconst hx dX4_power_19 (nx := 20) rfl (v := 0) (by decide) ?_
          refine g_istore_4 hx dX4_power_20 (nx := 22) rfl (by decide) rfl ?_
          refine g_aloadG_n hx dX4_power_22 rfl (nx := 23) rfl rfl ?_
          refine g_iloadG hx dX4_power_23 (nx := 25) rfl rfl ?_
          refine g_if_ne hx dX4_power_25 (tg := 32) (by decide) (nx := 28) rfl (fun c25 => ?_) (fun c25 => ?_)
          · exact absurd c25 (by decide)
          · refine g_iconst hx dX4_power_28 (nx := 29) rfl (v := 1) (by decide) ?_
            refine g_goto hx dX4_power_29 (tg := 44) (by decide) ?_
            refine g_callV_M hx [_] (k' := 0) (n' := 0) dX4_power_44 (nx := 47) rfl lk_X4_114 (hM.1 0 _ rfl) (by decide) rfl rfl (Nat.le_of_ble_eq_true rfl) (Nat.le_of_ble_eq_true rfl) (Nat.le_of_ble_eq_true rfl) (Nat.le_of_ble_eq_true rfl) (Nat.le_of_ble_eq_true rfl) (Nat.le_of_ble_eq_true rfl) (Nat.le_of_ble_eq_true rfl) (s_X4_can hst hM (fun z => absurd z (by decide)) (fun _ => ?_))
            refine g_if_ne hx dX4_power_47 (tg := 52) (by decide) (nx := 50) rfl (fun c47 => ?_) (fun c47 => ?_)
            · exact absurd c47 (by decide)
            · refine g_lconst hx dX4_power_50 (nx := 51) rfl (v := 0) (by decide) ?_
              refine g_lret hx dX4_power_51 rfl (Nat.le_of_ble_eq_true rfl) (Nat.le_of_ble_eq_true rfl) ?_
              first
                | exact hf1 (fun z => qs z.1)
                | exact hf1 (fun z => qj z.2)
                | exact hf2 ⟨⟨k, hk9, rfl⟩, ⟨j, hj9, rfl⟩⟩ qt
                | exact hk k j t hk9 hj9 ht9 rfl rfl rfl I1 L1 e1 e2
        · exact absurd c12 (by decide)
  · refine g_if_eq hx dX4_power_5 (tg := 19) (by decide) (nx := 8) rfl (fun c5 => ?_) (fun c5 => ?_)
    · refine g_iconst hx dX4_power_19 (nx := 20) rfl (v := 0) (by decide) ?_
      refine g_istore_4 hx dX4_power_20 (nx := 22) rfl (by decide) rfl ?_
      refine g_aloadG_n hx dX4_power_22 rfl (nx := 23) rfl rfl ?_
      refine g_iloadG hx dX4_power_23 (nx := 25) rfl rfl ?_
      refine g_if_ne hx dX4_power_25 (tg := 32) (by decide) (nx := 28) rfl (fun c25 => ?_) (fun c25 => ?_)
      · exact absurd c25 (by decide)
      · refine g_iconst hx dX4_power_28 (nx := 29) rfl (v := 1) (by decide) ?_
        refine g_goto hx dX4_power_29 (tg := 44) (by decide) ?_
        refine g_callV_M hx [_] (k' := 0) (n' := 0) dX4_power_44 (nx := 47) rfl lk_X4_114 (hM.1 0 _ rfl) (by decide) rfl rfl (Nat.le_of_ble_eq_true rfl) (Nat.le_of_ble_eq_true rfl) (Nat.le_of_ble_eq_true rfl) (Nat.le_of_ble_eq_true rfl) (Nat.le_of_ble_eq_true rfl) (Nat.le_of_ble_eq_true rfl) (Nat.le_of_ble_eq_true rfl) (s_X4_can hst hM (fun z => absurd z (by decide)) (fun _ => ?_))
        refine g_if_ne hx dX4_power_47 (tg := 52) (by decide) (nx := 50) rfl (fun c47 => ?_) (fun c47 => ?_)
        · exact absurd c47 (by decide)
        · refine g_lconst hx dX4_power_50 (nx := 51) rfl (v := 0) (by decide) ?_
          refine g_lret hx dX4_power_51 rfl (Nat.le_of_ble_eq_true rfl) (Nat.le_of_ble_eq_true rfl) ?_
          first
            | exact hf1 (fun z => qs z.1)
            | exact hf1 (fun z => qj z.2)
            | exact hf2 ⟨⟨k, hk9, rfl⟩, ⟨j, hj9, rfl⟩⟩ qt
            | exact hk k j t hk9 hj9 ht9 rfl rfl rfl I1 L1 e1 e2
    · exact absurd c5 (by decide)

abbrev rmX4_windowOf : Room := { frames := 3, cells := 0, slots := 0, locals := 71 }
set_option maxHeartbeats 4000000 in
set_option maxRecDepth 100000 in
theorem s_X4_windowOf {l : Launch} {E : aE} {S : aS} {I : aI} {L : aL} {Rf : aR} {Kr : aK} {Kx : aX} (hst : l.stackTraces = false) {k t m9 : Nat} {x : Int32} {q : Nat → Bool} {V : Nat → Int64} {ff : Nat → Int32} (hM : lyM S Rf) (hT : tbM I) (hk6 : k < 6) (hl : lgM I k q V ff m9) (hxt : x = nI t) (ht : t < 64) (hk : ∀ I' L', eM I' I → eL L' L → I' 20 18 = nI (aT q).length → Kr (some (.long (pw q (fun _ => 1) x))) S I' L' Rf) : aMet l E yX4_windowOf cX4_windowOf 3 (some .long) rmX4_windowOf [.ref 20, .int (nI k), .int x] (S) (I) (L) (Rf) Kr Kx := by
  refine aMet.of (lv0 := [.ref 20, .int (nI k), .int x]) (z := 0) (by decide +kernel) hst rfl (Nat.le_of_ble_eq_true rfl) ?_
  intro p e s m args below meth c io0 hx hin hno
  have hx : aCx p l s m args meth c RX4 cX4_windowOf 3 (some .long) E := hx
  refine g_aloadG_n hx dX4_windowOf_0 rfl (nx := 1) rfl rfl ?_
  refine g_iloadG_n hx dX4_windowOf_1 rfl (nx := 2) rfl rfl ?_
  refine g_iconst hx dX4_windowOf_2 (nx := 3) rfl (v := 1) (by decide) ?_
  refine g_callV_M hx [_, _] (k' := 0) (n' := 0) dX4_windowOf_3 (nx := 6) rfl lk_X4_152 (hM.1 0 _ rfl) (by decide) rfl rfl (Nat.le_of_ble_eq_true rfl) (Nat.le_of_ble_eq_true rfl) (Nat.le_of_ble_eq_true rfl) (Nat.le_of_ble_eq_true rfl) (Nat.le_of_ble_eq_true rfl) (Nat.le_of_ble_eq_true rfl) (Nat.le_of_ble_eq_true rfl) (s_X4_lays (q := q) hst hM hk6 hl.1 hl.2.1 (fun I1 L1 e1 e2 r1 => ?_))
  refine g_aloadG_n hx dX4_windowOf_6 rfl (nx := 7) rfl rfl ?_
  refine g_iloadG_n hx dX4_windowOf_7 rfl (nx := 8) rfl rfl ?_
  refine g_callV_M hx [_] (k' := 0) (n' := 0) dX4_windowOf_8 (nx := 11) rfl lk_X4_173 (hM.1 0 _ rfl) (by decide) rfl rfl (Nat.le_of_ble_eq_true rfl) (Nat.le_of_ble_eq_true rfl) (Nat.le_of_ble_eq_true rfl) (Nat.le_of_ble_eq_true rfl) (Nat.le_of_ble_eq_true rfl) (Nat.le_of_ble_eq_true rfl) (Nat.le_of_ble_eq_true rfl) (s_X4_powerOf (j := t) hst hM (hT.x e1) (trM1f q r1) hxt ht ?_)
  refine g_lret hx dX4_windowOf_11 rfl (Nat.le_of_ble_eq_true rfl) (Nat.le_of_ble_eq_true rfl) ?_
  exact hk I1 L1 e1 e2 r1.2.2

abbrev rmX4_window : Room := { frames := 4, cells := 0, slots := 0, locals := 93 }
set_option maxHeartbeats 4000000 in
set_option maxRecDepth 100000 in
theorem s_X4_window {l : Launch} {E : aE} {S : aS} {I : aI} {L : aL} {Rf : aR} {Kr : aK} {Kx : aX} (hst : l.stackTraces = false) {n : Nat} {x w : Int32} {q : Nat → Nat → Bool} {V : Nat → Nat → Int64} {ff : Nat → Nat → Int32} {oo : Nat → Nat} (hM : lyM S Rf) (h4 : I 20 4 = nI n) (hn6 : n ≤ 6) (hT : tbM I) (hl : okM I n q V ff oo) (hf1 : ¬ inN x n → Kr (some (.long 0)) S (au2 I 20 31 1) L Rf) (hf2 : inN x n → ¬ inN w 32 → Kr (some (.long 0)) S (au2 I 20 31 2) L Rf) (hk : ∀ k t, k < n → t < 32 → x = nI k → w = nI t → ∀ I' L', eM I' (au2 I 20 31 0) → eL L' L → Kr (some (.long (pw (q k) (fun _ => 1) (nI t)))) S I' L' Rf) : aMet l E yX4_window cX4_window 3 (some .long) rmX4_window [.ref 20, .int x, .int w] (S) (I) (L) (Rf) Kr Kx := by
  refine aMet.of (lv0 := [.ref 20, .int x, .int w]) (z := 0) (by decide +kernel) hst rfl (Nat.le_of_ble_eq_true rfl) ?_
  intro p e s m args below meth c io0 hx hin hno
  have hx : aCx p l s m args meth c RX4 cX4_window 3 (some .long) E := hx
  refine g_aloadG_n hx dX4_window_0 rfl (nx := 1) rfl rfl ?_
  refine g_aloadG_n hx dX4_window_1 rfl (nx := 2) rfl rfl ?_
  refine g_iloadG_n hx dX4_window_2 rfl (nx := 3) rfl rfl ?_
  refine g_callV_M hx [_] (k' := 0) (n' := 0) dX4_window_3 (nx := 6) rfl lk_X4_119 (hM.1 0 _ rfl) (by decide) rfl rfl (Nat.le_of_ble_eq_true rfl) (Nat.le_of_ble_eq_true rfl) (Nat.le_of_ble_eq_true rfl) (Nat.le_of_ble_eq_true rfl) (Nat.le_of_ble_eq_true rfl) (Nat.le_of_ble_eq_true rfl) (Nat.le_of_ble_eq_true rfl) (s_X4_isStar (n := n) hst hM h4 (by omega) (fun k hk9 ek => ?_) (fun qs => ?_))
  · subst ek
    have hkc : (nI k).toNatClampNeg = k := nI_clamp (by omega)
    have hin6 : vp_in (nI k) 6 := vp_in_nI (by omega) (by decide)
    refine g_if_ne hx dX4_window_6 (tg := 13) (by decide) (nx := 9) rfl (fun c6 => ?_) (fun c6 => ?_)
    · refine g_iloadG_n hx dX4_window_13 rfl (nx := 14) rfl rfl ?_
      refine g_callS_M hx [_] (k' := 0) (n' := 0) dX4_window_14 (nx := 17) rfl lk_X4_170 rfl (Nat.le_of_ble_eq_true rfl) (Nat.le_of_ble_eq_true rfl) (Nat.le_of_ble_eq_true rfl) (Nat.le_of_ble_eq_true rfl) (Nat.le_of_ble_eq_true rfl) (Nat.le_of_ble_eq_true rfl) (Nat.le_of_ble_eq_true rfl) (s_X4_isLine hst (fun t ht9 et => ?_) (fun qt => ?_))
      · subst et
        refine g_if_eq hx dX4_window_17 (tg := 24) (by decide) (nx := 20) rfl (fun c17 => ?_) (fun c17 => ?_)
        · exact absurd c17 (by decide)
        · refine g_iconst hx dX4_window_20 (nx := 21) rfl (v := 0) (by decide) ?_
          refine g_goto hx dX4_window_21 (tg := 25) (by decide) ?_
          refine g_callV_M hx [_] (k' := 0) (n' := 0) dX4_window_25 (nx := 28) rfl lk_X4_114 (hM.1 0 _ rfl) (by decide) rfl rfl (Nat.le_of_ble_eq_true rfl) (Nat.le_of_ble_eq_true rfl) (Nat.le_of_ble_eq_true rfl) (Nat.le_of_ble_eq_true rfl) (Nat.le_of_ble_eq_true rfl) (Nat.le_of_ble_eq_true rfl) (Nat.le_of_ble_eq_true rfl) (s_X4_can hst hM (fun _ => ?_) (fun z => absurd rfl z))
          refine g_if_eq hx dX4_window_28 (tg := 40) (by decide) (nx := 31) rfl (fun c28 => ?_) (fun c28 => ?_)
          · exact absurd c28 (by decide)
          · have hT0 : tbM (au2 I 20 31 0) := hT.y (fun b => au2_n (by omega))
            have hl0 : okM (au2 I 20 31 0) n q V ff oo := hl.x (fun a b z => au2_n (by omega))
            refine g_aloadG_n hx dX4_window_31 rfl (nx := 32) rfl rfl ?_
            refine g_iloadG_n hx dX4_window_32 rfl (nx := 33) rfl rfl ?_
            refine g_iloadG_n hx dX4_window_33 rfl (nx := 34) rfl rfl ?_
            refine g_callV_M hx [_, _] (k' := 0) (n' := 0) dX4_window_34 (nx := 37) rfl lk_X4_176 (hM.1 0 _ rfl) (by decide) rfl rfl (Nat.le_of_ble_eq_true rfl) (Nat.le_of_ble_eq_true rfl) (Nat.le_of_ble_eq_true rfl) (Nat.le_of_ble_eq_true rfl) (Nat.le_of_ble_eq_true rfl) (Nat.le_of_ble_eq_true rfl) (Nat.le_of_ble_eq_true rfl) (s_X4_windowOf (t := t) hst hM hT0 (by omega) (hl0 k hk9).1 rfl (by omega) (fun I1 L1 e1 e2 e3 => ?_))
            refine g_goto hx dX4_window_37 (tg := 41) (by decide) ?_
            refine g_lret hx dX4_window_41 rfl (Nat.le_of_ble_eq_true rfl) (Nat.le_of_ble_eq_true rfl) ?_
            first
              | exact hf1 qs
              | exact hf2 ⟨k, hk9, rfl⟩ qt
              | exact hk k t hk9 ht9 rfl rfl I1 L1 e1 e2
      · refine g_if_eq hx dX4_window_17 (tg := 24) (by decide) (nx := 20) rfl (fun c17 => ?_) (fun c17 => ?_)
        · refine g_iconst hx dX4_window_24 (nx := 25) rfl (v := 2) (by decide) ?_
          refine g_callV_M hx [_] (k' := 0) (n' := 0) dX4_window_25 (nx := 28) rfl lk_X4_114 (hM.1 0 _ rfl) (by decide) rfl rfl (Nat.le_of_ble_eq_true rfl) (Nat.le_of_ble_eq_true rfl) (Nat.le_of_ble_eq_true rfl) (Nat.le_of_ble_eq_true rfl) (Nat.le_of_ble_eq_true rfl) (Nat.le_of_ble_eq_true rfl) (Nat.le_of_ble_eq_true rfl) (s_X4_can hst hM (fun z => absurd z (by decide)) (fun _ => ?_))
          refine g_if_eq hx dX4_window_28 (tg := 40) (by decide) (nx := 31) rfl (fun c28 => ?_) (fun c28 => ?_)
          · refine g_lconst hx dX4_window_40 (nx := 41) rfl (v := 0) (by decide) ?_
            refine g_lret hx dX4_window_41 rfl (Nat.le_of_ble_eq_true rfl) (Nat.le_of_ble_eq_true rfl) ?_
            first
              | exact hf1 qs
              | exact hf2 ⟨k, hk9, rfl⟩ qt
              | exact hk k t hk9 ht9 rfl rfl I1 L1 e1 e2
          · exact absurd c28 (by decide)
        · exact absurd c17 (by decide)
    · exact absurd c6 (by decide)
  · refine g_if_ne hx dX4_window_6 (tg := 13) (by decide) (nx := 9) rfl (fun c6 => ?_) (fun c6 => ?_)
    · exact absurd c6 (by decide)
    · refine g_iconst hx dX4_window_9 (nx := 10) rfl (v := 1) (by decide) ?_
      refine g_goto hx dX4_window_10 (tg := 25) (by decide) ?_
      refine g_callV_M hx [_] (k' := 0) (n' := 0) dX4_window_25 (nx := 28) rfl lk_X4_114 (hM.1 0 _ rfl) (by decide) rfl rfl (Nat.le_of_ble_eq_true rfl) (Nat.le_of_ble_eq_true rfl) (Nat.le_of_ble_eq_true rfl) (Nat.le_of_ble_eq_true rfl) (Nat.le_of_ble_eq_true rfl) (Nat.le_of_ble_eq_true rfl) (Nat.le_of_ble_eq_true rfl) (s_X4_can hst hM (fun z => absurd z (by decide)) (fun _ => ?_))
      refine g_if_eq hx dX4_window_28 (tg := 40) (by decide) (nx := 31) rfl (fun c28 => ?_) (fun c28 => ?_)
      · refine g_lconst hx dX4_window_40 (nx := 41) rfl (v := 0) (by decide) ?_
        refine g_lret hx dX4_window_41 rfl (Nat.le_of_ble_eq_true rfl) (Nat.le_of_ble_eq_true rfl) ?_
        first
          | exact hf1 qs
          | exact hf2 ⟨k, hk9, rfl⟩ qt
          | exact hk k t hk9 ht9 rfl rfl I1 L1 e1 e2
      · exact absurd c28 (by decide)

abbrev rmX4_peaks : Room := { frames := 4, cells := 0, slots := 0, locals := 96 }
set_option maxHeartbeats 4000000 in
set_option maxRecDepth 100000 in
theorem s_X4_peaks {l : Launch} {E : aE} {S : aS} {I : aI} {L : aL} {Rf : aR} {Kr : aK} {Kx : aX} (hst : l.stackTraces = false) {k m9 : Nat} {f w : Int32} {q : Nat → Bool} {V : Nat → Int64} {ff : Nat → Int32} (hM : lyM S Rf) (hT : tbM I) (hk6 : k < 6) (hl : lgM I k q V ff m9) (hm : m9 ≤ 6) (ho : I 35 k = nI m9) (hf : f = 0 ∨ f = 1 ∨ f = 2) (h1 : rgN w 1 30 → pkQ (I 20 14) q (tks q (flV q V f) ff m9) w → ∀ I' L', eM I' I → eL L' L → Kr (some (.int 1)) S I' L' Rf) (h0 : ¬ (rgN w 1 30 ∧ pkQ (I 20 14) q (tks q (flV q V f) ff m9) w) → ∀ I' L', eM I' I → eL L' L → Kr (some (.int 0)) S I' L' Rf) : aMet l E yX4_peaks cX4_peaks 6 (some .boolean) rmX4_peaks [.ref 20, .int (nI k), .int f, .int w] (S) (I) (L) (Rf) Kr Kx := by
  refine aMet.of (lv0 := [.ref 20, .int (nI k), .int f, .int w, aU, aU]) (z := 2) (by decide +kernel) hst rfl (Nat.le_of_ble_eq_true rfl) ?_
  intro p e s m args below meth c io0 hx hin hno
  have hx : aCx p l s m args meth c RX4 cX4_peaks 6 (some .boolean) E := hx
  refine g_iloadG_n hx dX4_peaks_0 rfl (nx := 1) rfl rfl ?_
  refine g_iconst hx dX4_peaks_1 (nx := 2) rfl (v := 1) (by decide) ?_
  refine g_bipush hx dX4_peaks_2 (nx := 4) rfl (v := 30) (by decide) ?_
  refine g_callS_M hx [_, _, _] (k' := 0) (n' := 0) dX4_peaks_4 (nx := 7) rfl lk_X4_104 rfl (Nat.le_of_ble_eq_true rfl) (Nat.le_of_ble_eq_true rfl) (Nat.le_of_ble_eq_true rfl) (Nat.le_of_ble_eq_true rfl) (Nat.le_of_ble_eq_true rfl) (Nat.le_of_ble_eq_true rfl) (Nat.le_of_ble_eq_true rfl) (s_X4_isInN hst 1 30 (by decide) (by decide) (fun q1 => ?_) (fun q1 => ?_))
  · obtain ⟨t, ht1, ht2, rfl⟩ := id q1
    refine g_if_ne hx dX4_peaks_7 (tg := 12) (by decide) (nx := 10) rfl (fun c7 => ?_) (fun c7 => ?_)
    · have hkc : (nI k).toNatClampNeg = k := nI_clamp (by omega)
      have hin6 : vp_in (nI k) 6 := vp_in_nI (by omega) (by decide)
      have e4 : nI t - 1 = nI (t - 1) := pk_sub (a := t) (b := 1) ht1
      refine g_aloadG_n hx dX4_peaks_12 rfl (nx := 13) rfl rfl ?_
      refine g_iloadG_n hx dX4_peaks_13 rfl (nx := 14) rfl rfl ?_
      refine g_iloadG_n hx dX4_peaks_14 rfl (nx := 15) rfl rfl ?_
      refine g_aloadG_n hx dX4_peaks_15 rfl (nx := 16) rfl rfl ?_
      refine g_getfo_R hx dX4_peaks_16 (nx := 19) rfl fa_X4_51 rfl (r9 := 35) (hM.2 15 rfl) (hM.1 0 _ rfl) (by decide) ?_
      refine g_iloadG_n hx dX4_peaks_19 rfl (nx := 20) rfl rfl ?_
      refine g_iaload hx dX4_peaks_20 (nx := 21) rfl (hM.1 15 _ rfl) (by decide) hin6 ?_
      rw [hkc, ho]
      refine g_callV_M hx [_, _, _] (k' := 0) (n' := 0) dX4_peaks_21 (nx := 24) rfl lk_X4_166 (hM.1 0 _ rfl) (by decide) rfl rfl (Nat.le_of_ble_eq_true rfl) (Nat.le_of_ble_eq_true rfl) (Nat.le_of_ble_eq_true rfl) (Nat.le_of_ble_eq_true rfl) (Nat.le_of_ble_eq_true rfl) (Nat.le_of_ble_eq_true rfl) (Nat.le_of_ble_eq_true rfl) (s_X4_laysAll (q := q) (V := V) (ff := ff) (mm := m9) hst hM hT hk6 hl hm hf (fun I1 L1 e1 e2 r1 => ?_))
      refine g_aloadG_n hx dX4_peaks_24 rfl (nx := 25) rfl rfl ?_
      refine g_iloadG_n hx dX4_peaks_25 rfl (nx := 26) rfl rfl ?_
      refine g_callV_M hx [_] (k' := 0) (n' := 0) dX4_peaks_26 (nx := 29) rfl lk_X4_173 (hM.1 0 _ rfl) (by decide) rfl rfl (Nat.le_of_ble_eq_true rfl) (Nat.le_of_ble_eq_true rfl) (Nat.le_of_ble_eq_true rfl) (Nat.le_of_ble_eq_true rfl) (Nat.le_of_ble_eq_true rfl) (Nat.le_of_ble_eq_true rfl) (Nat.le_of_ble_eq_true rfl) (s_X4_powerOf (j := t) hst hM (hT.x e1) r1 rfl (by omega) ?_)
      refine g_lstore_4 hx dX4_peaks_29 (nx := 31) rfl (by decide) rfl ?_
      refine g_lloadG hx dX4_peaks_31 (nx := 33) rfl rfl ?_
      refine g_aloadG_n hx dX4_peaks_33 rfl (nx := 34) rfl rfl ?_
      refine g_getfo_i hx dX4_peaks_34 (nx := 37) rfl fa_X4_47 rfl (hM.1 0 _ rfl) (by decide) ?_
      rw [e1 20 14 (by decide) (by decide)]
      refine g_i2l hx dX4_peaks_37 (nx := 38) rfl ?_
      refine g_lcmp hx dX4_peaks_38 (nx := 39) rfl ?_
      refine g_if_lt hx dX4_peaks_39 (tg := 72) (by decide) (nx := 42) rfl (fun c39 => ?_) (fun c39 => ?_)
      · refine g_iconst hx dX4_peaks_72 (nx := 73) rfl (v := 0) (by decide) ?_
        refine g_iret hx dX4_peaks_73 rfl rfl (Nat.le_of_ble_eq_true rfl) (Nat.le_of_ble_eq_true rfl) ?_
        first
          | exact h1 q1 ⟨(lg_cmp_ge _ _).mp (Int32.not_lt.mp c39), (lg_cmp_gt _ _).mp (Int32.not_le.mp c52), (lg_cmp_gt _ _).mp (Int32.not_le.mp c65)⟩ I1 L1 e1 e2
          | exact h0 (fun z => absurd ((lg_cmp_ge _ _).mpr z.2.1) (Int32.not_le.mpr c39)) I1 L1 e1 e2
          | exact h0 (fun z => absurd ((lg_cmp_gt _ _).mpr z.2.2.1) (Int32.not_lt.mpr c52)) I1 L1 e1 e2
          | exact h0 (fun z => absurd ((lg_cmp_gt _ _).mpr z.2.2.2) (Int32.not_lt.mpr c65)) I1 L1 e1 e2
      · refine g_lloadG hx dX4_peaks_42 (nx := 44) rfl rfl ?_
        refine g_aloadG_n hx dX4_peaks_44 rfl (nx := 45) rfl rfl ?_
        refine g_iloadG_n hx dX4_peaks_45 rfl (nx := 46) rfl rfl ?_
        refine g_iconst hx dX4_peaks_46 (nx := 47) rfl (v := 1) (by decide) ?_
        refine g_isub hx dX4_peaks_47 (nx := 48) rfl ?_
        refine g_callV_M hx [_] (k' := 0) (n' := 0) dX4_peaks_48 (nx := 51) rfl lk_X4_173 (hM.1 0 _ rfl) (by decide) rfl rfl (Nat.le_of_ble_eq_true rfl) (Nat.le_of_ble_eq_true rfl) (Nat.le_of_ble_eq_true rfl) (Nat.le_of_ble_eq_true rfl) (Nat.le_of_ble_eq_true rfl) (Nat.le_of_ble_eq_true rfl) (Nat.le_of_ble_eq_true rfl) (s_X4_powerOf (j := t - 1) hst hM (hT.x e1) r1 e4 (by omega) ?_)
        refine g_lcmp hx dX4_peaks_51 (nx := 52) rfl ?_
        refine g_if_le hx dX4_peaks_52 (tg := 72) (by decide) (nx := 55) rfl (fun c52 => ?_) (fun c52 => ?_)
        · refine g_iconst hx dX4_peaks_72 (nx := 73) rfl (v := 0) (by decide) ?_
          refine g_iret hx dX4_peaks_73 rfl rfl (Nat.le_of_ble_eq_true rfl) (Nat.le_of_ble_eq_true rfl) ?_
          first
            | exact h1 q1 ⟨(lg_cmp_ge _ _).mp (Int32.not_lt.mp c39), (lg_cmp_gt _ _).mp (Int32.not_le.mp c52), (lg_cmp_gt _ _).mp (Int32.not_le.mp c65)⟩ I1 L1 e1 e2
            | exact h0 (fun z => absurd ((lg_cmp_ge _ _).mpr z.2.1) (Int32.not_le.mpr c39)) I1 L1 e1 e2
            | exact h0 (fun z => absurd ((lg_cmp_gt _ _).mpr z.2.2.1) (Int32.not_lt.mpr c52)) I1 L1 e1 e2
            | exact h0 (fun z => absurd ((lg_cmp_gt _ _).mpr z.2.2.2) (Int32.not_lt.mpr c65)) I1 L1 e1 e2
        · refine g_lloadG hx dX4_peaks_55 (nx := 57) rfl rfl ?_
          refine g_aloadG_n hx dX4_peaks_57 rfl (nx := 58) rfl rfl ?_
          refine g_iloadG_n hx dX4_peaks_58 rfl (nx := 59) rfl rfl ?_
          refine g_iconst hx dX4_peaks_59 (nx := 60) rfl (v := 1) (by decide) ?_
          refine g_iadd hx dX4_peaks_60 (nx := 61) rfl ?_
          refine g_callV_M hx [_] (k' := 0) (n' := 0) dX4_peaks_61 (nx := 64) rfl lk_X4_173 (hM.1 0 _ rfl) (by decide) rfl rfl (Nat.le_of_ble_eq_true rfl) (Nat.le_of_ble_eq_true rfl) (Nat.le_of_ble_eq_true rfl) (Nat.le_of_ble_eq_true rfl) (Nat.le_of_ble_eq_true rfl) (Nat.le_of_ble_eq_true rfl) (Nat.le_of_ble_eq_true rfl) (s_X4_powerOf (j := t + 1) hst hM (hT.x e1) r1 (nI_succ t).symm (by omega) ?_)
          refine g_lcmp hx dX4_peaks_64 (nx := 65) rfl ?_
          refine g_if_le hx dX4_peaks_65 (tg := 72) (by decide) (nx := 68) rfl (fun c65 => ?_) (fun c65 => ?_)
          · refine g_iconst hx dX4_peaks_72 (nx := 73) rfl (v := 0) (by decide) ?_
            refine g_iret hx dX4_peaks_73 rfl rfl (Nat.le_of_ble_eq_true rfl) (Nat.le_of_ble_eq_true rfl) ?_
            first
              | exact h1 q1 ⟨(lg_cmp_ge _ _).mp (Int32.not_lt.mp c39), (lg_cmp_gt _ _).mp (Int32.not_le.mp c52), (lg_cmp_gt _ _).mp (Int32.not_le.mp c65)⟩ I1 L1 e1 e2
              | exact h0 (fun z => absurd ((lg_cmp_ge _ _).mpr z.2.1) (Int32.not_le.mpr c39)) I1 L1 e1 e2
              | exact h0 (fun z => absurd ((lg_cmp_gt _ _).mpr z.2.2.1) (Int32.not_lt.mpr c52)) I1 L1 e1 e2
              | exact h0 (fun z => absurd ((lg_cmp_gt _ _).mpr z.2.2.2) (Int32.not_lt.mpr c65)) I1 L1 e1 e2
          · refine g_iconst hx dX4_peaks_68 (nx := 69) rfl (v := 1) (by decide) ?_
            refine g_goto hx dX4_peaks_69 (tg := 73) (by decide) ?_
            refine g_iret hx dX4_peaks_73 rfl rfl (Nat.le_of_ble_eq_true rfl) (Nat.le_of_ble_eq_true rfl) ?_
            first
              | exact h1 q1 ⟨(lg_cmp_ge _ _).mp (Int32.not_lt.mp c39), (lg_cmp_gt _ _).mp (Int32.not_le.mp c52), (lg_cmp_gt _ _).mp (Int32.not_le.mp c65)⟩ I1 L1 e1 e2
              | exact h0 (fun z => absurd ((lg_cmp_ge _ _).mpr z.2.1) (Int32.not_le.mpr c39)) I1 L1 e1 e2
              | exact h0 (fun z => absurd ((lg_cmp_gt _ _).mpr z.2.2.1) (Int32.not_lt.mpr c52)) I1 L1 e1 e2
              | exact h0 (fun z => absurd ((lg_cmp_gt _ _).mpr z.2.2.2) (Int32.not_lt.mpr c65)) I1 L1 e1 e2
    · exact absurd c7 (by decide)
  · refine g_if_ne hx dX4_peaks_7 (tg := 12) (by decide) (nx := 10) rfl (fun c7 => ?_) (fun c7 => ?_)
    · exact absurd c7 (by decide)
    · refine g_iconst hx dX4_peaks_10 (nx := 11) rfl (v := 0) (by decide) ?_
      refine g_iret hx dX4_peaks_11 rfl rfl (Nat.le_of_ble_eq_true rfl) (Nat.le_of_ble_eq_true rfl) ?_
      exact h0 (fun z => q1 z.1) I L (eM.refl I) (eL.refl L)

abbrev rmX4_isPeak : Room := { frames := 5, cells := 0, slots := 0, locals := 121 }
set_option maxHeartbeats 4000000 in
set_option maxRecDepth 100000 in
theorem s_X4_isPeak {l : Launch} {E : aE} {S : aS} {I : aI} {L : aL} {Rf : aR} {Kr : aK} {Kx : aX} (hst : l.stackTraces = false) {n : Nat} {x y w : Int32} {q : Nat → Nat → Bool} {V : Nat → Nat → Int64} {ff : Nat → Nat → Int32} {oo : Nat → Nat} (hM : lyM S Rf) (h4 : I 20 4 = nI n) (hn6 : n ≤ 6) (hT : tbM I) (hl : okM I n q V ff oo) (hf1 : ¬ (inN x n ∧ inN y 3) → Kr (some (.int 0)) S (au2 I 20 31 1) L Rf) (h1 : ∀ k j, k < n → j < 3 → x = nI k → y = nI j → (rgN w 1 30 ∧ pkQ (I 20 14) (q k) (wtM q V ff k (nI j) (oo k)) w) → ∀ I' L', eM I' (au2 I 20 31 0) → eL L' L → Kr (some (.int 1)) S I' L' Rf) (h0 : ∀ k j, k < n → j < 3 → x = nI k → y = nI j → ¬ (rgN w 1 30 ∧ pkQ (I 20 14) (q k) (wtM q V ff k (nI j) (oo k)) w) → ∀ I' L', eM I' (au2 I 20 31 0) → eL L' L → Kr (some (.int 0)) S I' L' Rf) : aMet l E yX4_isPeak cX4_isPeak 4 (some .boolean) rmX4_isPeak [.ref 20, .int x, .int y, .int w] (S) (I) (L) (Rf) Kr Kx := by
  refine aMet.of (lv0 := [.ref 20, .int x, .int y, .int w]) (z := 0) (by decide +kernel) hst rfl (Nat.le_of_ble_eq_true rfl) ?_
  intro p e s m args below meth c io0 hx hin hno
  have hx : aCx p l s m args meth c RX4 cX4_isPeak 4 (some .boolean) E := hx
  refine g_aloadG_n hx dX4_isPeak_0 rfl (nx := 1) rfl rfl ?_
  refine g_aloadG_n hx dX4_isPeak_1 rfl (nx := 2) rfl rfl ?_
  refine g_iloadG_n hx dX4_isPeak_2 rfl (nx := 3) rfl rfl ?_
  refine g_callV_M hx [_] (k' := 0) (n' := 0) dX4_isPeak_3 (nx := 6) rfl lk_X4_119 (hM.1 0 _ rfl) (by decide) rfl rfl (Nat.le_of_ble_eq_true rfl) (Nat.le_of_ble_eq_true rfl) (Nat.le_of_ble_eq_true rfl) (Nat.le_of_ble_eq_true rfl) (Nat.le_of_ble_eq_true rfl) (Nat.le_of_ble_eq_true rfl) (Nat.le_of_ble_eq_true rfl) (s_X4_isStar (n := n) hst hM h4 (by omega) (fun k hk9 ek => ?_) (fun qs => ?_))
  · subst ek
    have hkc : (nI k).toNatClampNeg = k := nI_clamp (by omega)
    have hin6 : vp_in (nI k) 6 := vp_in_nI (by omega) (by decide)
    refine g_if_eq hx dX4_isPeak_6 (tg := 20) (by decide) (nx := 9) rfl (fun c6 => ?_) (fun c6 => ?_)
    · exact absurd c6 (by decide)
    · refine g_iloadG_n hx dX4_isPeak_9 rfl (nx := 10) rfl rfl ?_
      refine g_callS_M hx [_] (k' := 0) (n' := 0) dX4_isPeak_10 (nx := 13) rfl lk_X4_163 rfl (Nat.le_of_ble_eq_true rfl) (Nat.le_of_ble_eq_true rfl) (Nat.le_of_ble_eq_true rfl) (Nat.le_of_ble_eq_true rfl) (Nat.le_of_ble_eq_true rfl) (Nat.le_of_ble_eq_true rfl) (Nat.le_of_ble_eq_true rfl) (s_X4_isFilter hst (fun j hj9 ej => ?_) (fun qj => ?_))
      · subst ej
        refine g_if_eq hx dX4_isPeak_13 (tg := 20) (by decide) (nx := 16) rfl (fun c13 => ?_) (fun c13 => ?_)
        · exact absurd c13 (by decide)
        · refine g_iconst hx dX4_isPeak_16 (nx := 17) rfl (v := 0) (by decide) ?_
          refine g_goto hx dX4_isPeak_17 (tg := 21) (by decide) ?_
          refine g_callV_M hx [_] (k' := 0) (n' := 0) dX4_isPeak_21 (nx := 24) rfl lk_X4_114 (hM.1 0 _ rfl) (by decide) rfl rfl (Nat.le_of_ble_eq_true rfl) (Nat.le_of_ble_eq_true rfl) (Nat.le_of_ble_eq_true rfl) (Nat.le_of_ble_eq_true rfl) (Nat.le_of_ble_eq_true rfl) (Nat.le_of_ble_eq_true rfl) (Nat.le_of_ble_eq_true rfl) (s_X4_can hst hM (fun _ => ?_) (fun z => absurd rfl z))
          refine g_if_eq hx dX4_isPeak_24 (tg := 41) (by decide) (nx := 27) rfl (fun c24 => ?_) (fun c24 => ?_)
          · exact absurd c24 (by decide)
          · have hT0 : tbM (au2 I 20 31 0) := hT.y (fun b => au2_n (by omega))
            have hl0 : okM (au2 I 20 31 0) n q V ff oo := hl.x (fun a b z => au2_n (by omega))
            refine g_aloadG_n hx dX4_isPeak_27 rfl (nx := 28) rfl rfl ?_
            refine g_iloadG_n hx dX4_isPeak_28 rfl (nx := 29) rfl rfl ?_
            refine g_iloadG_n hx dX4_isPeak_29 rfl (nx := 30) rfl rfl ?_
            refine g_iloadG_n hx dX4_isPeak_30 rfl (nx := 31) rfl rfl ?_
            refine g_callV_M hx [_, _, _] (k' := 0) (n' := 0) dX4_isPeak_31 (nx := 34) rfl lk_X4_180 (hM.1 0 _ rfl) (by decide) rfl rfl (Nat.le_of_ble_eq_true rfl) (Nat.le_of_ble_eq_true rfl) (Nat.le_of_ble_eq_true rfl) (Nat.le_of_ble_eq_true rfl) (Nat.le_of_ble_eq_true rfl) (Nat.le_of_ble_eq_true rfl) (Nat.le_of_ble_eq_true rfl) (s_X4_peaks (q := q k) (V := V k) (ff := ff k) (m9 := oo k) hst hM hT0 (by omega) (hl0 k hk9).1 (hl0 k hk9).2.2 (hl0 k hk9).2.1 (f3_of hj9) (fun q1 q2 I1 L1 e1 e2 => ?_) (fun q3 I1 L1 e1 e2 => ?_))
            · rw [au2_n (by omega)] at q2
              refine g_if_eq hx dX4_isPeak_34 (tg := 41) (by decide) (nx := 37) rfl (fun c34 => ?_) (fun c34 => ?_)
              · exact absurd c34 (by decide)
              · refine g_iconst hx dX4_isPeak_37 (nx := 38) rfl (v := 1) (by decide) ?_
                refine g_goto hx dX4_isPeak_38 (tg := 42) (by decide) ?_
                refine g_iret hx dX4_isPeak_42 rfl rfl (Nat.le_of_ble_eq_true rfl) (Nat.le_of_ble_eq_true rfl) ?_
                first
                  | exact hf1 (fun z => qs z.1)
                  | exact hf1 (fun z => qj z.2)
                  | exact h1 k j hk9 hj9 rfl rfl ⟨q1, q2⟩ I1 L1 e1 e2
                  | exact h0 k j hk9 hj9 rfl rfl q3 I1 L1 e1 e2
            · rw [au2_n (by omega)] at q3
              refine g_if_eq hx dX4_isPeak_34 (tg := 41) (by decide) (nx := 37) rfl (fun c34 => ?_) (fun c34 => ?_)
              · refine g_iconst hx dX4_isPeak_41 (nx := 42) rfl (v := 0) (by decide) ?_
                refine g_iret hx dX4_isPeak_42 rfl rfl (Nat.le_of_ble_eq_true rfl) (Nat.le_of_ble_eq_true rfl) ?_
                first
                  | exact hf1 (fun z => qs z.1)
                  | exact hf1 (fun z => qj z.2)
                  | exact h1 k j hk9 hj9 rfl rfl ⟨q1, q2⟩ I1 L1 e1 e2
                  | exact h0 k j hk9 hj9 rfl rfl q3 I1 L1 e1 e2
              · exact absurd c34 (by decide)
      · refine g_if_eq hx dX4_isPeak_13 (tg := 20) (by decide) (nx := 16) rfl (fun c13 => ?_) (fun c13 => ?_)
        · refine g_iconst hx dX4_isPeak_20 (nx := 21) rfl (v := 1) (by decide) ?_
          refine g_callV_M hx [_] (k' := 0) (n' := 0) dX4_isPeak_21 (nx := 24) rfl lk_X4_114 (hM.1 0 _ rfl) (by decide) rfl rfl (Nat.le_of_ble_eq_true rfl) (Nat.le_of_ble_eq_true rfl) (Nat.le_of_ble_eq_true rfl) (Nat.le_of_ble_eq_true rfl) (Nat.le_of_ble_eq_true rfl) (Nat.le_of_ble_eq_true rfl) (Nat.le_of_ble_eq_true rfl) (s_X4_can hst hM (fun z => absurd z (by decide)) (fun _ => ?_))
          refine g_if_eq hx dX4_isPeak_24 (tg := 41) (by decide) (nx := 27) rfl (fun c24 => ?_) (fun c24 => ?_)
          · refine g_iconst hx dX4_isPeak_41 (nx := 42) rfl (v := 0) (by decide) ?_
            refine g_iret hx dX4_isPeak_42 rfl rfl (Nat.le_of_ble_eq_true rfl) (Nat.le_of_ble_eq_true rfl) ?_
            first
              | exact hf1 (fun z => qs z.1)
              | exact hf1 (fun z => qj z.2)
              | exact h1 k j hk9 hj9 rfl rfl ⟨q1, q2⟩ I1 L1 e1 e2
              | exact h0 k j hk9 hj9 rfl rfl q3 I1 L1 e1 e2
          · exact absurd c24 (by decide)
        · exact absurd c13 (by decide)
  · refine g_if_eq hx dX4_isPeak_6 (tg := 20) (by decide) (nx := 9) rfl (fun c6 => ?_) (fun c6 => ?_)
    · refine g_iconst hx dX4_isPeak_20 (nx := 21) rfl (v := 1) (by decide) ?_
      refine g_callV_M hx [_] (k' := 0) (n' := 0) dX4_isPeak_21 (nx := 24) rfl lk_X4_114 (hM.1 0 _ rfl) (by decide) rfl rfl (Nat.le_of_ble_eq_true rfl) (Nat.le_of_ble_eq_true rfl) (Nat.le_of_ble_eq_true rfl) (Nat.le_of_ble_eq_true rfl) (Nat.le_of_ble_eq_true rfl) (Nat.le_of_ble_eq_true rfl) (Nat.le_of_ble_eq_true rfl) (s_X4_can hst hM (fun z => absurd z (by decide)) (fun _ => ?_))
      refine g_if_eq hx dX4_isPeak_24 (tg := 41) (by decide) (nx := 27) rfl (fun c24 => ?_) (fun c24 => ?_)
      · refine g_iconst hx dX4_isPeak_41 (nx := 42) rfl (v := 0) (by decide) ?_
        refine g_iret hx dX4_isPeak_42 rfl rfl (Nat.le_of_ble_eq_true rfl) (Nat.le_of_ble_eq_true rfl) ?_
        first
          | exact hf1 (fun z => qs z.1)
          | exact hf1 (fun z => qj z.2)
          | exact h1 k j hk9 hj9 rfl rfl ⟨q1, q2⟩ I1 L1 e1 e2
          | exact h0 k j hk9 hj9 rfl rfl q3 I1 L1 e1 e2
      · exact absurd c24 (by decide)
    · exact absurd c6 (by decide)

abbrev rmX4_seesThrough : Room := { frames := 4, cells := 0, slots := 0, locals := 96 }
set_option maxHeartbeats 4000000 in
set_option maxRecDepth 100000 in
theorem s_X4_seesThrough {l : Launch} {E : aE} {S : aS} {I : aI} {L : aL} {Rf : aR} {Kr : aK} {Kx : aX} (hst : l.stackTraces = false) {k m9 t u : Nat} {f : Int32} {q : Nat → Bool} {V : Nat → Int64} {ff : Nat → Int32} (hM : lyM S Rf) (hT : tbM I) (hk6 : k < 6) (ht : t < 32) (hu : u < 32) (hl : lgM I k q V ff m9) (hm : m9 ≤ 6) (ho : I 35 k = nI m9) (hf : f = 0 ∨ f = 1 ∨ f = 2) (h1 : stQ q (tks q (flV q V f) ff m9) (nI t) (nI u) → ∀ I' L', eM I' I → eL L' L → Kr (some (.int 1)) S I' L' Rf) (h0 : ¬ stQ q (tks q (flV q V f) ff m9) (nI t) (nI u) → ∀ I' L', eM I' I → eL L' L → Kr (some (.int 0)) S I' L' Rf) : aMet l E yX4_seesThrough cX4_seesThrough 8 (some .boolean) rmX4_seesThrough [.ref 20, .int (nI k), .int f, .int (nI t), .int (nI u)] (S) (I) (L) (Rf) Kr Kx := by
  refine aMet.of (lv0 := [.ref 20, .int (nI k), .int f, .int (nI t), .int (nI u), aU, aU, aU]) (z := 3) (by decide +kernel) hst rfl (Nat.le_of_ble_eq_true rfl) ?_
  intro p e s m args below meth c io0 hx hin hno
  have hx : aCx p l s m args meth c RX4 cX4_seesThrough 8 (some .boolean) E := hx
  have hkc : (nI k).toNatClampNeg = k := nI_clamp (by omega)
  have hin6 : vp_in (nI k) 6 := vp_in_nI (by omega) (by decide)
  refine g_aloadG_n hx dX4_seesThrough_0 rfl (nx := 1) rfl rfl ?_
  refine g_iloadG_n hx dX4_seesThrough_1 rfl (nx := 2) rfl rfl ?_
  refine g_iloadG_n hx dX4_seesThrough_2 rfl (nx := 3) rfl rfl ?_
  refine g_aloadG_n hx dX4_seesThrough_3 rfl (nx := 4) rfl rfl ?_
  refine g_getfo_R hx dX4_seesThrough_4 (nx := 7) rfl fa_X4_51 rfl (r9 := 35) (hM.2 15 rfl) (hM.1 0 _ rfl) (by decide) ?_
  refine g_iloadG_n hx dX4_seesThrough_7 rfl (nx := 8) rfl rfl ?_
  refine g_iaload hx dX4_seesThrough_8 (nx := 9) rfl (hM.1 15 _ rfl) (by decide) hin6 ?_
  rw [hkc, ho]
  refine g_callV_M hx [_, _, _] (k' := 0) (n' := 0) dX4_seesThrough_9 (nx := 12) rfl lk_X4_166 (hM.1 0 _ rfl) (by decide) rfl rfl (Nat.le_of_ble_eq_true rfl) (Nat.le_of_ble_eq_true rfl) (Nat.le_of_ble_eq_true rfl) (Nat.le_of_ble_eq_true rfl) (Nat.le_of_ble_eq_true rfl) (Nat.le_of_ble_eq_true rfl) (Nat.le_of_ble_eq_true rfl) (s_X4_laysAll (q := q) (V := V) (ff := ff) (mm := m9) hst hM hT hk6 hl hm hf (fun I1 L1 e1 e2 r1 => ?_))
  refine g_aloadG_n hx dX4_seesThrough_12 rfl (nx := 13) rfl rfl ?_
  refine g_iloadG hx dX4_seesThrough_13 (nx := 15) rfl rfl ?_
  refine g_callV_M hx [_] (k' := 0) (n' := 0) dX4_seesThrough_15 (nx := 18) rfl lk_X4_173 (hM.1 0 _ rfl) (by decide) rfl rfl (Nat.le_of_ble_eq_true rfl) (Nat.le_of_ble_eq_true rfl) (Nat.le_of_ble_eq_true rfl) (Nat.le_of_ble_eq_true rfl) (Nat.le_of_ble_eq_true rfl) (Nat.le_of_ble_eq_true rfl) (Nat.le_of_ble_eq_true rfl) (s_X4_powerOf (j := u) hst hM (hT.x e1) r1 rfl (by omega) ?_)
  refine g_aloadG_n hx dX4_seesThrough_18 rfl (nx := 19) rfl rfl ?_
  refine g_iloadG_n hx dX4_seesThrough_19 rfl (nx := 20) rfl rfl ?_
  refine g_callV_M hx [_] (k' := 0) (n' := 0) dX4_seesThrough_20 (nx := 23) rfl lk_X4_173 (hM.1 0 _ rfl) (by decide) rfl rfl (Nat.le_of_ble_eq_true rfl) (Nat.le_of_ble_eq_true rfl) (Nat.le_of_ble_eq_true rfl) (Nat.le_of_ble_eq_true rfl) (Nat.le_of_ble_eq_true rfl) (Nat.le_of_ble_eq_true rfl) (Nat.le_of_ble_eq_true rfl) (s_X4_powerOf (j := t) hst hM (hT.x e1) r1 rfl (by omega) ?_)
  refine g_lcmp hx dX4_seesThrough_23 (nx := 24) rfl ?_
  refine g_if_le hx dX4_seesThrough_24 (tg := 31) (by decide) (nx := 27) rfl (fun c24 => ?_) (fun c24 => ?_)
  · refine g_iconst hx dX4_seesThrough_31 (nx := 32) rfl (v := 0) (by decide) ?_
    refine g_istore_5 hx dX4_seesThrough_32 (nx := 34) rfl (by decide) rfl ?_
    refine g_aloadG_n hx dX4_seesThrough_34 rfl (nx := 35) rfl rfl ?_
    refine g_iloadG_n hx dX4_seesThrough_35 rfl (nx := 36) rfl rfl ?_
    refine g_iloadG_n hx dX4_seesThrough_36 rfl (nx := 37) rfl rfl ?_
    refine g_iloadG hx dX4_seesThrough_37 (nx := 39) rfl rfl ?_
    refine g_icmp_le hx dX4_seesThrough_39 (tg := 49) (by decide) (nx := 42) rfl (fun c39 => ?_) (fun c39 => ?_)
    · refine g_iloadG hx dX4_seesThrough_49 (nx := 51) rfl rfl ?_
      refine g_iloadG_n hx dX4_seesThrough_51 rfl (nx := 52) rfl rfl ?_
      refine g_isub hx dX4_seesThrough_52 (nx := 53) rfl ?_
      have hlt : t ≤ u := (nI_leI (by omega) (by omega)).mp c39
      have efar : nI u - nI t = iabs (nI t - nI u) := iabs_sub hlt (by omega)
      have enat : nI u - nI t = nI (u - t) := pk_sub hlt
      refine g_callV_M hx [_, _] (k' := 0) (n' := 0) dX4_seesThrough_53 (nx := 56) rfl lk_X4_176 (hM.1 0 _ rfl) (by decide) rfl rfl (Nat.le_of_ble_eq_true rfl) (Nat.le_of_ble_eq_true rfl) (Nat.le_of_ble_eq_true rfl) (Nat.le_of_ble_eq_true rfl) (Nat.le_of_ble_eq_true rfl) (Nat.le_of_ble_eq_true rfl) (Nat.le_of_ble_eq_true rfl) (s_X4_windowOf (t := u - t) hst hM (hT.x e1) hk6 (hl.eM e1) enat (by omega) (fun I2 L2 e3 e4 e5 => ?_))
      refine g_lstore_6 hx dX4_seesThrough_56 (nx := 58) rfl (by decide) rfl ?_
      refine g_iloadG hx dX4_seesThrough_58 (nx := 60) rfl rfl ?_
      refine g_if_eq hx dX4_seesThrough_60 (tg := 88) (by decide) (nx := 63) rfl (fun c60 => ?_) (fun c60 => ?_)
      · refine g_iconst hx dX4_seesThrough_88 (nx := 89) rfl (v := 0) (by decide) ?_
        refine g_iret hx dX4_seesThrough_89 rfl rfl (Nat.le_of_ble_eq_true rfl) (Nat.le_of_ble_eq_true rfl) ?_
        first
          | exact h1 ⟨(lg_cmp_gt _ _).mp (Int32.not_le.mp c24), by rw [← efar]; exact (lg_cmp_ge _ _).mp (Int32.not_lt.mp c81)⟩ I2 L2 (e3.trans e1) (e4.trans e2)
          | exact h0 (fun z => absurd ((lg_cmp_ge _ _).mpr (by rw [efar]; exact z.2)) (Int32.not_le.mpr c81)) I2 L2 (e3.trans e1) (e4.trans e2)
          | exact h0 (fun z => absurd ((lg_cmp_gt _ _).mpr z.1) (Int32.not_lt.mpr c24)) I2 L2 (e3.trans e1) (e4.trans e2)
      · exact absurd c60 (by decide)
    · refine g_iloadG_n hx dX4_seesThrough_42 rfl (nx := 43) rfl rfl ?_
      refine g_iloadG hx dX4_seesThrough_43 (nx := 45) rfl rfl ?_
      refine g_isub hx dX4_seesThrough_45 (nx := 46) rfl ?_
      refine g_goto hx dX4_seesThrough_46 (tg := 53) (by decide) ?_
      have hlt : u < t := (nI_ltI (by omega) (by omega)).mp (Int32.not_le.mp c39)
      have efar : nI t - nI u = iabs (nI t - nI u) := by rw [iabs, if_pos]; rw [pk_sub (by omega)]; exact nI_pos' (by omega)
      have enat : nI t - nI u = nI (t - u) := pk_sub (by omega)
      refine g_callV_M hx [_, _] (k' := 0) (n' := 0) dX4_seesThrough_53 (nx := 56) rfl lk_X4_176 (hM.1 0 _ rfl) (by decide) rfl rfl (Nat.le_of_ble_eq_true rfl) (Nat.le_of_ble_eq_true rfl) (Nat.le_of_ble_eq_true rfl) (Nat.le_of_ble_eq_true rfl) (Nat.le_of_ble_eq_true rfl) (Nat.le_of_ble_eq_true rfl) (Nat.le_of_ble_eq_true rfl) (s_X4_windowOf (t := t - u) hst hM (hT.x e1) hk6 (hl.eM e1) enat (by omega) (fun I2 L2 e3 e4 e5 => ?_))
      refine g_lstore_6 hx dX4_seesThrough_56 (nx := 58) rfl (by decide) rfl ?_
      refine g_iloadG hx dX4_seesThrough_58 (nx := 60) rfl rfl ?_
      refine g_if_eq hx dX4_seesThrough_60 (tg := 88) (by decide) (nx := 63) rfl (fun c60 => ?_) (fun c60 => ?_)
      · refine g_iconst hx dX4_seesThrough_88 (nx := 89) rfl (v := 0) (by decide) ?_
        refine g_iret hx dX4_seesThrough_89 rfl rfl (Nat.le_of_ble_eq_true rfl) (Nat.le_of_ble_eq_true rfl) ?_
        first
          | exact h1 ⟨(lg_cmp_gt _ _).mp (Int32.not_le.mp c24), by rw [← efar]; exact (lg_cmp_ge _ _).mp (Int32.not_lt.mp c81)⟩ I2 L2 (e3.trans e1) (e4.trans e2)
          | exact h0 (fun z => absurd ((lg_cmp_ge _ _).mpr (by rw [efar]; exact z.2)) (Int32.not_le.mpr c81)) I2 L2 (e3.trans e1) (e4.trans e2)
          | exact h0 (fun z => absurd ((lg_cmp_gt _ _).mpr z.1) (Int32.not_lt.mpr c24)) I2 L2 (e3.trans e1) (e4.trans e2)
      · exact absurd c60 (by decide)
  · refine g_iconst hx dX4_seesThrough_27 (nx := 28) rfl (v := 1) (by decide) ?_
    refine g_goto hx dX4_seesThrough_28 (tg := 32) (by decide) ?_
    refine g_istore_5 hx dX4_seesThrough_32 (nx := 34) rfl (by decide) rfl ?_
    refine g_aloadG_n hx dX4_seesThrough_34 rfl (nx := 35) rfl rfl ?_
    refine g_iloadG_n hx dX4_seesThrough_35 rfl (nx := 36) rfl rfl ?_
    refine g_iloadG_n hx dX4_seesThrough_36 rfl (nx := 37) rfl rfl ?_
    refine g_iloadG hx dX4_seesThrough_37 (nx := 39) rfl rfl ?_
    refine g_icmp_le hx dX4_seesThrough_39 (tg := 49) (by decide) (nx := 42) rfl (fun c39 => ?_) (fun c39 => ?_)
    · refine g_iloadG hx dX4_seesThrough_49 (nx := 51) rfl rfl ?_
      refine g_iloadG_n hx dX4_seesThrough_51 rfl (nx := 52) rfl rfl ?_
      refine g_isub hx dX4_seesThrough_52 (nx := 53) rfl ?_
      have hlt : t ≤ u := (nI_leI (by omega) (by omega)).mp c39
      have efar : nI u - nI t = iabs (nI t - nI u) := iabs_sub hlt (by omega)
      have enat : nI u - nI t = nI (u - t) := pk_sub hlt
      refine g_callV_M hx [_, _] (k' := 0) (n' := 0) dX4_seesThrough_53 (nx := 56) rfl lk_X4_176 (hM.1 0 _ rfl) (by decide) rfl rfl (Nat.le_of_ble_eq_true rfl) (Nat.le_of_ble_eq_true rfl) (Nat.le_of_ble_eq_true rfl) (Nat.le_of_ble_eq_true rfl) (Nat.le_of_ble_eq_true rfl) (Nat.le_of_ble_eq_true rfl) (Nat.le_of_ble_eq_true rfl) (s_X4_windowOf (t := u - t) hst hM (hT.x e1) hk6 (hl.eM e1) enat (by omega) (fun I2 L2 e3 e4 e5 => ?_))
      refine g_lstore_6 hx dX4_seesThrough_56 (nx := 58) rfl (by decide) rfl ?_
      refine g_iloadG hx dX4_seesThrough_58 (nx := 60) rfl rfl ?_
      refine g_if_eq hx dX4_seesThrough_60 (tg := 88) (by decide) (nx := 63) rfl (fun c60 => ?_) (fun c60 => ?_)
      · exact absurd c60 (by decide)
      · refine g_ldc2 hx dX4_seesThrough_63 (nx := 66) rfl kl_X4_183 ?_
        refine g_lloadG hx dX4_seesThrough_66 (nx := 68) rfl rfl ?_
        refine g_lmul hx dX4_seesThrough_68 (nx := 69) rfl ?_
        refine g_aloadG_n hx dX4_seesThrough_69 rfl (nx := 70) rfl rfl ?_
        refine g_getfo_i hx dX4_seesThrough_70 (nx := 73) rfl fa_X4_143 rfl (hM.1 0 _ rfl) (by decide) ?_
        refine g_i2l hx dX4_seesThrough_73 (nx := 74) rfl ?_
        rw [e5]
        refine g_aloadG_n hx dX4_seesThrough_74 rfl (nx := 75) rfl rfl ?_
        refine g_getfo_i hx dX4_seesThrough_75 (nx := 78) rfl fa_X4_143 rfl (hM.1 0 _ rfl) (by decide) ?_
        refine g_i2l hx dX4_seesThrough_78 (nx := 79) rfl ?_
        rw [e5]
        refine g_lmul hx dX4_seesThrough_79 (nx := 80) rfl ?_
        refine g_lcmp hx dX4_seesThrough_80 (nx := 81) rfl ?_
        refine g_if_lt hx dX4_seesThrough_81 (tg := 88) (by decide) (nx := 84) rfl (fun c81 => ?_) (fun c81 => ?_)
        · refine g_iconst hx dX4_seesThrough_88 (nx := 89) rfl (v := 0) (by decide) ?_
          refine g_iret hx dX4_seesThrough_89 rfl rfl (Nat.le_of_ble_eq_true rfl) (Nat.le_of_ble_eq_true rfl) ?_
          first
            | exact h1 ⟨(lg_cmp_gt _ _).mp (Int32.not_le.mp c24), by rw [← efar]; exact (lg_cmp_ge _ _).mp (Int32.not_lt.mp c81)⟩ I2 L2 (e3.trans e1) (e4.trans e2)
            | exact h0 (fun z => absurd ((lg_cmp_ge _ _).mpr (by rw [efar]; exact z.2)) (Int32.not_le.mpr c81)) I2 L2 (e3.trans e1) (e4.trans e2)
            | exact h0 (fun z => absurd ((lg_cmp_gt _ _).mpr z.1) (Int32.not_lt.mpr c24)) I2 L2 (e3.trans e1) (e4.trans e2)
        · refine g_iconst hx dX4_seesThrough_84 (nx := 85) rfl (v := 1) (by decide) ?_
          refine g_goto hx dX4_seesThrough_85 (tg := 89) (by decide) ?_
          refine g_iret hx dX4_seesThrough_89 rfl rfl (Nat.le_of_ble_eq_true rfl) (Nat.le_of_ble_eq_true rfl) ?_
          first
            | exact h1 ⟨(lg_cmp_gt _ _).mp (Int32.not_le.mp c24), by rw [← efar]; exact (lg_cmp_ge _ _).mp (Int32.not_lt.mp c81)⟩ I2 L2 (e3.trans e1) (e4.trans e2)
            | exact h0 (fun z => absurd ((lg_cmp_ge _ _).mpr (by rw [efar]; exact z.2)) (Int32.not_le.mpr c81)) I2 L2 (e3.trans e1) (e4.trans e2)
            | exact h0 (fun z => absurd ((lg_cmp_gt _ _).mpr z.1) (Int32.not_lt.mpr c24)) I2 L2 (e3.trans e1) (e4.trans e2)
    · refine g_iloadG_n hx dX4_seesThrough_42 rfl (nx := 43) rfl rfl ?_
      refine g_iloadG hx dX4_seesThrough_43 (nx := 45) rfl rfl ?_
      refine g_isub hx dX4_seesThrough_45 (nx := 46) rfl ?_
      refine g_goto hx dX4_seesThrough_46 (tg := 53) (by decide) ?_
      have hlt : u < t := (nI_ltI (by omega) (by omega)).mp (Int32.not_le.mp c39)
      have efar : nI t - nI u = iabs (nI t - nI u) := by rw [iabs, if_pos]; rw [pk_sub (by omega)]; exact nI_pos' (by omega)
      have enat : nI t - nI u = nI (t - u) := pk_sub (by omega)
      refine g_callV_M hx [_, _] (k' := 0) (n' := 0) dX4_seesThrough_53 (nx := 56) rfl lk_X4_176 (hM.1 0 _ rfl) (by decide) rfl rfl (Nat.le_of_ble_eq_true rfl) (Nat.le_of_ble_eq_true rfl) (Nat.le_of_ble_eq_true rfl) (Nat.le_of_ble_eq_true rfl) (Nat.le_of_ble_eq_true rfl) (Nat.le_of_ble_eq_true rfl) (Nat.le_of_ble_eq_true rfl) (s_X4_windowOf (t := t - u) hst hM (hT.x e1) hk6 (hl.eM e1) enat (by omega) (fun I2 L2 e3 e4 e5 => ?_))
      refine g_lstore_6 hx dX4_seesThrough_56 (nx := 58) rfl (by decide) rfl ?_
      refine g_iloadG hx dX4_seesThrough_58 (nx := 60) rfl rfl ?_
      refine g_if_eq hx dX4_seesThrough_60 (tg := 88) (by decide) (nx := 63) rfl (fun c60 => ?_) (fun c60 => ?_)
      · exact absurd c60 (by decide)
      · refine g_ldc2 hx dX4_seesThrough_63 (nx := 66) rfl kl_X4_183 ?_
        refine g_lloadG hx dX4_seesThrough_66 (nx := 68) rfl rfl ?_
        refine g_lmul hx dX4_seesThrough_68 (nx := 69) rfl ?_
        refine g_aloadG_n hx dX4_seesThrough_69 rfl (nx := 70) rfl rfl ?_
        refine g_getfo_i hx dX4_seesThrough_70 (nx := 73) rfl fa_X4_143 rfl (hM.1 0 _ rfl) (by decide) ?_
        refine g_i2l hx dX4_seesThrough_73 (nx := 74) rfl ?_
        rw [e5]
        refine g_aloadG_n hx dX4_seesThrough_74 rfl (nx := 75) rfl rfl ?_
        refine g_getfo_i hx dX4_seesThrough_75 (nx := 78) rfl fa_X4_143 rfl (hM.1 0 _ rfl) (by decide) ?_
        refine g_i2l hx dX4_seesThrough_78 (nx := 79) rfl ?_
        rw [e5]
        refine g_lmul hx dX4_seesThrough_79 (nx := 80) rfl ?_
        refine g_lcmp hx dX4_seesThrough_80 (nx := 81) rfl ?_
        refine g_if_lt hx dX4_seesThrough_81 (tg := 88) (by decide) (nx := 84) rfl (fun c81 => ?_) (fun c81 => ?_)
        · refine g_iconst hx dX4_seesThrough_88 (nx := 89) rfl (v := 0) (by decide) ?_
          refine g_iret hx dX4_seesThrough_89 rfl rfl (Nat.le_of_ble_eq_true rfl) (Nat.le_of_ble_eq_true rfl) ?_
          first
            | exact h1 ⟨(lg_cmp_gt _ _).mp (Int32.not_le.mp c24), by rw [← efar]; exact (lg_cmp_ge _ _).mp (Int32.not_lt.mp c81)⟩ I2 L2 (e3.trans e1) (e4.trans e2)
            | exact h0 (fun z => absurd ((lg_cmp_ge _ _).mpr (by rw [efar]; exact z.2)) (Int32.not_le.mpr c81)) I2 L2 (e3.trans e1) (e4.trans e2)
            | exact h0 (fun z => absurd ((lg_cmp_gt _ _).mpr z.1) (Int32.not_lt.mpr c24)) I2 L2 (e3.trans e1) (e4.trans e2)
        · refine g_iconst hx dX4_seesThrough_84 (nx := 85) rfl (v := 1) (by decide) ?_
          refine g_goto hx dX4_seesThrough_85 (tg := 89) (by decide) ?_
          refine g_iret hx dX4_seesThrough_89 rfl rfl (Nat.le_of_ble_eq_true rfl) (Nat.le_of_ble_eq_true rfl) ?_
          first
            | exact h1 ⟨(lg_cmp_gt _ _).mp (Int32.not_le.mp c24), by rw [← efar]; exact (lg_cmp_ge _ _).mp (Int32.not_lt.mp c81)⟩ I2 L2 (e3.trans e1) (e4.trans e2)
            | exact h0 (fun z => absurd ((lg_cmp_ge _ _).mpr (by rw [efar]; exact z.2)) (Int32.not_le.mpr c81)) I2 L2 (e3.trans e1) (e4.trans e2)
            | exact h0 (fun z => absurd ((lg_cmp_gt _ _).mpr z.1) (Int32.not_lt.mpr c24)) I2 L2 (e3.trans e1) (e4.trans e2)

abbrev rmX4_isSeenThrough : Room := { frames := 5, cells := 0, slots := 0, locals := 123 }
set_option maxHeartbeats 4000000 in
set_option maxRecDepth 100000 in
theorem s_X4_isSeenThrough {l : Launch} {E : aE} {S : aS} {I : aI} {L : aL} {Rf : aR} {Kr : aK} {Kx : aX} (hst : l.stackTraces = false) {n : Nat} {x y w v : Int32} {q : Nat → Nat → Bool} {V : Nat → Nat → Int64} {ff : Nat → Nat → Int32} {oo : Nat → Nat} (hM : lyM S Rf) (h4 : I 20 4 = nI n) (hn6 : n ≤ 6) (hT : tbM I) (hl : okM I n q V ff oo) (hf1 : ¬ (inN x n ∧ inN y 3) → Kr (some (.int 0)) S (au2 I 20 31 1) L Rf) (hf2 : (inN x n ∧ inN y 3) → ¬ (inN w 32 ∧ inN v 32 ∧ w ≠ v) → Kr (some (.int 0)) S (au2 I 20 31 2) L Rf) (h1 : ∀ k j t u, k < n → j < 3 → t < 32 → u < 32 → x = nI k → y = nI j → w = nI t → v = nI u → t ≠ u → stQ (q k) (wtM q V ff k (nI j) (oo k)) (nI t) (nI u) → ∀ I' L', eM I' (au2 I 20 31 0) → eL L' L → Kr (some (.int 1)) S I' L' Rf) (h0 : ∀ k j t u, k < n → j < 3 → t < 32 → u < 32 → x = nI k → y = nI j → w = nI t → v = nI u → t ≠ u → ¬ stQ (q k) (wtM q V ff k (nI j) (oo k)) (nI t) (nI u) → ∀ I' L', eM I' (au2 I 20 31 0) → eL L' L → Kr (some (.int 0)) S I' L' Rf) : aMet l E yX4_isSeenThrough cX4_isSeenThrough 7 (some .boolean) rmX4_isSeenThrough [.ref 20, .int x, .int y, .int w, .int v] (S) (I) (L) (Rf) Kr Kx := by
  refine aMet.of (lv0 := [.ref 20, .int x, .int y, .int w, .int v, aU, aU]) (z := 2) (by decide +kernel) hst rfl (Nat.le_of_ble_eq_true rfl) ?_
  intro p e s m args below meth c io0 hx hin hno
  have hx : aCx p l s m args meth c RX4 cX4_isSeenThrough 7 (some .boolean) E := hx
  refine g_aloadG_n hx dX4_isSeenThrough_0 rfl (nx := 1) rfl rfl ?_
  refine g_iloadG_n hx dX4_isSeenThrough_1 rfl (nx := 2) rfl rfl ?_
  refine g_callV_M hx [_] (k' := 0) (n' := 0) dX4_isSeenThrough_2 (nx := 5) rfl lk_X4_119 (hM.1 0 _ rfl) (by decide) rfl rfl (Nat.le_of_ble_eq_true rfl) (Nat.le_of_ble_eq_true rfl) (Nat.le_of_ble_eq_true rfl) (Nat.le_of_ble_eq_true rfl) (Nat.le_of_ble_eq_true rfl) (Nat.le_of_ble_eq_true rfl) (Nat.le_of_ble_eq_true rfl) (s_X4_isStar (n := n) hst hM h4 (by omega) (fun k hk9 ek => ?_) (fun qs => ?_))
  · subst ek
    have hkc : (nI k).toNatClampNeg = k := nI_clamp (by omega)
    have hin6 : vp_in (nI k) 6 := vp_in_nI (by omega) (by decide)
    refine g_if_eq hx dX4_isSeenThrough_5 (tg := 19) (by decide) (nx := 8) rfl (fun c5 => ?_) (fun c5 => ?_)
    · exact absurd c5 (by decide)
    · refine g_iloadG_n hx dX4_isSeenThrough_8 rfl (nx := 9) rfl rfl ?_
      refine g_callS_M hx [_] (k' := 0) (n' := 0) dX4_isSeenThrough_9 (nx := 12) rfl lk_X4_163 rfl (Nat.le_of_ble_eq_true rfl) (Nat.le_of_ble_eq_true rfl) (Nat.le_of_ble_eq_true rfl) (Nat.le_of_ble_eq_true rfl) (Nat.le_of_ble_eq_true rfl) (Nat.le_of_ble_eq_true rfl) (Nat.le_of_ble_eq_true rfl) (s_X4_isFilter hst (fun j hj9 ej => ?_) (fun qj => ?_))
      · subst ej
        refine g_if_eq hx dX4_isSeenThrough_12 (tg := 19) (by decide) (nx := 15) rfl (fun c12 => ?_) (fun c12 => ?_)
        · exact absurd c12 (by decide)
        · refine g_iconst hx dX4_isSeenThrough_15 (nx := 16) rfl (v := 1) (by decide) ?_
          refine g_goto hx dX4_isSeenThrough_16 (tg := 20) (by decide) ?_
          refine g_istore_5 hx dX4_isSeenThrough_20 (nx := 22) rfl (by decide) rfl ?_
          refine g_iloadG_n hx dX4_isSeenThrough_22 rfl (nx := 23) rfl rfl ?_
          refine g_callS_M hx [_] (k' := 0) (n' := 0) dX4_isSeenThrough_23 (nx := 26) rfl lk_X4_170 rfl (Nat.le_of_ble_eq_true rfl) (Nat.le_of_ble_eq_true rfl) (Nat.le_of_ble_eq_true rfl) (Nat.le_of_ble_eq_true rfl) (Nat.le_of_ble_eq_true rfl) (Nat.le_of_ble_eq_true rfl) (Nat.le_of_ble_eq_true rfl) (s_X4_isLine hst (fun t ht9 et => ?_) (fun qt => ?_))
          · subst et
            refine g_if_eq hx dX4_isSeenThrough_26 (tg := 47) (by decide) (nx := 29) rfl (fun c26 => ?_) (fun c26 => ?_)
            · exact absurd c26 (by decide)
            · refine g_iloadG hx dX4_isSeenThrough_29 (nx := 31) rfl rfl ?_
              refine g_callS_M hx [_] (k' := 0) (n' := 0) dX4_isSeenThrough_31 (nx := 34) rfl lk_X4_170 rfl (Nat.le_of_ble_eq_true rfl) (Nat.le_of_ble_eq_true rfl) (Nat.le_of_ble_eq_true rfl) (Nat.le_of_ble_eq_true rfl) (Nat.le_of_ble_eq_true rfl) (Nat.le_of_ble_eq_true rfl) (Nat.le_of_ble_eq_true rfl) (s_X4_isLine hst (fun u hu9 eu => ?_) (fun qu => ?_))
              · subst eu
                refine g_if_eq hx dX4_isSeenThrough_34 (tg := 47) (by decide) (nx := 37) rfl (fun c34 => ?_) (fun c34 => ?_)
                · exact absurd c34 (by decide)
                · refine g_iloadG_n hx dX4_isSeenThrough_37 rfl (nx := 38) rfl rfl ?_
                  refine g_iloadG hx dX4_isSeenThrough_38 (nx := 40) rfl rfl ?_
                  refine g_icmp_eq hx dX4_isSeenThrough_40 (tg := 47) (by decide) (nx := 43) rfl (fun c40 => ?_) (fun c40 => ?_)
                  · refine g_iconst hx dX4_isSeenThrough_47 (nx := 48) rfl (v := 0) (by decide) ?_
                    refine g_istore_6 hx dX4_isSeenThrough_48 (nx := 50) rfl (by decide) rfl ?_
                    refine g_aloadG_n hx dX4_isSeenThrough_50 rfl (nx := 51) rfl rfl ?_
                    refine g_iloadG hx dX4_isSeenThrough_51 (nx := 53) rfl rfl ?_
                    refine g_if_ne hx dX4_isSeenThrough_53 (tg := 60) (by decide) (nx := 56) rfl (fun c53 => ?_) (fun c53 => ?_)
                    · refine g_iloadG hx dX4_isSeenThrough_60 (nx := 62) rfl rfl ?_
                      refine g_if_eq hx dX4_isSeenThrough_62 (tg := 69) (by decide) (nx := 65) rfl (fun c62 => ?_) (fun c62 => ?_)
                      · refine g_iconst hx dX4_isSeenThrough_69 (nx := 70) rfl (v := 2) (by decide) ?_
                        refine g_callV_M hx [_] (k' := 0) (n' := 0) dX4_isSeenThrough_70 (nx := 73) rfl lk_X4_114 (hM.1 0 _ rfl) (by decide) rfl rfl (Nat.le_of_ble_eq_true rfl) (Nat.le_of_ble_eq_true rfl) (Nat.le_of_ble_eq_true rfl) (Nat.le_of_ble_eq_true rfl) (Nat.le_of_ble_eq_true rfl) (Nat.le_of_ble_eq_true rfl) (Nat.le_of_ble_eq_true rfl) (s_X4_can hst hM (fun z => absurd z (by decide)) (fun _ => ?_))
                        refine g_if_eq hx dX4_isSeenThrough_73 (tg := 92) (by decide) (nx := 76) rfl (fun c73 => ?_) (fun c73 => ?_)
                        · refine g_iconst hx dX4_isSeenThrough_92 (nx := 93) rfl (v := 0) (by decide) ?_
                          refine g_iret hx dX4_isSeenThrough_93 rfl rfl (Nat.le_of_ble_eq_true rfl) (Nat.le_of_ble_eq_true rfl) ?_
                          first
                            | exact hf1 (fun z => qs z.1)
                            | exact hf1 (fun z => qj z.2)
                            | exact hf2 ⟨⟨k, hk9, rfl⟩, ⟨j, hj9, rfl⟩⟩ (fun z => qt z.1)
                            | exact hf2 ⟨⟨k, hk9, rfl⟩, ⟨j, hj9, rfl⟩⟩ (fun z => qu z.2.1)
                            | exact hf2 ⟨⟨k, hk9, rfl⟩, ⟨j, hj9, rfl⟩⟩ (fun z => z.2.2 c40)
                            | exact h1 k j t u hk9 hj9 ht9 hu9 rfl rfl rfl rfl htu q2 I1 L1 e1 e2
                            | exact h0 k j t u hk9 hj9 ht9 hu9 rfl rfl rfl rfl htu q3 I1 L1 e1 e2
                        · exact absurd c73 (by decide)
                      · exact absurd c62 (by decide)
                    · exact absurd c53 (by decide)
                  · refine g_iconst hx dX4_isSeenThrough_43 (nx := 44) rfl (v := 1) (by decide) ?_
                    refine g_goto hx dX4_isSeenThrough_44 (tg := 48) (by decide) ?_
                    refine g_istore_6 hx dX4_isSeenThrough_48 (nx := 50) rfl (by decide) rfl ?_
                    refine g_aloadG_n hx dX4_isSeenThrough_50 rfl (nx := 51) rfl rfl ?_
                    refine g_iloadG hx dX4_isSeenThrough_51 (nx := 53) rfl rfl ?_
                    refine g_if_ne hx dX4_isSeenThrough_53 (tg := 60) (by decide) (nx := 56) rfl (fun c53 => ?_) (fun c53 => ?_)
                    · refine g_iloadG hx dX4_isSeenThrough_60 (nx := 62) rfl rfl ?_
                      refine g_if_eq hx dX4_isSeenThrough_62 (tg := 69) (by decide) (nx := 65) rfl (fun c62 => ?_) (fun c62 => ?_)
                      · exact absurd c62 (by decide)
                      · refine g_iconst hx dX4_isSeenThrough_65 (nx := 66) rfl (v := 0) (by decide) ?_
                        refine g_goto hx dX4_isSeenThrough_66 (tg := 70) (by decide) ?_
                        refine g_callV_M hx [_] (k' := 0) (n' := 0) dX4_isSeenThrough_70 (nx := 73) rfl lk_X4_114 (hM.1 0 _ rfl) (by decide) rfl rfl (Nat.le_of_ble_eq_true rfl) (Nat.le_of_ble_eq_true rfl) (Nat.le_of_ble_eq_true rfl) (Nat.le_of_ble_eq_true rfl) (Nat.le_of_ble_eq_true rfl) (Nat.le_of_ble_eq_true rfl) (Nat.le_of_ble_eq_true rfl) (s_X4_can hst hM (fun _ => ?_) (fun z => absurd rfl z))
                        refine g_if_eq hx dX4_isSeenThrough_73 (tg := 92) (by decide) (nx := 76) rfl (fun c73 => ?_) (fun c73 => ?_)
                        · exact absurd c73 (by decide)
                        · have hT0 : tbM (au2 I 20 31 0) := hT.y (fun b => au2_n (by omega))
                          have hl0 : okM (au2 I 20 31 0) n q V ff oo := hl.x (fun a b z => au2_n (by omega))
                          have htu : t ≠ u := fun z => c40 (by rw [z])
                          refine g_aloadG_n hx dX4_isSeenThrough_76 rfl (nx := 77) rfl rfl ?_
                          refine g_iloadG_n hx dX4_isSeenThrough_77 rfl (nx := 78) rfl rfl ?_
                          refine g_iloadG_n hx dX4_isSeenThrough_78 rfl (nx := 79) rfl rfl ?_
                          refine g_iloadG_n hx dX4_isSeenThrough_79 rfl (nx := 80) rfl rfl ?_
                          refine g_iloadG hx dX4_isSeenThrough_80 (nx := 82) rfl rfl ?_
                          refine g_callV_M hx [_, _, _, _] (k' := 0) (n' := 0) dX4_isSeenThrough_82 (nx := 85) rfl lk_X4_185 (hM.1 0 _ rfl) (by decide) rfl rfl (Nat.le_of_ble_eq_true rfl) (Nat.le_of_ble_eq_true rfl) (Nat.le_of_ble_eq_true rfl) (Nat.le_of_ble_eq_true rfl) (Nat.le_of_ble_eq_true rfl) (Nat.le_of_ble_eq_true rfl) (Nat.le_of_ble_eq_true rfl) (s_X4_seesThrough (q := q k) (V := V k) (ff := ff k) (m9 := oo k) hst hM hT0 (by omega) (by omega) (by omega) (hl0 k hk9).1 (hl0 k hk9).2.2 (hl0 k hk9).2.1 (f3_of hj9) (fun q2 I1 L1 e1 e2 => ?_) (fun q3 I1 L1 e1 e2 => ?_))
                          · refine g_if_eq hx dX4_isSeenThrough_85 (tg := 92) (by decide) (nx := 88) rfl (fun c85 => ?_) (fun c85 => ?_)
                            · exact absurd c85 (by decide)
                            · refine g_iconst hx dX4_isSeenThrough_88 (nx := 89) rfl (v := 1) (by decide) ?_
                              refine g_goto hx dX4_isSeenThrough_89 (tg := 93) (by decide) ?_
                              refine g_iret hx dX4_isSeenThrough_93 rfl rfl (Nat.le_of_ble_eq_true rfl) (Nat.le_of_ble_eq_true rfl) ?_
                              first
                                | exact hf1 (fun z => qs z.1)
                                | exact hf1 (fun z => qj z.2)
                                | exact hf2 ⟨⟨k, hk9, rfl⟩, ⟨j, hj9, rfl⟩⟩ (fun z => qt z.1)
                                | exact hf2 ⟨⟨k, hk9, rfl⟩, ⟨j, hj9, rfl⟩⟩ (fun z => qu z.2.1)
                                | exact hf2 ⟨⟨k, hk9, rfl⟩, ⟨j, hj9, rfl⟩⟩ (fun z => z.2.2 c40)
                                | exact h1 k j t u hk9 hj9 ht9 hu9 rfl rfl rfl rfl htu q2 I1 L1 e1 e2
                                | exact h0 k j t u hk9 hj9 ht9 hu9 rfl rfl rfl rfl htu q3 I1 L1 e1 e2
                          · refine g_if_eq hx dX4_isSeenThrough_85 (tg := 92) (by decide) (nx := 88) rfl (fun c85 => ?_) (fun c85 => ?_)
                            · refine g_iconst hx dX4_isSeenThrough_92 (nx := 93) rfl (v := 0) (by decide) ?_
                              refine g_iret hx dX4_isSeenThrough_93 rfl rfl (Nat.le_of_ble_eq_true rfl) (Nat.le_of_ble_eq_true rfl) ?_
                              first
                                | exact hf1 (fun z => qs z.1)
                                | exact hf1 (fun z => qj z.2)
                                | exact hf2 ⟨⟨k, hk9, rfl⟩, ⟨j, hj9, rfl⟩⟩ (fun z => qt z.1)
                                | exact hf2 ⟨⟨k, hk9, rfl⟩, ⟨j, hj9, rfl⟩⟩ (fun z => qu z.2.1)
                                | exact hf2 ⟨⟨k, hk9, rfl⟩, ⟨j, hj9, rfl⟩⟩ (fun z => z.2.2 c40)
                                | exact h1 k j t u hk9 hj9 ht9 hu9 rfl rfl rfl rfl htu q2 I1 L1 e1 e2
                                | exact h0 k j t u hk9 hj9 ht9 hu9 rfl rfl rfl rfl htu q3 I1 L1 e1 e2
                            · exact absurd c85 (by decide)
                    · exact absurd c53 (by decide)
              · refine g_if_eq hx dX4_isSeenThrough_34 (tg := 47) (by decide) (nx := 37) rfl (fun c34 => ?_) (fun c34 => ?_)
                · refine g_iconst hx dX4_isSeenThrough_47 (nx := 48) rfl (v := 0) (by decide) ?_
                  refine g_istore_6 hx dX4_isSeenThrough_48 (nx := 50) rfl (by decide) rfl ?_
                  refine g_aloadG_n hx dX4_isSeenThrough_50 rfl (nx := 51) rfl rfl ?_
                  refine g_iloadG hx dX4_isSeenThrough_51 (nx := 53) rfl rfl ?_
                  refine g_if_ne hx dX4_isSeenThrough_53 (tg := 60) (by decide) (nx := 56) rfl (fun c53 => ?_) (fun c53 => ?_)
                  · refine g_iloadG hx dX4_isSeenThrough_60 (nx := 62) rfl rfl ?_
                    refine g_if_eq hx dX4_isSeenThrough_62 (tg := 69) (by decide) (nx := 65) rfl (fun c62 => ?_) (fun c62 => ?_)
                    · refine g_iconst hx dX4_isSeenThrough_69 (nx := 70) rfl (v := 2) (by decide) ?_
                      refine g_callV_M hx [_] (k' := 0) (n' := 0) dX4_isSeenThrough_70 (nx := 73) rfl lk_X4_114 (hM.1 0 _ rfl) (by decide) rfl rfl (Nat.le_of_ble_eq_true rfl) (Nat.le_of_ble_eq_true rfl) (Nat.le_of_ble_eq_true rfl) (Nat.le_of_ble_eq_true rfl) (Nat.le_of_ble_eq_true rfl) (Nat.le_of_ble_eq_true rfl) (Nat.le_of_ble_eq_true rfl) (s_X4_can hst hM (fun z => absurd z (by decide)) (fun _ => ?_))
                      refine g_if_eq hx dX4_isSeenThrough_73 (tg := 92) (by decide) (nx := 76) rfl (fun c73 => ?_) (fun c73 => ?_)
                      · refine g_iconst hx dX4_isSeenThrough_92 (nx := 93) rfl (v := 0) (by decide) ?_
                        refine g_iret hx dX4_isSeenThrough_93 rfl rfl (Nat.le_of_ble_eq_true rfl) (Nat.le_of_ble_eq_true rfl) ?_
                        first
                          | exact hf1 (fun z => qs z.1)
                          | exact hf1 (fun z => qj z.2)
                          | exact hf2 ⟨⟨k, hk9, rfl⟩, ⟨j, hj9, rfl⟩⟩ (fun z => qt z.1)
                          | exact hf2 ⟨⟨k, hk9, rfl⟩, ⟨j, hj9, rfl⟩⟩ (fun z => qu z.2.1)
                          | exact hf2 ⟨⟨k, hk9, rfl⟩, ⟨j, hj9, rfl⟩⟩ (fun z => z.2.2 c40)
                          | exact h1 k j t u hk9 hj9 ht9 hu9 rfl rfl rfl rfl htu q2 I1 L1 e1 e2
                          | exact h0 k j t u hk9 hj9 ht9 hu9 rfl rfl rfl rfl htu q3 I1 L1 e1 e2
                      · exact absurd c73 (by decide)
                    · exact absurd c62 (by decide)
                  · exact absurd c53 (by decide)
                · exact absurd c34 (by decide)
          · refine g_if_eq hx dX4_isSeenThrough_26 (tg := 47) (by decide) (nx := 29) rfl (fun c26 => ?_) (fun c26 => ?_)
            · refine g_iconst hx dX4_isSeenThrough_47 (nx := 48) rfl (v := 0) (by decide) ?_
              refine g_istore_6 hx dX4_isSeenThrough_48 (nx := 50) rfl (by decide) rfl ?_
              refine g_aloadG_n hx dX4_isSeenThrough_50 rfl (nx := 51) rfl rfl ?_
              refine g_iloadG hx dX4_isSeenThrough_51 (nx := 53) rfl rfl ?_
              refine g_if_ne hx dX4_isSeenThrough_53 (tg := 60) (by decide) (nx := 56) rfl (fun c53 => ?_) (fun c53 => ?_)
              · refine g_iloadG hx dX4_isSeenThrough_60 (nx := 62) rfl rfl ?_
                refine g_if_eq hx dX4_isSeenThrough_62 (tg := 69) (by decide) (nx := 65) rfl (fun c62 => ?_) (fun c62 => ?_)
                · refine g_iconst hx dX4_isSeenThrough_69 (nx := 70) rfl (v := 2) (by decide) ?_
                  refine g_callV_M hx [_] (k' := 0) (n' := 0) dX4_isSeenThrough_70 (nx := 73) rfl lk_X4_114 (hM.1 0 _ rfl) (by decide) rfl rfl (Nat.le_of_ble_eq_true rfl) (Nat.le_of_ble_eq_true rfl) (Nat.le_of_ble_eq_true rfl) (Nat.le_of_ble_eq_true rfl) (Nat.le_of_ble_eq_true rfl) (Nat.le_of_ble_eq_true rfl) (Nat.le_of_ble_eq_true rfl) (s_X4_can hst hM (fun z => absurd z (by decide)) (fun _ => ?_))
                  refine g_if_eq hx dX4_isSeenThrough_73 (tg := 92) (by decide) (nx := 76) rfl (fun c73 => ?_) (fun c73 => ?_)
                  · refine g_iconst hx dX4_isSeenThrough_92 (nx := 93) rfl (v := 0) (by decide) ?_
                    refine g_iret hx dX4_isSeenThrough_93 rfl rfl (Nat.le_of_ble_eq_true rfl) (Nat.le_of_ble_eq_true rfl) ?_
                    first
                      | exact hf1 (fun z => qs z.1)
                      | exact hf1 (fun z => qj z.2)
                      | exact hf2 ⟨⟨k, hk9, rfl⟩, ⟨j, hj9, rfl⟩⟩ (fun z => qt z.1)
                      | exact hf2 ⟨⟨k, hk9, rfl⟩, ⟨j, hj9, rfl⟩⟩ (fun z => qu z.2.1)
                      | exact hf2 ⟨⟨k, hk9, rfl⟩, ⟨j, hj9, rfl⟩⟩ (fun z => z.2.2 c40)
                      | exact h1 k j t u hk9 hj9 ht9 hu9 rfl rfl rfl rfl htu q2 I1 L1 e1 e2
                      | exact h0 k j t u hk9 hj9 ht9 hu9 rfl rfl rfl rfl htu q3 I1 L1 e1 e2
                  · exact absurd c73 (by decide)
                · exact absurd c62 (by decide)
              · exact absurd c53 (by decide)
            · exact absurd c26 (by decide)
      · refine g_if_eq hx dX4_isSeenThrough_12 (tg := 19) (by decide) (nx := 15) rfl (fun c12 => ?_) (fun c12 => ?_)
        · refine g_iconst hx dX4_isSeenThrough_19 (nx := 20) rfl (v := 0) (by decide) ?_
          refine g_istore_5 hx dX4_isSeenThrough_20 (nx := 22) rfl (by decide) rfl ?_
          refine g_iloadG_n hx dX4_isSeenThrough_22 rfl (nx := 23) rfl rfl ?_
          refine g_callS_M hx [_] (k' := 0) (n' := 0) dX4_isSeenThrough_23 (nx := 26) rfl lk_X4_170 rfl (Nat.le_of_ble_eq_true rfl) (Nat.le_of_ble_eq_true rfl) (Nat.le_of_ble_eq_true rfl) (Nat.le_of_ble_eq_true rfl) (Nat.le_of_ble_eq_true rfl) (Nat.le_of_ble_eq_true rfl) (Nat.le_of_ble_eq_true rfl) (s_X4_isLine hst (fun t ht9 et => ?_) (fun qt => ?_))
          · subst et
            refine g_if_eq hx dX4_isSeenThrough_26 (tg := 47) (by decide) (nx := 29) rfl (fun c26 => ?_) (fun c26 => ?_)
            · exact absurd c26 (by decide)
            · refine g_iloadG hx dX4_isSeenThrough_29 (nx := 31) rfl rfl ?_
              refine g_callS_M hx [_] (k' := 0) (n' := 0) dX4_isSeenThrough_31 (nx := 34) rfl lk_X4_170 rfl (Nat.le_of_ble_eq_true rfl) (Nat.le_of_ble_eq_true rfl) (Nat.le_of_ble_eq_true rfl) (Nat.le_of_ble_eq_true rfl) (Nat.le_of_ble_eq_true rfl) (Nat.le_of_ble_eq_true rfl) (Nat.le_of_ble_eq_true rfl) (s_X4_isLine hst (fun u hu9 eu => ?_) (fun qu => ?_))
              · subst eu
                refine g_if_eq hx dX4_isSeenThrough_34 (tg := 47) (by decide) (nx := 37) rfl (fun c34 => ?_) (fun c34 => ?_)
                · exact absurd c34 (by decide)
                · refine g_iloadG_n hx dX4_isSeenThrough_37 rfl (nx := 38) rfl rfl ?_
                  refine g_iloadG hx dX4_isSeenThrough_38 (nx := 40) rfl rfl ?_
                  refine g_icmp_eq hx dX4_isSeenThrough_40 (tg := 47) (by decide) (nx := 43) rfl (fun c40 => ?_) (fun c40 => ?_)
                  · refine g_iconst hx dX4_isSeenThrough_47 (nx := 48) rfl (v := 0) (by decide) ?_
                    refine g_istore_6 hx dX4_isSeenThrough_48 (nx := 50) rfl (by decide) rfl ?_
                    refine g_aloadG_n hx dX4_isSeenThrough_50 rfl (nx := 51) rfl rfl ?_
                    refine g_iloadG hx dX4_isSeenThrough_51 (nx := 53) rfl rfl ?_
                    refine g_if_ne hx dX4_isSeenThrough_53 (tg := 60) (by decide) (nx := 56) rfl (fun c53 => ?_) (fun c53 => ?_)
                    · exact absurd c53 (by decide)
                    · refine g_iconst hx dX4_isSeenThrough_56 (nx := 57) rfl (v := 1) (by decide) ?_
                      refine g_goto hx dX4_isSeenThrough_57 (tg := 70) (by decide) ?_
                      refine g_callV_M hx [_] (k' := 0) (n' := 0) dX4_isSeenThrough_70 (nx := 73) rfl lk_X4_114 (hM.1 0 _ rfl) (by decide) rfl rfl (Nat.le_of_ble_eq_true rfl) (Nat.le_of_ble_eq_true rfl) (Nat.le_of_ble_eq_true rfl) (Nat.le_of_ble_eq_true rfl) (Nat.le_of_ble_eq_true rfl) (Nat.le_of_ble_eq_true rfl) (Nat.le_of_ble_eq_true rfl) (s_X4_can hst hM (fun z => absurd z (by decide)) (fun _ => ?_))
                      refine g_if_eq hx dX4_isSeenThrough_73 (tg := 92) (by decide) (nx := 76) rfl (fun c73 => ?_) (fun c73 => ?_)
                      · refine g_iconst hx dX4_isSeenThrough_92 (nx := 93) rfl (v := 0) (by decide) ?_
                        refine g_iret hx dX4_isSeenThrough_93 rfl rfl (Nat.le_of_ble_eq_true rfl) (Nat.le_of_ble_eq_true rfl) ?_
                        first
                          | exact hf1 (fun z => qs z.1)
                          | exact hf1 (fun z => qj z.2)
                          | exact hf2 ⟨⟨k, hk9, rfl⟩, ⟨j, hj9, rfl⟩⟩ (fun z => qt z.1)
                          | exact hf2 ⟨⟨k, hk9, rfl⟩, ⟨j, hj9, rfl⟩⟩ (fun z => qu z.2.1)
                          | exact hf2 ⟨⟨k, hk9, rfl⟩, ⟨j, hj9, rfl⟩⟩ (fun z => z.2.2 c40)
                          | exact h1 k j t u hk9 hj9 ht9 hu9 rfl rfl rfl rfl htu q2 I1 L1 e1 e2
                          | exact h0 k j t u hk9 hj9 ht9 hu9 rfl rfl rfl rfl htu q3 I1 L1 e1 e2
                      · exact absurd c73 (by decide)
                  · refine g_iconst hx dX4_isSeenThrough_43 (nx := 44) rfl (v := 1) (by decide) ?_
                    refine g_goto hx dX4_isSeenThrough_44 (tg := 48) (by decide) ?_
                    refine g_istore_6 hx dX4_isSeenThrough_48 (nx := 50) rfl (by decide) rfl ?_
                    refine g_aloadG_n hx dX4_isSeenThrough_50 rfl (nx := 51) rfl rfl ?_
                    refine g_iloadG hx dX4_isSeenThrough_51 (nx := 53) rfl rfl ?_
                    refine g_if_ne hx dX4_isSeenThrough_53 (tg := 60) (by decide) (nx := 56) rfl (fun c53 => ?_) (fun c53 => ?_)
                    · exact absurd c53 (by decide)
                    · refine g_iconst hx dX4_isSeenThrough_56 (nx := 57) rfl (v := 1) (by decide) ?_
                      refine g_goto hx dX4_isSeenThrough_57 (tg := 70) (by decide) ?_
                      refine g_callV_M hx [_] (k' := 0) (n' := 0) dX4_isSeenThrough_70 (nx := 73) rfl lk_X4_114 (hM.1 0 _ rfl) (by decide) rfl rfl (Nat.le_of_ble_eq_true rfl) (Nat.le_of_ble_eq_true rfl) (Nat.le_of_ble_eq_true rfl) (Nat.le_of_ble_eq_true rfl) (Nat.le_of_ble_eq_true rfl) (Nat.le_of_ble_eq_true rfl) (Nat.le_of_ble_eq_true rfl) (s_X4_can hst hM (fun z => absurd z (by decide)) (fun _ => ?_))
                      refine g_if_eq hx dX4_isSeenThrough_73 (tg := 92) (by decide) (nx := 76) rfl (fun c73 => ?_) (fun c73 => ?_)
                      · refine g_iconst hx dX4_isSeenThrough_92 (nx := 93) rfl (v := 0) (by decide) ?_
                        refine g_iret hx dX4_isSeenThrough_93 rfl rfl (Nat.le_of_ble_eq_true rfl) (Nat.le_of_ble_eq_true rfl) ?_
                        first
                          | exact hf1 (fun z => qs z.1)
                          | exact hf1 (fun z => qj z.2)
                          | exact hf2 ⟨⟨k, hk9, rfl⟩, ⟨j, hj9, rfl⟩⟩ (fun z => qt z.1)
                          | exact hf2 ⟨⟨k, hk9, rfl⟩, ⟨j, hj9, rfl⟩⟩ (fun z => qu z.2.1)
                          | exact hf2 ⟨⟨k, hk9, rfl⟩, ⟨j, hj9, rfl⟩⟩ (fun z => z.2.2 c40)
                          | exact h1 k j t u hk9 hj9 ht9 hu9 rfl rfl rfl rfl htu q2 I1 L1 e1 e2
                          | exact h0 k j t u hk9 hj9 ht9 hu9 rfl rfl rfl rfl htu q3 I1 L1 e1 e2
                      · exact absurd c73 (by decide)
              · refine g_if_eq hx dX4_isSeenThrough_34 (tg := 47) (by decide) (nx := 37) rfl (fun c34 => ?_) (fun c34 => ?_)
                · refine g_iconst hx dX4_isSeenThrough_47 (nx := 48) rfl (v := 0) (by decide) ?_
                  refine g_istore_6 hx dX4_isSeenThrough_48 (nx := 50) rfl (by decide) rfl ?_
                  refine g_aloadG_n hx dX4_isSeenThrough_50 rfl (nx := 51) rfl rfl ?_
                  refine g_iloadG hx dX4_isSeenThrough_51 (nx := 53) rfl rfl ?_
                  refine g_if_ne hx dX4_isSeenThrough_53 (tg := 60) (by decide) (nx := 56) rfl (fun c53 => ?_) (fun c53 => ?_)
                  · exact absurd c53 (by decide)
                  · refine g_iconst hx dX4_isSeenThrough_56 (nx := 57) rfl (v := 1) (by decide) ?_
                    refine g_goto hx dX4_isSeenThrough_57 (tg := 70) (by decide) ?_
                    refine g_callV_M hx [_] (k' := 0) (n' := 0) dX4_isSeenThrough_70 (nx := 73) rfl lk_X4_114 (hM.1 0 _ rfl) (by decide) rfl rfl (Nat.le_of_ble_eq_true rfl) (Nat.le_of_ble_eq_true rfl) (Nat.le_of_ble_eq_true rfl) (Nat.le_of_ble_eq_true rfl) (Nat.le_of_ble_eq_true rfl) (Nat.le_of_ble_eq_true rfl) (Nat.le_of_ble_eq_true rfl) (s_X4_can hst hM (fun z => absurd z (by decide)) (fun _ => ?_))
                    refine g_if_eq hx dX4_isSeenThrough_73 (tg := 92) (by decide) (nx := 76) rfl (fun c73 => ?_) (fun c73 => ?_)
                    · refine g_iconst hx dX4_isSeenThrough_92 (nx := 93) rfl (v := 0) (by decide) ?_
                      refine g_iret hx dX4_isSeenThrough_93 rfl rfl (Nat.le_of_ble_eq_true rfl) (Nat.le_of_ble_eq_true rfl) ?_
                      first
                        | exact hf1 (fun z => qs z.1)
                        | exact hf1 (fun z => qj z.2)
                        | exact hf2 ⟨⟨k, hk9, rfl⟩, ⟨j, hj9, rfl⟩⟩ (fun z => qt z.1)
                        | exact hf2 ⟨⟨k, hk9, rfl⟩, ⟨j, hj9, rfl⟩⟩ (fun z => qu z.2.1)
                        | exact hf2 ⟨⟨k, hk9, rfl⟩, ⟨j, hj9, rfl⟩⟩ (fun z => z.2.2 c40)
                        | exact h1 k j t u hk9 hj9 ht9 hu9 rfl rfl rfl rfl htu q2 I1 L1 e1 e2
                        | exact h0 k j t u hk9 hj9 ht9 hu9 rfl rfl rfl rfl htu q3 I1 L1 e1 e2
                    · exact absurd c73 (by decide)
                · exact absurd c34 (by decide)
          · refine g_if_eq hx dX4_isSeenThrough_26 (tg := 47) (by decide) (nx := 29) rfl (fun c26 => ?_) (fun c26 => ?_)
            · refine g_iconst hx dX4_isSeenThrough_47 (nx := 48) rfl (v := 0) (by decide) ?_
              refine g_istore_6 hx dX4_isSeenThrough_48 (nx := 50) rfl (by decide) rfl ?_
              refine g_aloadG_n hx dX4_isSeenThrough_50 rfl (nx := 51) rfl rfl ?_
              refine g_iloadG hx dX4_isSeenThrough_51 (nx := 53) rfl rfl ?_
              refine g_if_ne hx dX4_isSeenThrough_53 (tg := 60) (by decide) (nx := 56) rfl (fun c53 => ?_) (fun c53 => ?_)
              · exact absurd c53 (by decide)
              · refine g_iconst hx dX4_isSeenThrough_56 (nx := 57) rfl (v := 1) (by decide) ?_
                refine g_goto hx dX4_isSeenThrough_57 (tg := 70) (by decide) ?_
                refine g_callV_M hx [_] (k' := 0) (n' := 0) dX4_isSeenThrough_70 (nx := 73) rfl lk_X4_114 (hM.1 0 _ rfl) (by decide) rfl rfl (Nat.le_of_ble_eq_true rfl) (Nat.le_of_ble_eq_true rfl) (Nat.le_of_ble_eq_true rfl) (Nat.le_of_ble_eq_true rfl) (Nat.le_of_ble_eq_true rfl) (Nat.le_of_ble_eq_true rfl) (Nat.le_of_ble_eq_true rfl) (s_X4_can hst hM (fun z => absurd z (by decide)) (fun _ => ?_))
                refine g_if_eq hx dX4_isSeenThrough_73 (tg := 92) (by decide) (nx := 76) rfl (fun c73 => ?_) (fun c73 => ?_)
                · refine g_iconst hx dX4_isSeenThrough_92 (nx := 93) rfl (v := 0) (by decide) ?_
                  refine g_iret hx dX4_isSeenThrough_93 rfl rfl (Nat.le_of_ble_eq_true rfl) (Nat.le_of_ble_eq_true rfl) ?_
                  first
                    | exact hf1 (fun z => qs z.1)
                    | exact hf1 (fun z => qj z.2)
                    | exact hf2 ⟨⟨k, hk9, rfl⟩, ⟨j, hj9, rfl⟩⟩ (fun z => qt z.1)
                    | exact hf2 ⟨⟨k, hk9, rfl⟩, ⟨j, hj9, rfl⟩⟩ (fun z => qu z.2.1)
                    | exact hf2 ⟨⟨k, hk9, rfl⟩, ⟨j, hj9, rfl⟩⟩ (fun z => z.2.2 c40)
                    | exact h1 k j t u hk9 hj9 ht9 hu9 rfl rfl rfl rfl htu q2 I1 L1 e1 e2
                    | exact h0 k j t u hk9 hj9 ht9 hu9 rfl rfl rfl rfl htu q3 I1 L1 e1 e2
                · exact absurd c73 (by decide)
            · exact absurd c26 (by decide)
        · exact absurd c12 (by decide)
  · refine g_if_eq hx dX4_isSeenThrough_5 (tg := 19) (by decide) (nx := 8) rfl (fun c5 => ?_) (fun c5 => ?_)
    · refine g_iconst hx dX4_isSeenThrough_19 (nx := 20) rfl (v := 0) (by decide) ?_
      refine g_istore_5 hx dX4_isSeenThrough_20 (nx := 22) rfl (by decide) rfl ?_
      refine g_iloadG_n hx dX4_isSeenThrough_22 rfl (nx := 23) rfl rfl ?_
      refine g_callS_M hx [_] (k' := 0) (n' := 0) dX4_isSeenThrough_23 (nx := 26) rfl lk_X4_170 rfl (Nat.le_of_ble_eq_true rfl) (Nat.le_of_ble_eq_true rfl) (Nat.le_of_ble_eq_true rfl) (Nat.le_of_ble_eq_true rfl) (Nat.le_of_ble_eq_true rfl) (Nat.le_of_ble_eq_true rfl) (Nat.le_of_ble_eq_true rfl) (s_X4_isLine hst (fun t ht9 et => ?_) (fun qt => ?_))
      · subst et
        refine g_if_eq hx dX4_isSeenThrough_26 (tg := 47) (by decide) (nx := 29) rfl (fun c26 => ?_) (fun c26 => ?_)
        · exact absurd c26 (by decide)
        · refine g_iloadG hx dX4_isSeenThrough_29 (nx := 31) rfl rfl ?_
          refine g_callS_M hx [_] (k' := 0) (n' := 0) dX4_isSeenThrough_31 (nx := 34) rfl lk_X4_170 rfl (Nat.le_of_ble_eq_true rfl) (Nat.le_of_ble_eq_true rfl) (Nat.le_of_ble_eq_true rfl) (Nat.le_of_ble_eq_true rfl) (Nat.le_of_ble_eq_true rfl) (Nat.le_of_ble_eq_true rfl) (Nat.le_of_ble_eq_true rfl) (s_X4_isLine hst (fun u hu9 eu => ?_) (fun qu => ?_))
          · subst eu
            refine g_if_eq hx dX4_isSeenThrough_34 (tg := 47) (by decide) (nx := 37) rfl (fun c34 => ?_) (fun c34 => ?_)
            · exact absurd c34 (by decide)
            · refine g_iloadG_n hx dX4_isSeenThrough_37 rfl (nx := 38) rfl rfl ?_
              refine g_iloadG hx dX4_isSeenThrough_38 (nx := 40) rfl rfl ?_
              refine g_icmp_eq hx dX4_isSeenThrough_40 (tg := 47) (by decide) (nx := 43) rfl (fun c40 => ?_) (fun c40 => ?_)
              · refine g_iconst hx dX4_isSeenThrough_47 (nx := 48) rfl (v := 0) (by decide) ?_
                refine g_istore_6 hx dX4_isSeenThrough_48 (nx := 50) rfl (by decide) rfl ?_
                refine g_aloadG_n hx dX4_isSeenThrough_50 rfl (nx := 51) rfl rfl ?_
                refine g_iloadG hx dX4_isSeenThrough_51 (nx := 53) rfl rfl ?_
                refine g_if_ne hx dX4_isSeenThrough_53 (tg := 60) (by decide) (nx := 56) rfl (fun c53 => ?_) (fun c53 => ?_)
                · exact absurd c53 (by decide)
                · refine g_iconst hx dX4_isSeenThrough_56 (nx := 57) rfl (v := 1) (by decide) ?_
                  refine g_goto hx dX4_isSeenThrough_57 (tg := 70) (by decide) ?_
                  refine g_callV_M hx [_] (k' := 0) (n' := 0) dX4_isSeenThrough_70 (nx := 73) rfl lk_X4_114 (hM.1 0 _ rfl) (by decide) rfl rfl (Nat.le_of_ble_eq_true rfl) (Nat.le_of_ble_eq_true rfl) (Nat.le_of_ble_eq_true rfl) (Nat.le_of_ble_eq_true rfl) (Nat.le_of_ble_eq_true rfl) (Nat.le_of_ble_eq_true rfl) (Nat.le_of_ble_eq_true rfl) (s_X4_can hst hM (fun z => absurd z (by decide)) (fun _ => ?_))
                  refine g_if_eq hx dX4_isSeenThrough_73 (tg := 92) (by decide) (nx := 76) rfl (fun c73 => ?_) (fun c73 => ?_)
                  · refine g_iconst hx dX4_isSeenThrough_92 (nx := 93) rfl (v := 0) (by decide) ?_
                    refine g_iret hx dX4_isSeenThrough_93 rfl rfl (Nat.le_of_ble_eq_true rfl) (Nat.le_of_ble_eq_true rfl) ?_
                    first
                      | exact hf1 (fun z => qs z.1)
                      | exact hf1 (fun z => qj z.2)
                      | exact hf2 ⟨⟨k, hk9, rfl⟩, ⟨j, hj9, rfl⟩⟩ (fun z => qt z.1)
                      | exact hf2 ⟨⟨k, hk9, rfl⟩, ⟨j, hj9, rfl⟩⟩ (fun z => qu z.2.1)
                      | exact hf2 ⟨⟨k, hk9, rfl⟩, ⟨j, hj9, rfl⟩⟩ (fun z => z.2.2 c40)
                      | exact h1 k j t u hk9 hj9 ht9 hu9 rfl rfl rfl rfl htu q2 I1 L1 e1 e2
                      | exact h0 k j t u hk9 hj9 ht9 hu9 rfl rfl rfl rfl htu q3 I1 L1 e1 e2
                  · exact absurd c73 (by decide)
              · refine g_iconst hx dX4_isSeenThrough_43 (nx := 44) rfl (v := 1) (by decide) ?_
                refine g_goto hx dX4_isSeenThrough_44 (tg := 48) (by decide) ?_
                refine g_istore_6 hx dX4_isSeenThrough_48 (nx := 50) rfl (by decide) rfl ?_
                refine g_aloadG_n hx dX4_isSeenThrough_50 rfl (nx := 51) rfl rfl ?_
                refine g_iloadG hx dX4_isSeenThrough_51 (nx := 53) rfl rfl ?_
                refine g_if_ne hx dX4_isSeenThrough_53 (tg := 60) (by decide) (nx := 56) rfl (fun c53 => ?_) (fun c53 => ?_)
                · exact absurd c53 (by decide)
                · refine g_iconst hx dX4_isSeenThrough_56 (nx := 57) rfl (v := 1) (by decide) ?_
                  refine g_goto hx dX4_isSeenThrough_57 (tg := 70) (by decide) ?_
                  refine g_callV_M hx [_] (k' := 0) (n' := 0) dX4_isSeenThrough_70 (nx := 73) rfl lk_X4_114 (hM.1 0 _ rfl) (by decide) rfl rfl (Nat.le_of_ble_eq_true rfl) (Nat.le_of_ble_eq_true rfl) (Nat.le_of_ble_eq_true rfl) (Nat.le_of_ble_eq_true rfl) (Nat.le_of_ble_eq_true rfl) (Nat.le_of_ble_eq_true rfl) (Nat.le_of_ble_eq_true rfl) (s_X4_can hst hM (fun z => absurd z (by decide)) (fun _ => ?_))
                  refine g_if_eq hx dX4_isSeenThrough_73 (tg := 92) (by decide) (nx := 76) rfl (fun c73 => ?_) (fun c73 => ?_)
                  · refine g_iconst hx dX4_isSeenThrough_92 (nx := 93) rfl (v := 0) (by decide) ?_
                    refine g_iret hx dX4_isSeenThrough_93 rfl rfl (Nat.le_of_ble_eq_true rfl) (Nat.le_of_ble_eq_true rfl) ?_
                    first
                      | exact hf1 (fun z => qs z.1)
                      | exact hf1 (fun z => qj z.2)
                      | exact hf2 ⟨⟨k, hk9, rfl⟩, ⟨j, hj9, rfl⟩⟩ (fun z => qt z.1)
                      | exact hf2 ⟨⟨k, hk9, rfl⟩, ⟨j, hj9, rfl⟩⟩ (fun z => qu z.2.1)
                      | exact hf2 ⟨⟨k, hk9, rfl⟩, ⟨j, hj9, rfl⟩⟩ (fun z => z.2.2 c40)
                      | exact h1 k j t u hk9 hj9 ht9 hu9 rfl rfl rfl rfl htu q2 I1 L1 e1 e2
                      | exact h0 k j t u hk9 hj9 ht9 hu9 rfl rfl rfl rfl htu q3 I1 L1 e1 e2
                  · exact absurd c73 (by decide)
          · refine g_if_eq hx dX4_isSeenThrough_34 (tg := 47) (by decide) (nx := 37) rfl (fun c34 => ?_) (fun c34 => ?_)
            · refine g_iconst hx dX4_isSeenThrough_47 (nx := 48) rfl (v := 0) (by decide) ?_
              refine g_istore_6 hx dX4_isSeenThrough_48 (nx := 50) rfl (by decide) rfl ?_
              refine g_aloadG_n hx dX4_isSeenThrough_50 rfl (nx := 51) rfl rfl ?_
              refine g_iloadG hx dX4_isSeenThrough_51 (nx := 53) rfl rfl ?_
              refine g_if_ne hx dX4_isSeenThrough_53 (tg := 60) (by decide) (nx := 56) rfl (fun c53 => ?_) (fun c53 => ?_)
              · exact absurd c53 (by decide)
              · refine g_iconst hx dX4_isSeenThrough_56 (nx := 57) rfl (v := 1) (by decide) ?_
                refine g_goto hx dX4_isSeenThrough_57 (tg := 70) (by decide) ?_
                refine g_callV_M hx [_] (k' := 0) (n' := 0) dX4_isSeenThrough_70 (nx := 73) rfl lk_X4_114 (hM.1 0 _ rfl) (by decide) rfl rfl (Nat.le_of_ble_eq_true rfl) (Nat.le_of_ble_eq_true rfl) (Nat.le_of_ble_eq_true rfl) (Nat.le_of_ble_eq_true rfl) (Nat.le_of_ble_eq_true rfl) (Nat.le_of_ble_eq_true rfl) (Nat.le_of_ble_eq_true rfl) (s_X4_can hst hM (fun z => absurd z (by decide)) (fun _ => ?_))
                refine g_if_eq hx dX4_isSeenThrough_73 (tg := 92) (by decide) (nx := 76) rfl (fun c73 => ?_) (fun c73 => ?_)
                · refine g_iconst hx dX4_isSeenThrough_92 (nx := 93) rfl (v := 0) (by decide) ?_
                  refine g_iret hx dX4_isSeenThrough_93 rfl rfl (Nat.le_of_ble_eq_true rfl) (Nat.le_of_ble_eq_true rfl) ?_
                  first
                    | exact hf1 (fun z => qs z.1)
                    | exact hf1 (fun z => qj z.2)
                    | exact hf2 ⟨⟨k, hk9, rfl⟩, ⟨j, hj9, rfl⟩⟩ (fun z => qt z.1)
                    | exact hf2 ⟨⟨k, hk9, rfl⟩, ⟨j, hj9, rfl⟩⟩ (fun z => qu z.2.1)
                    | exact hf2 ⟨⟨k, hk9, rfl⟩, ⟨j, hj9, rfl⟩⟩ (fun z => z.2.2 c40)
                    | exact h1 k j t u hk9 hj9 ht9 hu9 rfl rfl rfl rfl htu q2 I1 L1 e1 e2
                    | exact h0 k j t u hk9 hj9 ht9 hu9 rfl rfl rfl rfl htu q3 I1 L1 e1 e2
                · exact absurd c73 (by decide)
            · exact absurd c34 (by decide)
      · refine g_if_eq hx dX4_isSeenThrough_26 (tg := 47) (by decide) (nx := 29) rfl (fun c26 => ?_) (fun c26 => ?_)
        · refine g_iconst hx dX4_isSeenThrough_47 (nx := 48) rfl (v := 0) (by decide) ?_
          refine g_istore_6 hx dX4_isSeenThrough_48 (nx := 50) rfl (by decide) rfl ?_
          refine g_aloadG_n hx dX4_isSeenThrough_50 rfl (nx := 51) rfl rfl ?_
          refine g_iloadG hx dX4_isSeenThrough_51 (nx := 53) rfl rfl ?_
          refine g_if_ne hx dX4_isSeenThrough_53 (tg := 60) (by decide) (nx := 56) rfl (fun c53 => ?_) (fun c53 => ?_)
          · exact absurd c53 (by decide)
          · refine g_iconst hx dX4_isSeenThrough_56 (nx := 57) rfl (v := 1) (by decide) ?_
            refine g_goto hx dX4_isSeenThrough_57 (tg := 70) (by decide) ?_
            refine g_callV_M hx [_] (k' := 0) (n' := 0) dX4_isSeenThrough_70 (nx := 73) rfl lk_X4_114 (hM.1 0 _ rfl) (by decide) rfl rfl (Nat.le_of_ble_eq_true rfl) (Nat.le_of_ble_eq_true rfl) (Nat.le_of_ble_eq_true rfl) (Nat.le_of_ble_eq_true rfl) (Nat.le_of_ble_eq_true rfl) (Nat.le_of_ble_eq_true rfl) (Nat.le_of_ble_eq_true rfl) (s_X4_can hst hM (fun z => absurd z (by decide)) (fun _ => ?_))
            refine g_if_eq hx dX4_isSeenThrough_73 (tg := 92) (by decide) (nx := 76) rfl (fun c73 => ?_) (fun c73 => ?_)
            · refine g_iconst hx dX4_isSeenThrough_92 (nx := 93) rfl (v := 0) (by decide) ?_
              refine g_iret hx dX4_isSeenThrough_93 rfl rfl (Nat.le_of_ble_eq_true rfl) (Nat.le_of_ble_eq_true rfl) ?_
              first
                | exact hf1 (fun z => qs z.1)
                | exact hf1 (fun z => qj z.2)
                | exact hf2 ⟨⟨k, hk9, rfl⟩, ⟨j, hj9, rfl⟩⟩ (fun z => qt z.1)
                | exact hf2 ⟨⟨k, hk9, rfl⟩, ⟨j, hj9, rfl⟩⟩ (fun z => qu z.2.1)
                | exact hf2 ⟨⟨k, hk9, rfl⟩, ⟨j, hj9, rfl⟩⟩ (fun z => z.2.2 c40)
                | exact h1 k j t u hk9 hj9 ht9 hu9 rfl rfl rfl rfl htu q2 I1 L1 e1 e2
                | exact h0 k j t u hk9 hj9 ht9 hu9 rfl rfl rfl rfl htu q3 I1 L1 e1 e2
            · exact absurd c73 (by decide)
        · exact absurd c26 (by decide)
    · exact absurd c5 (by decide)

