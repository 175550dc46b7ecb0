/-! the reference: the audit, what it tells of claims, its stars -/
def eA (J I : aI) : Prop := ∀ a b, ¬ (a = 20 ∧ b = 18) → a ≠ 40 → a ≠ 50 → J a b = I a b
theorem neP_x {I J : aI} {k : Nat} {x : Int32} {i j : Nat} (h : ∀ a b, 27 ≤ a → a ≤ 30 → J a b = I a b) : neP J k x i j ↔ neP I k x i j := by
  simp only [neP, neN, tnI]
  rw [h 27 k (by decide) (by decide), h 28 k (by decide) (by decide), h 29 k (by decide) (by decide), h 30 k (by decide) (by decide)]
theorem hlM_x {I J : aI} {L M : aL} {q : Nat → Nat → Bool} {V : Nat → Nat → Int64} {ff : Nat → Nat → Int32} {oo : Nat → Nat} {s d i : Nat} (h : ∀ a b, 27 ≤ a → a ≤ 45 → a ≠ 40 → J a b = I a b) (hL : eL M L) : hlM J M q V ff oo s d i ↔ hlM I L q V ff oo s d i := by
  simp only [hlM, rpM, neM]
  rw [h 42 i (by decide) (by decide) (by decide), h 44 i (by decide) (by decide) (by decide), h 45 i (by decide) (by decide) (by decide), hL 47 i (by decide), neP_x (I := I) (J := J) (fun a b z1 z2 => h a b z1 (by omega) (by omega))]
theorem clM.x {I J : aI} {n nc : Nat} {sc dc ln : Nat → Nat} (h : clM I n nc sc dc ln) (e : ∀ a b, 42 ≤ a → a ≤ 46 → J a b = I a b) : clM J n nc sc dc ln := fun i hi => by
  rw [e 42 i (by decide) (by decide), e 43 i (by decide) (by decide), e 44 i (by decide) (by decide), e 45 i (by decide) (by decide), e 46 i (by decide) (by decide)]
  exact h i hi
noncomputable def auS (hl : Nat → Prop) (sd : Nat → Int32) (m : Nat) : Nat → Int32 := fun j => if j < m then zI (sd j ≠ 0 ∧ hl j) else sd j
noncomputable def auN (hl : Nat → Prop) (sd : Nat → Int32) : Nat → Int32
  | 0 => 0
  | k + 1 => auN hl sd k + zI (sd k ≠ 0 ∧ ¬ hl k)
abbrev rmX4_audit : Room := { frames := 6, cells := 0, slots := 0, locals := 139 }
set_option maxHeartbeats 4000000 in
set_option maxRecDepth 100000 in
theorem s_X4_audit {l : Launch} {E : aE} {S : aS} {I : aI} {L : aL} {Rf : aR} {Kr : aK} {Kx : aX} (hst : l.stackTraces = false) {n nc : Nat} {sc dc ln : Nat → Nat} {q : Nat → Nat → Bool} {V : Nat → Nat → Int64} {ff : Nat → Nat → Int32} {oo : Nat → Nat} (hM : lyM S Rf) (h21 : I 20 21 = nI nc) (hT : tbM I) (hl : okM I n q V ff oo) (hn6 : n ≤ 6) (hn40 : nc ≤ 40) (hcl : clM I n nc sc dc ln) (hk : ∀ I' L', eA I' (au2 I 20 31 0) → eL L' L → (∀ j, I' 50 j = foM (fun k => L 49 k) (auS (fun j => hlM I L q V ff oo (sc j) (dc j) j) (fun k => I 50 k) nc) nc j) → Kr (some (.int (auN (fun j => hlM I L q V ff oo (sc j) (dc j) j) (fun k => I 50 k) nc + cnM (fun k => L 49 k) (auS (fun j => hlM I L q V ff oo (sc j) (dc j) j) (fun k => I 50 k) nc) nc))) S I' L' Rf) : aMet l E yX4_audit cX4_audit 4 (some .int) rmX4_audit [.ref 20] (S) (I) (L) (Rf) Kr Kx := by
  refine aMet.of (lv0 := [.ref 20, aU, aU, aU]) (z := 3) (by decide +kernel) hst rfl (Nat.le_of_ble_eq_true rfl) ?_
  intro p e s m args below meth c io0 hx hin hno
  have hx : aCx p l s m args meth c RX4 cX4_audit 4 (some .int) E := hx
  have loop1 : ∀ (r i : Nat) (I' : aI) (L' : aL), i + r = nc → eA I' (au2 I 20 31 0) → eL L' L → (∀ j, I' 50 j = auS (fun j => hlM I L q V ff oo (sc j) (dc j) j) (fun k => I 50 k) i j) → ∀ w1, aG p l e rmX4_audit s m args below meth c E io0 S 4 (vx_MQ below (aQc E io0 S Kr) (aXC E io0 S Kx) args s rmX4_audit.cells rmX4_audit.slots (aW E)) 9 [.ref 20, .int (auN (fun j => hlM I L q V ff oo (sc j) (dc j) j) (fun k => I 50 k) i), .int (nI i), w1] [] (S) (I') (L') (Rf) 0 0 := by
    intro r
    induction r with
    | zero =>
      intro i I' L' hi h1 h2 h3 w1
      have hi : i = nc := by omega
      subst hi
      refine g_iloadG_n hx dX4_audit_9 rfl (nx := 10) rfl rfl ?_
      refine g_aloadG_n hx dX4_audit_10 rfl (nx := 11) rfl rfl ?_
      refine g_getfo_i hx dX4_audit_11 (nx := 14) rfl fa_X4_108 rfl (hM.1 0 _ rfl) (by decide) ?_
      refine g_icmp_ge hx dX4_audit_14 (tg := 82) (by decide) (nx := 17) rfl (fun c14 => ?_) (fun c14 => ?_)
      · refine g_iloadG_n hx dX4_audit_82 rfl (nx := 83) rfl rfl ?_
        refine g_aloadG_n hx dX4_audit_83 rfl (nx := 84) rfl rfl ?_
        refine g_callV_M hx [] (k' := 0) (n' := 0) dX4_audit_84 (nx := 87) rfl lk_X4_208 (hM.1 0 _ rfl) (by decide) rfl rfl (Nat.le_of_ble_eq_true rfl) (Nat.le_of_ble_eq_true rfl) (Nat.le_of_ble_eq_true rfl) (Nat.le_of_ble_eq_true rfl) (Nat.le_of_ble_eq_true rfl) (Nat.le_of_ble_eq_true rfl) (Nat.le_of_ble_eq_true rfl) (s_X4_follows (nc := i) hst hM (by rw [h1 20 21 (by omega) (by decide) (by decide), au2_n (by omega)]; exact h21) hn40 (fun I2 g1 g2 => ?_))
        refine g_iadd hx dX4_audit_87 (nx := 88) rfl ?_
        refine g_iret hx dX4_audit_88 rfl rfl (Nat.le_of_ble_eq_true rfl) (Nat.le_of_ble_eq_true rfl) ?_
        have eL9 : (fun k => L' 49 k) = (fun k => L 49 k) := funext fun k => h2 49 k (by decide)
        have eS9 : (fun k => I' 50 k) = auS (fun j => hlM I L q V ff oo (sc j) (dc j) j) (fun k => I 50 k) i := funext h3
        rw [eL9, eS9] at g2 ⊢
        exact hk I2 L' (fun a b z1 z2 z3 => (g1 a b z3).trans (h1 a b z1 z2 z3)) h2 g2
      · exact absurd (by rw [h1 20 21 (by omega) (by decide) (by decide), au2_n (by omega), h21]; exact Int32.le_refl _) c14
    | succ r ih =>
      intro i I' L' hi h1 h2 h3 w1
      have ic : (nI i).toNatClampNeg = i := nI_clamp (by omega)
      have iw9 : vp_in (nI i) 40 := vp_in_nI (by omega) (by decide)
      have hsi : I' 50 i = I 50 i := (h3 i).trans (if_neg (Nat.lt_irrefl i))
      refine g_iloadG_n hx dX4_audit_9 rfl (nx := 10) rfl rfl ?_
      refine g_aloadG_n hx dX4_audit_10 rfl (nx := 11) rfl rfl ?_
      refine g_getfo_i hx dX4_audit_11 (nx := 14) rfl fa_X4_108 rfl (hM.1 0 _ rfl) (by decide) ?_
      refine g_icmp_ge hx dX4_audit_14 (tg := 82) (by decide) (nx := 17) rfl (fun c14 => ?_) (fun c14 => ?_)
      · exact absurd c14 (by rw [h1 20 21 (by omega) (by decide) (by decide), au2_n (by omega), h21]; exact nI_ge (by omega) (by omega))
      · refine g_aloadG_n hx dX4_audit_17 rfl (nx := 18) rfl rfl ?_
        refine g_getfo_R hx dX4_audit_18 (nx := 21) rfl fa_X4_91 rfl (r9 := 50) (hM.2 30 rfl) (hM.1 0 _ rfl) (by decide) ?_
        refine g_iloadG_n hx dX4_audit_21 rfl (nx := 22) rfl rfl ?_
        refine g_baload hx dX4_audit_22 (nx := 23) rfl (hM.1 30 _ rfl) (by decide) iw9 ?_
        rw [ic, hsi]
        refine g_if_eq hx dX4_audit_23 (tg := 38) (by decide) (nx := 26) rfl (fun c23 => ?_) (fun c23 => ?_)
        · refine g_iconst hx dX4_audit_38 (nx := 39) rfl (v := 0) (by decide) ?_
          refine g_istore_3 hx dX4_audit_39 (nx := 40) rfl (by decide) rfl ?_
          refine g_iloadG_n hx dX4_audit_40 rfl (nx := 41) rfl rfl ?_
          refine g_iloadG_n hx dX4_audit_41 rfl (nx := 42) rfl rfl ?_
          refine g_if_eq hx dX4_audit_42 (tg := 49) (by decide) (nx := 45) rfl (fun c42 => ?_) (fun c42 => ?_)
          · refine g_iconst hx dX4_audit_49 (nx := 50) rfl (v := 0) (by decide) ?_
            refine g_iadd hx dX4_audit_50 (nx := 51) rfl ?_
            refine g_istore_1 hx dX4_audit_51 (nx := 52) rfl (by decide) rfl ?_
            refine g_aloadG_n hx dX4_audit_52 rfl (nx := 53) rfl rfl ?_
            refine g_getfo_R hx dX4_audit_53 (nx := 56) rfl fa_X4_91 rfl (r9 := 50) (hM.2 30 rfl) (hM.1 0 _ rfl) (by decide) ?_
            refine g_iloadG_n hx dX4_audit_56 rfl (nx := 57) rfl rfl ?_
            refine g_aloadG_n hx dX4_audit_57 rfl (nx := 58) rfl rfl ?_
            refine g_getfo_R hx dX4_audit_58 (nx := 61) rfl fa_X4_91 rfl (r9 := 50) (hM.2 30 rfl) (hM.1 0 _ rfl) (by decide) ?_
            refine g_iloadG_n hx dX4_audit_61 rfl (nx := 62) rfl rfl ?_
            refine g_baload hx dX4_audit_62 (nx := 63) rfl (hM.1 30 _ rfl) (by decide) iw9 ?_
            rw [ic, hsi]
            refine g_if_eq hx dX4_audit_63 (tg := 74) (by decide) (nx := 66) rfl (fun c63 => ?_) (fun c63 => ?_)
            · refine g_iconst hx dX4_audit_74 (nx := 75) rfl (v := 0) (by decide) ?_
              refine g_bastore hx dX4_audit_75 (nx := 76) rfl (hM.1 30 _ rfl) (by decide) iw9 rfl ?_
              rw [ic]
              refine g_iinc_2 hx dX4_audit_76 (nx := 79) rfl (by decide) (v := 1) (by decide) rfl ?_
              refine g_goto hx dX4_audit_79 (tg := 9) (by decide) ?_
              rw [← nI_succ]
              first
                | exact absurd c23 c63
                | exact absurd c63 c23
                | (have g1 : zI (I 50 i ≠ 0 ∧ ¬ hlM I L q V ff oo (sc i) (dc i) i) = 0 := zI_f (fun z => z.1 c23)
                   have g2 : zI (I 50 i ≠ 0 ∧ hlM I L q V ff oo (sc i) (dc i) i) = 0 := zI_f (fun z => z.1 c23)
                   refine cast ?_ (ih (i + 1) (au2 I' 50 i 0) L' (by omega) (fun a b z1 z2 z3 => by rw [au2_n (fun w => z3 w.1)]; exact h1 a b z1 z2 z3) h2 (fun j => ?_) (.int 0))
                   · first | (rw [auN, g1]; done) | (rw [auN, g1]; rfl)
                   · by_cases e : j = i
                     · subst e; rw [au2_s, auS, if_pos (Nat.lt_succ_self _)]; exact g2.symm
                     · rw [au2_n (fun w => e w.2), h3 j, auS, auS]; by_cases e3 : j < i
                       · rw [if_pos e3, if_pos (by omega)]
                       · rw [if_neg e3, if_neg (by omega)])
            · refine g_iloadG_n hx dX4_audit_66 rfl (nx := 67) rfl rfl ?_
              refine g_if_ne hx dX4_audit_67 (tg := 74) (by decide) (nx := 70) rfl (fun c67 => ?_) (fun c67 => ?_)
              · exact absurd c67 (by decide)
              · refine g_iconst hx dX4_audit_70 (nx := 71) rfl (v := 1) (by decide) ?_
                refine g_goto hx dX4_audit_71 (tg := 75) (by decide) ?_
                refine g_bastore hx dX4_audit_75 (nx := 76) rfl (hM.1 30 _ rfl) (by decide) iw9 rfl ?_
                rw [ic]
                refine g_iinc_2 hx dX4_audit_76 (nx := 79) rfl (by decide) (v := 1) (by decide) rfl ?_
                refine g_goto hx dX4_audit_79 (tg := 9) (by decide) ?_
                rw [← nI_succ]
                first
                  | exact absurd c23 c63
                  | exact absurd c63 c23
                  | (have g1 : zI (I 50 i ≠ 0 ∧ ¬ hlM I L q V ff oo (sc i) (dc i) i) = 0 := zI_f (fun z => z.1 c23)
                     have g2 : zI (I 50 i ≠ 0 ∧ hlM I L q V ff oo (sc i) (dc i) i) = 1 := zI_f (fun z => z.1 c23)
                     refine cast ?_ (ih (i + 1) (au2 I' 50 i 1) L' (by omega) (fun a b z1 z2 z3 => by rw [au2_n (fun w => z3 w.1)]; exact h1 a b z1 z2 z3) h2 (fun j => ?_) (.int 0))
                     · first | (rw [auN, g1]; done) | (rw [auN, g1]; rfl)
                     · by_cases e : j = i
                       · subst e; rw [au2_s, auS, if_pos (Nat.lt_succ_self _)]; exact g2.symm
                       · rw [au2_n (fun w => e w.2), h3 j, auS, auS]; by_cases e3 : j < i
                         · rw [if_pos e3, if_pos (by omega)]
                         · rw [if_neg e3, if_neg (by omega)])
          · exact absurd c42 (by decide)
        · refine g_aloadG_n hx dX4_audit_26 rfl (nx := 27) rfl rfl ?_
          refine g_iloadG_n hx dX4_audit_27 rfl (nx := 28) rfl rfl ?_
          refine g_callV_M hx [_] (k' := 0) (n' := 0) dX4_audit_28 (nx := 31) rfl lk_X4_221 (hM.1 0 _ rfl) (by decide) rfl rfl (Nat.le_of_ble_eq_true rfl) (Nat.le_of_ble_eq_true rfl) (Nat.le_of_ble_eq_true rfl) (Nat.le_of_ble_eq_true rfl) (Nat.le_of_ble_eq_true rfl) (Nat.le_of_ble_eq_true rfl) (Nat.le_of_ble_eq_true rfl) (s_X4_sound (n := n) (nc := nc) (i := i) hst hM (hT.y (fun b => (h1 37 b (by omega) (by decide) (by decide)).trans (au2_n (by omega)))) (hl.x (fun a b z => (h1 a b (by omega) (by omega) (by omega)).trans (au2_n (by omega)))) hn6 hn40 (hcl.x (fun a b z1 z2 => (h1 a b (by omega) (by omega) (by omega)).trans (au2_n (by omega)))) (by omega) (fun I1 L1 e1 e2 => ?_))
          rw [zI_c (hlM_x (I := I) (L := L) (fun a b z1 z2 z3 => (h1 a b (by omega) z3 (by omega)).trans (au2_n (by omega))) h2)]
          refine g_if_ne hx dX4_audit_31 (tg := 38) (by decide) (nx := 34) rfl (fun c31 => ?_) (fun c31 => ?_)
          · refine g_iconst hx dX4_audit_38 (nx := 39) rfl (v := 0) (by decide) ?_
            refine g_istore_3 hx dX4_audit_39 (nx := 40) rfl (by decide) rfl ?_
            refine g_iloadG_n hx dX4_audit_40 rfl (nx := 41) rfl rfl ?_
            refine g_iloadG_n hx dX4_audit_41 rfl (nx := 42) rfl rfl ?_
            refine g_if_eq hx dX4_audit_42 (tg := 49) (by decide) (nx := 45) rfl (fun c42 => ?_) (fun c42 => ?_)
            · refine g_iconst hx dX4_audit_49 (nx := 50) rfl (v := 0) (by decide) ?_
              refine g_iadd hx dX4_audit_50 (nx := 51) rfl ?_
              refine g_istore_1 hx dX4_audit_51 (nx := 52) rfl (by decide) rfl ?_
              refine g_aloadG_n hx dX4_audit_52 rfl (nx := 53) rfl rfl ?_
              refine g_getfo_R hx dX4_audit_53 (nx := 56) rfl fa_X4_91 rfl (r9 := 50) (hM.2 30 rfl) (hM.1 0 _ rfl) (by decide) ?_
              refine g_iloadG_n hx dX4_audit_56 rfl (nx := 57) rfl rfl ?_
              refine g_aloadG_n hx dX4_audit_57 rfl (nx := 58) rfl rfl ?_
              refine g_getfo_R hx dX4_audit_58 (nx := 61) rfl fa_X4_91 rfl (r9 := 50) (hM.2 30 rfl) (hM.1 0 _ rfl) (by decide) ?_
              refine g_iloadG_n hx dX4_audit_61 rfl (nx := 62) rfl rfl ?_
              refine g_baload hx dX4_audit_62 (nx := 63) rfl (hM.1 30 _ rfl) (by decide) iw9 ?_
              rw [ic, e1 50 i (by omega) (by decide), hsi]
              refine g_if_eq hx dX4_audit_63 (tg := 74) (by decide) (nx := 66) rfl (fun c63 => ?_) (fun c63 => ?_)
              · refine g_iconst hx dX4_audit_74 (nx := 75) rfl (v := 0) (by decide) ?_
                refine g_bastore hx dX4_audit_75 (nx := 76) rfl (hM.1 30 _ rfl) (by decide) iw9 rfl ?_
                rw [ic]
                refine g_iinc_2 hx dX4_audit_76 (nx := 79) rfl (by decide) (v := 1) (by decide) rfl ?_
                refine g_goto hx dX4_audit_79 (tg := 9) (by decide) ?_
                rw [← nI_succ]
                first
                  | exact absurd c23 c63
                  | exact absurd c63 c23
                  | (have g1 : zI (I 50 i ≠ 0 ∧ ¬ hlM I L q V ff oo (sc i) (dc i) i) = 0 := zI_f (fun z => z.2 (zI_n.mp c31))
                     have g2 : zI (I 50 i ≠ 0 ∧ hlM I L q V ff oo (sc i) (dc i) i) = 0 := zI_t ⟨c23, zI_n.mp c31⟩
                     refine cast ?_ (ih (i + 1) (au2 I1 50 i 0) L1 (by omega) (fun a b z1 z2 z3 => by rw [au2_n (fun w => z3 w.1)]; exact (fun a b z1 z2 z3 => (e1 a b z1 z2).trans (h1 a b z1 z2 z3)) a b z1 z2 z3) (e2.trans h2) (fun j => ?_) (.int 0))
                     · first | (rw [auN, g1]; done) | (rw [auN, g1]; rfl)
                     · by_cases e : j = i
                       · subst e; rw [au2_s, auS, if_pos (Nat.lt_succ_self _)]; exact g2.symm
                       · rw [au2_n (fun w => e w.2), e1 50 j (by omega) (by decide), h3 j, auS, auS]; by_cases e3 : j < i
                         · rw [if_pos e3, if_pos (by omega)]
                         · rw [if_neg e3, if_neg (by omega)])
              · refine g_iloadG_n hx dX4_audit_66 rfl (nx := 67) rfl rfl ?_
                refine g_if_ne hx dX4_audit_67 (tg := 74) (by decide) (nx := 70) rfl (fun c67 => ?_) (fun c67 => ?_)
                · exact absurd c67 (by decide)
                · refine g_iconst hx dX4_audit_70 (nx := 71) rfl (v := 1) (by decide) ?_
                  refine g_goto hx dX4_audit_71 (tg := 75) (by decide) ?_
                  refine g_bastore hx dX4_audit_75 (nx := 76) rfl (hM.1 30 _ rfl) (by decide) iw9 rfl ?_
                  rw [ic]
                  refine g_iinc_2 hx dX4_audit_76 (nx := 79) rfl (by decide) (v := 1) (by decide) rfl ?_
                  refine g_goto hx dX4_audit_79 (tg := 9) (by decide) ?_
                  rw [← nI_succ]
                  first
                    | exact absurd c23 c63
                    | exact absurd c63 c23
                    | (have g1 : zI (I 50 i ≠ 0 ∧ ¬ hlM I L q V ff oo (sc i) (dc i) i) = 0 := zI_f (fun z => z.2 (zI_n.mp c31))
                       have g2 : zI (I 50 i ≠ 0 ∧ hlM I L q V ff oo (sc i) (dc i) i) = 1 := zI_t ⟨c23, zI_n.mp c31⟩
                       refine cast ?_ (ih (i + 1) (au2 I1 50 i 1) L1 (by omega) (fun a b z1 z2 z3 => by rw [au2_n (fun w => z3 w.1)]; exact (fun a b z1 z2 z3 => (e1 a b z1 z2).trans (h1 a b z1 z2 z3)) a b z1 z2 z3) (e2.trans h2) (fun j => ?_) (.int 0))
                       · first | (rw [auN, g1]; done) | (rw [auN, g1]; rfl)
                       · by_cases e : j = i
                         · subst e; rw [au2_s, auS, if_pos (Nat.lt_succ_self _)]; exact g2.symm
                         · rw [au2_n (fun w => e w.2), e1 50 j (by omega) (by decide), h3 j, auS, auS]; by_cases e3 : j < i
                           · rw [if_pos e3, if_pos (by omega)]
                           · rw [if_neg e3, if_neg (by omega)])
            · exact absurd c42 (by decide)
          · refine g_iconst hx dX4_audit_34 (nx := 35) rfl (v := 1) (by decide) ?_
            refine g_goto hx dX4_audit_35 (tg := 39) (by decide) ?_
            refine g_istore_3 hx dX4_audit_39 (nx := 40) rfl (by decide) rfl ?_
            refine g_iloadG_n hx dX4_audit_40 rfl (nx := 41) rfl rfl ?_
            refine g_iloadG_n hx dX4_audit_41 rfl (nx := 42) rfl rfl ?_
            refine g_if_eq hx dX4_audit_42 (tg := 49) (by decide) (nx := 45) rfl (fun c42 => ?_) (fun c42 => ?_)
            · exact absurd c42 (by decide)
            · refine g_iconst hx dX4_audit_45 (nx := 46) rfl (v := 1) (by decide) ?_
              refine g_goto hx dX4_audit_46 (tg := 50) (by decide) ?_
              refine g_iadd hx dX4_audit_50 (nx := 51) rfl ?_
              refine g_istore_1 hx dX4_audit_51 (nx := 52) rfl (by decide) rfl ?_
              refine g_aloadG_n hx dX4_audit_52 rfl (nx := 53) rfl rfl ?_
              refine g_getfo_R hx dX4_audit_53 (nx := 56) rfl fa_X4_91 rfl (r9 := 50) (hM.2 30 rfl) (hM.1 0 _ rfl) (by decide) ?_
              refine g_iloadG_n hx dX4_audit_56 rfl (nx := 57) rfl rfl ?_
              refine g_aloadG_n hx dX4_audit_57 rfl (nx := 58) rfl rfl ?_
              refine g_getfo_R hx dX4_audit_58 (nx := 61) rfl fa_X4_91 rfl (r9 := 50) (hM.2 30 rfl) (hM.1 0 _ rfl) (by decide) ?_
              refine g_iloadG_n hx dX4_audit_61 rfl (nx := 62) rfl rfl ?_
              refine g_baload hx dX4_audit_62 (nx := 63) rfl (hM.1 30 _ rfl) (by decide) iw9 ?_
              rw [ic, e1 50 i (by omega) (by decide), hsi]
              refine g_if_eq hx dX4_audit_63 (tg := 74) (by decide) (nx := 66) rfl (fun c63 => ?_) (fun c63 => ?_)
              · refine g_iconst hx dX4_audit_74 (nx := 75) rfl (v := 0) (by decide) ?_
                refine g_bastore hx dX4_audit_75 (nx := 76) rfl (hM.1 30 _ rfl) (by decide) iw9 rfl ?_
                rw [ic]
                refine g_iinc_2 hx dX4_audit_76 (nx := 79) rfl (by decide) (v := 1) (by decide) rfl ?_
                refine g_goto hx dX4_audit_79 (tg := 9) (by decide) ?_
                rw [← nI_succ]
                first
                  | exact absurd c23 c63
                  | exact absurd c63 c23
                  | (have g1 : zI (I 50 i ≠ 0 ∧ ¬ hlM I L q V ff oo (sc i) (dc i) i) = 1 := zI_t ⟨c23, zI_z.mp c31⟩
                     have g2 : zI (I 50 i ≠ 0 ∧ hlM I L q V ff oo (sc i) (dc i) i) = 0 := zI_f (fun z => zI_z.mp c31 z.2)
                     refine cast ?_ (ih (i + 1) (au2 I1 50 i 0) L1 (by omega) (fun a b z1 z2 z3 => by rw [au2_n (fun w => z3 w.1)]; exact (fun a b z1 z2 z3 => (e1 a b z1 z2).trans (h1 a b z1 z2 z3)) a b z1 z2 z3) (e2.trans h2) (fun j => ?_) (.int 1))
                     · first | (rw [auN, g1]; done) | (rw [auN, g1]; rfl)
                     · by_cases e : j = i
                       · subst e; rw [au2_s, auS, if_pos (Nat.lt_succ_self _)]; exact g2.symm
                       · rw [au2_n (fun w => e w.2), e1 50 j (by omega) (by decide), h3 j, auS, auS]; by_cases e3 : j < i
                         · rw [if_pos e3, if_pos (by omega)]
                         · rw [if_neg e3, if_neg (by omega)])
              · refine g_iloadG_n hx dX4_audit_66 rfl (nx := 67) rfl rfl ?_
                refine g_if_ne hx dX4_audit_67 (tg := 74) (by decide) (nx := 70) rfl (fun c67 => ?_) (fun c67 => ?_)
                · refine g_iconst hx dX4_audit_74 (nx := 75) rfl (v := 0) (by decide) ?_
                  refine g_bastore hx dX4_audit_75 (nx := 76) rfl (hM.1 30 _ rfl) (by decide) iw9 rfl ?_
                  rw [ic]
                  refine g_iinc_2 hx dX4_audit_76 (nx := 79) rfl (by decide) (v := 1) (by decide) rfl ?_
                  refine g_goto hx dX4_audit_79 (tg := 9) (by decide) ?_
                  rw [← nI_succ]
                  first
                    | exact absurd c23 c63
                    | exact absurd c63 c23
                    | (have g1 : zI (I 50 i ≠ 0 ∧ ¬ hlM I L q V ff oo (sc i) (dc i) i) = 1 := zI_t ⟨c23, zI_z.mp c31⟩
                       have g2 : zI (I 50 i ≠ 0 ∧ hlM I L q V ff oo (sc i) (dc i) i) = 0 := zI_f (fun z => zI_z.mp c31 z.2)
                       refine cast ?_ (ih (i + 1) (au2 I1 50 i 0) L1 (by omega) (fun a b z1 z2 z3 => by rw [au2_n (fun w => z3 w.1)]; exact (fun a b z1 z2 z3 => (e1 a b z1 z2).trans (h1 a b z1 z2 z3)) a b z1 z2 z3) (e2.trans h2) (fun j => ?_) (.int 1))
                       · first | (rw [auN, g1]; done) | (rw [auN, g1]; rfl)
                       · by_cases e : j = i
                         · subst e; rw [au2_s, auS, if_pos (Nat.lt_succ_self _)]; exact g2.symm
                         · rw [au2_n (fun w => e w.2), e1 50 j (by omega) (by decide), h3 j, auS, auS]; by_cases e3 : j < i
                           · rw [if_pos e3, if_pos (by omega)]
                           · rw [if_neg e3, if_neg (by omega)])
                · exact absurd c67 (by decide)
  refine g_aloadG_n hx dX4_audit_0 rfl (nx := 1) rfl rfl ?_
  refine g_iconst hx dX4_audit_1 (nx := 2) rfl (v := 0) (by decide) ?_
  refine g_putfo_i hx dX4_audit_2 (nx := 5) rfl fa_X4_98 rfl rfl rfl (fun r h => by cases h; rfl) (hM.1 0 _ rfl) (by decide) ?_
  refine g_iconst hx dX4_audit_5 (nx := 6) rfl (v := 0) (by decide) ?_
  refine g_istore_1 hx dX4_audit_6 (nx := 7) rfl (by decide) rfl ?_
  refine g_iconst hx dX4_audit_7 (nx := 8) rfl (v := 0) (by decide) ?_
  refine g_istore_2 hx dX4_audit_8 (nx := 9) rfl (by decide) rfl ?_
  exact loop1 nc 0 _ L (Nat.zero_add _) (fun _ _ _ _ _ => rfl) (eL.refl L) (fun j => (au2_n (by omega)).trans (if_neg (Nat.not_lt_zero j)).symm) _

abbrev rmX4_ofClaim : Room := { frames := 2, cells := 0, slots := 0, locals := 43 }
set_option maxHeartbeats 4000000 in
set_option maxRecDepth 100000 in
theorem s_X4_ofClaim {l : Launch} {E : aE} {S : aS} {I : aI} {L : aL} {Rf : aR} {Kr : aK} {Kx : aX} (hst : l.stackTraces = false) {nc : Nat} {x y : Int32} (hM : lyM S Rf) (h21 : I 20 21 = nI nc) (hn40 : nc ≤ 40) (hf1 : ¬ inN x nc → Kr (some (.int 0)) S (au2 I 20 31 1) L Rf) (hf2 : inN x nc → ¬ inN y 6 → Kr (some (.int 0)) S (au2 I 20 31 2) L Rf) (hk0 : ∀ i, i < nc → x = nI i → y = nI 0 → Kr (some (.int (I 42 i))) S (au2 I 20 31 0) L Rf) (hk1 : ∀ i, i < nc → x = nI i → y = nI 1 → Kr (some (.int (I 43 i))) S (au2 I 20 31 0) L Rf) (hk2 : ∀ i, i < nc → x = nI i → y = nI 2 → Kr (some (.int (I 44 i))) S (au2 I 20 31 0) L Rf) (hk3 : ∀ i, i < nc → x = nI i → y = nI 3 → Kr (some (.int (I 48 i))) S (au2 I 20 31 0) L Rf) (hk5 : ∀ i, i < nc → x = nI i → y = nI 5 → Kr (some (.int (ctM (L 49 i) nc))) S (au2 I 20 31 0) L Rf) (hk40 : ∀ i, i < nc → x = nI i → y = nI 4 → I 50 i = 0 → Kr (some (.int (0))) S (au2 I 20 31 0) L Rf) (hk41 : ∀ i, i < nc → x = nI i → y = nI 4 → I 50 i ≠ 0 → Kr (some (.int (1))) S (au2 I 20 31 0) L Rf) : aMet l E yX4_ofClaim cX4_ofClaim 3 (some .int) rmX4_ofClaim [.ref 20, .int x, .int y] (S) (I) (L) (Rf) Kr Kx := by
  refine aMet.of (lv0 := [.ref 20, .int x, .int y]) (z := 0) (by decide +kernel) hst rfl (Nat.le_of_ble_eq_true rfl) ?_
  intro p e s m args below meth c io0 hx hin hno
  have hx : aCx p l s m args meth c RX4 cX4_ofClaim 3 (some .int) E := hx
  refine g_aloadG_n hx dX4_ofClaim_0 rfl (nx := 1) rfl rfl ?_
  refine g_aloadG_n hx dX4_ofClaim_1 rfl (nx := 2) rfl rfl ?_
  refine g_iloadG_n hx dX4_ofClaim_2 rfl (nx := 3) rfl rfl ?_
  refine g_callV_M hx [_] (k' := 0) (n' := 0) dX4_ofClaim_3 (nx := 6) rfl lk_X4_198 (hM.1 0 _ rfl) (by decide) rfl rfl (Nat.le_of_ble_eq_true rfl) (Nat.le_of_ble_eq_true rfl) (Nat.le_of_ble_eq_true rfl) (Nat.le_of_ble_eq_true rfl) (Nat.le_of_ble_eq_true rfl) (Nat.le_of_ble_eq_true rfl) (Nat.le_of_ble_eq_true rfl) (s_X4_isClaim (nc := nc) hst hM h21 hn40 (fun i ih ei => ?_) (fun qi => ?_))
  · subst ei
    have ic : (nI i).toNatClampNeg = i := nI_clamp (by omega)
    have iw9 : vp_in (nI i) 40 := vp_in_nI (by omega) (by decide)
    refine g_if_ne hx dX4_ofClaim_6 (tg := 13) (by decide) (nx := 9) rfl (fun c6 => ?_) (fun c6 => ?_)
    · refine g_iloadG_n hx dX4_ofClaim_13 rfl (nx := 14) rfl rfl ?_
      refine g_iconst hx dX4_ofClaim_14 (nx := 15) rfl (v := 0) (by decide) ?_
      refine g_iconst hx dX4_ofClaim_15 (nx := 16) rfl (v := 5) (by decide) ?_
      refine g_callS_M hx [_, _, _] (k' := 0) (n' := 0) dX4_ofClaim_16 (nx := 19) rfl lk_X4_104 rfl (Nat.le_of_ble_eq_true rfl) (Nat.le_of_ble_eq_true rfl) (Nat.le_of_ble_eq_true rfl) (Nat.le_of_ble_eq_true rfl) (Nat.le_of_ble_eq_true rfl) (Nat.le_of_ble_eq_true rfl) (Nat.le_of_ble_eq_true rfl) (s_X4_isInN hst 0 5 (by decide) (by decide) (fun q => ?_) (fun q => ?_))
      · obtain ⟨w9, hw8, rfl⟩ := rgN_in.mp q
        refine g_if_eq hx dX4_ofClaim_19 (tg := 26) (by decide) (nx := 22) rfl (fun c19 => ?_) (fun c19 => ?_)
        · exact absurd c19 (by decide)
        · refine g_iconst hx dX4_ofClaim_22 (nx := 23) rfl (v := 0) (by decide) ?_
          refine g_goto hx dX4_ofClaim_23 (tg := 27) (by decide) ?_
          refine g_callV_M hx [_] (k' := 0) (n' := 0) dX4_ofClaim_27 (nx := 30) rfl lk_X4_114 (hM.1 0 _ rfl) (by decide) rfl rfl (Nat.le_of_ble_eq_true rfl) (Nat.le_of_ble_eq_true rfl) (Nat.le_of_ble_eq_true rfl) (Nat.le_of_ble_eq_true rfl) (Nat.le_of_ble_eq_true rfl) (Nat.le_of_ble_eq_true rfl) (Nat.le_of_ble_eq_true rfl) (s_X4_can hst hM (fun _ => ?_) (fun z => absurd rfl z))
          refine g_if_ne hx dX4_ofClaim_30 (tg := 35) (by decide) (nx := 33) rfl (fun c30 => ?_) (fun c30 => ?_)
          · refine g_iloadG_n hx dX4_ofClaim_35 rfl (nx := 36) rfl rfl ?_
            match w9, hw8 with
            | 0, _ =>
              refine g_tabIn hx dX4_ofClaim_36 (off := 36) (tg := 72) (by decide) (by decide) (by decide) (by decide) ?_
              refine g_aloadG_n hx dX4_ofClaim_72 rfl (nx := 73) rfl rfl ?_
              refine g_getfo_R hx dX4_ofClaim_73 (nx := 76) rfl fa_X4_67 rfl (r9 := 42) (hM.2 22 rfl) (hM.1 0 _ rfl) (by decide) ?_
              refine g_iloadG_n hx dX4_ofClaim_76 rfl (nx := 77) rfl rfl ?_
              refine g_iaload hx dX4_ofClaim_77 (nx := 78) rfl (hM.1 22 _ rfl) (by decide) iw9 ?_
              refine g_iret hx dX4_ofClaim_78 rfl rfl (Nat.le_of_ble_eq_true rfl) (Nat.le_of_ble_eq_true rfl) ?_
              rw [ic, au2_n (by omega)]
              exact hk0 i ih rfl rfl
            | 1, _ =>
              refine g_tabIn hx dX4_ofClaim_36 (off := 43) (tg := 79) (by decide) (by decide) (by decide) (by decide) ?_
              refine g_aloadG_n hx dX4_ofClaim_79 rfl (nx := 80) rfl rfl ?_
              refine g_getfo_R hx dX4_ofClaim_80 (nx := 83) rfl fa_X4_70 rfl (r9 := 43) (hM.2 23 rfl) (hM.1 0 _ rfl) (by decide) ?_
              refine g_iloadG_n hx dX4_ofClaim_83 rfl (nx := 84) rfl rfl ?_
              refine g_iaload hx dX4_ofClaim_84 (nx := 85) rfl (hM.1 23 _ rfl) (by decide) iw9 ?_
              refine g_iret hx dX4_ofClaim_85 rfl rfl (Nat.le_of_ble_eq_true rfl) (Nat.le_of_ble_eq_true rfl) ?_
              rw [ic, au2_n (by omega)]
              exact hk1 i ih rfl rfl
            | 2, _ =>
              refine g_tabIn hx dX4_ofClaim_36 (off := 50) (tg := 86) (by decide) (by decide) (by decide) (by decide) ?_
              refine g_aloadG_n hx dX4_ofClaim_86 rfl (nx := 87) rfl rfl ?_
              refine g_getfo_R hx dX4_ofClaim_87 (nx := 90) rfl fa_X4_73 rfl (r9 := 44) (hM.2 24 rfl) (hM.1 0 _ rfl) (by decide) ?_
              refine g_iloadG_n hx dX4_ofClaim_90 rfl (nx := 91) rfl rfl ?_
              refine g_iaload hx dX4_ofClaim_91 (nx := 92) rfl (hM.1 24 _ rfl) (by decide) iw9 ?_
              refine g_iret hx dX4_ofClaim_92 rfl rfl (Nat.le_of_ble_eq_true rfl) (Nat.le_of_ble_eq_true rfl) ?_
              rw [ic, au2_n (by omega)]
              exact hk2 i ih rfl rfl
            | 3, _ =>
              refine g_tabIn hx dX4_ofClaim_36 (off := 57) (tg := 93) (by decide) (by decide) (by decide) (by decide) ?_
              refine g_aloadG_n hx dX4_ofClaim_93 rfl (nx := 94) rfl rfl ?_
              refine g_getfo_R hx dX4_ofClaim_94 (nx := 97) rfl fa_X4_85 rfl (r9 := 48) (hM.2 28 rfl) (hM.1 0 _ rfl) (by decide) ?_
              refine g_iloadG_n hx dX4_ofClaim_97 rfl (nx := 98) rfl rfl ?_
              refine g_iaload hx dX4_ofClaim_98 (nx := 99) rfl (hM.1 28 _ rfl) (by decide) iw9 ?_
              refine g_iret hx dX4_ofClaim_99 rfl rfl (Nat.le_of_ble_eq_true rfl) (Nat.le_of_ble_eq_true rfl) ?_
              rw [ic, au2_n (by omega)]
              exact hk3 i ih rfl rfl
            | 4, _ =>
              refine g_tabIn hx dX4_ofClaim_36 (off := 64) (tg := 100) (by decide) (by decide) (by decide) (by decide) ?_
              refine g_aloadG_n hx dX4_ofClaim_100 rfl (nx := 101) rfl rfl ?_
              refine g_getfo_R hx dX4_ofClaim_101 (nx := 104) rfl fa_X4_91 rfl (r9 := 50) (hM.2 30 rfl) (hM.1 0 _ rfl) (by decide) ?_
              refine g_iloadG_n hx dX4_ofClaim_104 rfl (nx := 105) rfl rfl ?_
              refine g_baload hx dX4_ofClaim_105 (nx := 106) rfl (hM.1 30 _ rfl) (by decide) iw9 ?_
              rw [ic, au2_n (by omega)]
              refine g_if_eq hx dX4_ofClaim_106 (tg := 113) (by decide) (nx := 109) rfl (fun c106 => ?_) (fun c106 => ?_)
              · refine g_iconst hx dX4_ofClaim_113 (nx := 114) rfl (v := 0) (by decide) ?_
                refine g_iret hx dX4_ofClaim_114 rfl rfl (Nat.le_of_ble_eq_true rfl) (Nat.le_of_ble_eq_true rfl) ?_
                first | exact hk40 i ih rfl rfl c106 | exact hk41 i ih rfl rfl c106
              · refine g_iconst hx dX4_ofClaim_109 (nx := 110) rfl (v := 1) (by decide) ?_
                refine g_goto hx dX4_ofClaim_110 (tg := 114) (by decide) ?_
                refine g_iret hx dX4_ofClaim_114 rfl rfl (Nat.le_of_ble_eq_true rfl) (Nat.le_of_ble_eq_true rfl) ?_
                first | exact hk40 i ih rfl rfl c106 | exact hk41 i ih rfl rfl c106
            | 5, _ =>
              refine g_tabOut hx dX4_ofClaim_36 (tg := 115) (by decide) (by decide) ?_
              refine g_aloadG_n hx dX4_ofClaim_115 rfl (nx := 116) rfl rfl ?_
              refine g_iloadG_n hx dX4_ofClaim_116 rfl (nx := 117) rfl rfl ?_
              refine g_callV_M hx [_] (k' := 0) (n' := 0) dX4_ofClaim_117 (nx := 120) rfl lk_X4_205 (hM.1 0 _ rfl) (by decide) rfl rfl (Nat.le_of_ble_eq_true rfl) (Nat.le_of_ble_eq_true rfl) (Nat.le_of_ble_eq_true rfl) (Nat.le_of_ble_eq_true rfl) (Nat.le_of_ble_eq_true rfl) (Nat.le_of_ble_eq_true rfl) (Nat.le_of_ble_eq_true rfl) (s_X4_citesOf (nc := nc) (i9 := i) hst hM (by rw [au2_n (by omega)]; exact h21) hn40 (by omega) ?_)
              refine g_iret hx dX4_ofClaim_120 rfl rfl (Nat.le_of_ble_eq_true rfl) (Nat.le_of_ble_eq_true rfl) ?_
              exact hk5 i ih rfl rfl
            | w9 + 6, hw8 => exact absurd hw8 (by omega)
          · exact absurd c30 (by decide)
      · have hw9 : ¬ inN y 6 := fun z => q (rgN_in.mpr z)
        refine g_if_eq hx dX4_ofClaim_19 (tg := 26) (by decide) (nx := 22) rfl (fun c19 => ?_) (fun c19 => ?_)
        · refine g_iconst hx dX4_ofClaim_26 (nx := 27) rfl (v := 2) (by decide) ?_
          refine g_callV_M hx [_] (k' := 0) (n' := 0) dX4_ofClaim_27 (nx := 30) rfl lk_X4_114 (hM.1 0 _ rfl) (by decide) rfl rfl (Nat.le_of_ble_eq_true rfl) (Nat.le_of_ble_eq_true rfl) (Nat.le_of_ble_eq_true rfl) (Nat.le_of_ble_eq_true rfl) (Nat.le_of_ble_eq_true rfl) (Nat.le_of_ble_eq_true rfl) (Nat.le_of_ble_eq_true rfl) (s_X4_can hst hM (fun z => absurd z (by decide)) (fun _ => ?_))
          refine g_if_ne hx dX4_ofClaim_30 (tg := 35) (by decide) (nx := 33) rfl (fun c30 => ?_) (fun c30 => ?_)
          · exact absurd c30 (by decide)
          · refine g_iconst hx dX4_ofClaim_33 (nx := 34) rfl (v := 0) (by decide) ?_
            refine g_iret hx dX4_ofClaim_34 rfl rfl (Nat.le_of_ble_eq_true rfl) (Nat.le_of_ble_eq_true rfl) ?_
            first | exact hf1 qi | exact hf2 ⟨i, ih, rfl⟩ hw9
        · exact absurd c19 (by decide)
    · exact absurd c6 (by decide)
  · refine g_if_ne hx dX4_ofClaim_6 (tg := 13) (by decide) (nx := 9) rfl (fun c6 => ?_) (fun c6 => ?_)
    · exact absurd c6 (by decide)
    · refine g_iconst hx dX4_ofClaim_9 (nx := 10) rfl (v := 1) (by decide) ?_
      refine g_goto hx dX4_ofClaim_10 (tg := 27) (by decide) ?_
      refine g_callV_M hx [_] (k' := 0) (n' := 0) dX4_ofClaim_27 (nx := 30) rfl lk_X4_114 (hM.1 0 _ rfl) (by decide) rfl rfl (Nat.le_of_ble_eq_true rfl) (Nat.le_of_ble_eq_true rfl) (Nat.le_of_ble_eq_true rfl) (Nat.le_of_ble_eq_true rfl) (Nat.le_of_ble_eq_true rfl) (Nat.le_of_ble_eq_true rfl) (Nat.le_of_ble_eq_true rfl) (s_X4_can hst hM (fun z => absurd z (by decide)) (fun _ => ?_))
      refine g_if_ne hx dX4_ofClaim_30 (tg := 35) (by decide) (nx := 33) rfl (fun c30 => ?_) (fun c30 => ?_)
      · exact absurd c30 (by decide)
      · refine g_iconst hx dX4_ofClaim_33 (nx := 34) rfl (v := 0) (by decide) ?_
        refine g_iret hx dX4_ofClaim_34 rfl rfl (Nat.le_of_ble_eq_true rfl) (Nat.le_of_ble_eq_true rfl) ?_
        first | exact hf1 qi | exact hf2 ⟨i, ih, rfl⟩ hw9

abbrev rmX4_isSound : Room := { frames := 6, cells := 0, slots := 0, locals := 139 }
set_option maxHeartbeats 4000000 in
set_option maxRecDepth 100000 in
theorem s_X4_isSound {l : Launch} {E : aE} {S : aS} {I : aI} {L : aL} {Rf : aR} {Kr : aK} {Kx : aX} (hst : l.stackTraces = false) {n nc : Nat} {sc dc ln : Nat → Nat} {x : Int32} {q : Nat → Nat → Bool} {V : Nat → Nat → Int64} {ff : Nat → Nat → Int32} {oo : Nat → Nat} (hM : lyM S Rf) (h21 : I 20 21 = nI nc) (hT : tbM I) (hl : okM I n q V ff oo) (hn6 : n ≤ 6) (hn40 : nc ≤ 40) (hcl : clM I n nc sc dc ln) (hf1 : ¬ inN x nc → Kr (some (.int 0)) S (au2 I 20 31 1) L Rf) (hk : ∀ i, i < nc → x = nI i → ∀ I' L', eM I' (au2 I 20 31 0) → eL L' L → Kr (some (.int (zI (hlM I L q V ff oo (sc i) (dc i) i)))) S I' L' Rf) : aMet l E yX4_isSound cX4_isSound 2 (some .boolean) rmX4_isSound [.ref 20, .int x] (S) (I) (L) (Rf) Kr Kx := by
  refine aMet.of (lv0 := [.ref 20, .int x]) (z := 0) (by decide +kernel) hst rfl (Nat.le_of_ble_eq_true rfl) ?_
  intro p e s m args below meth c io0 hx hin hno
  have hx : aCx p l s m args meth c RX4 cX4_isSound 2 (some .boolean) E := hx
  refine g_aloadG_n hx dX4_isSound_0 rfl (nx := 1) rfl rfl ?_
  refine g_aloadG_n hx dX4_isSound_1 rfl (nx := 2) rfl rfl ?_
  refine g_iloadG_n hx dX4_isSound_2 rfl (nx := 3) rfl rfl ?_
  refine g_callV_M hx [_] (k' := 0) (n' := 0) dX4_isSound_3 (nx := 6) rfl lk_X4_198 (hM.1 0 _ rfl) (by decide) rfl rfl (Nat.le_of_ble_eq_true rfl) (Nat.le_of_ble_eq_true rfl) (Nat.le_of_ble_eq_true rfl) (Nat.le_of_ble_eq_true rfl) (Nat.le_of_ble_eq_true rfl) (Nat.le_of_ble_eq_true rfl) (Nat.le_of_ble_eq_true rfl) (s_X4_isClaim (nc := nc) hst hM h21 hn40 (fun i ih ei => ?_) (fun qi => ?_))
  · subst ei
    have ic : (nI i).toNatClampNeg = i := nI_clamp (by omega)
    have iw9 : vp_in (nI i) 40 := vp_in_nI (by omega) (by decide)
    refine g_if_eq hx dX4_isSound_6 (tg := 13) (by decide) (nx := 9) rfl (fun c6 => ?_) (fun c6 => ?_)
    · exact absurd c6 (by decide)
    · refine g_iconst hx dX4_isSound_9 (nx := 10) rfl (v := 0) (by decide) ?_
      refine g_goto hx dX4_isSound_10 (tg := 14) (by decide) ?_
      refine g_callV_M hx [_] (k' := 0) (n' := 0) dX4_isSound_14 (nx := 17) rfl lk_X4_114 (hM.1 0 _ rfl) (by decide) rfl rfl (Nat.le_of_ble_eq_true rfl) (Nat.le_of_ble_eq_true rfl) (Nat.le_of_ble_eq_true rfl) (Nat.le_of_ble_eq_true rfl) (Nat.le_of_ble_eq_true rfl) (Nat.le_of_ble_eq_true rfl) (Nat.le_of_ble_eq_true rfl) (s_X4_can hst hM (fun _ => ?_) (fun z => absurd rfl z))
      refine g_if_eq hx dX4_isSound_17 (tg := 32) (by decide) (nx := 20) rfl (fun c17 => ?_) (fun c17 => ?_)
      · exact absurd c17 (by decide)
      · refine g_aloadG_n hx dX4_isSound_20 rfl (nx := 21) rfl rfl ?_
        refine g_iloadG_n hx dX4_isSound_21 rfl (nx := 22) rfl rfl ?_
        refine g_callV_M hx [_] (k' := 0) (n' := 0) dX4_isSound_22 (nx := 25) rfl lk_X4_221 (hM.1 0 _ rfl) (by decide) rfl rfl (Nat.le_of_ble_eq_true rfl) (Nat.le_of_ble_eq_true rfl) (Nat.le_of_ble_eq_true rfl) (Nat.le_of_ble_eq_true rfl) (Nat.le_of_ble_eq_true rfl) (Nat.le_of_ble_eq_true rfl) (Nat.le_of_ble_eq_true rfl) (s_X4_sound (n := n) (nc := nc) (i := i) hst hM (hT.y (fun b => au2_n (by omega))) (hl.x (fun a b z => au2_n (by omega))) hn6 hn40 (hcl.x (fun a b z1 z2 => au2_n (by omega))) ih (fun I1 L1 e1 e2 => ?_))
        rw [zI_c (hlM_x (I := I) (L := L) (fun a b z1 z2 z3 => au2_n (by omega)) (eL.refl L))]
        refine g_if_eq hx dX4_isSound_25 (tg := 32) (by decide) (nx := 28) rfl (fun c25 => ?_) (fun c25 => ?_)
        · refine g_iconst hx dX4_isSound_32 (nx := 33) rfl (v := 0) (by decide) ?_
          refine g_iret hx dX4_isSound_33 rfl rfl (Nat.le_of_ble_eq_true rfl) (Nat.le_of_ble_eq_true rfl) ?_
          first
            | exact hf1 qi
            | (have K := hk i ih rfl I1 L1 e1 e2
               rw [zI_f (zI_z.mp c25)] at K
               exact K)
            | (have K := hk i ih rfl I1 L1 e1 e2
               rw [zI_t (zI_n.mp c25)] at K
               exact K)
        · refine g_iconst hx dX4_isSound_28 (nx := 29) rfl (v := 1) (by decide) ?_
          refine g_goto hx dX4_isSound_29 (tg := 33) (by decide) ?_
          refine g_iret hx dX4_isSound_33 rfl rfl (Nat.le_of_ble_eq_true rfl) (Nat.le_of_ble_eq_true rfl) ?_
          first
            | exact hf1 qi
            | (have K := hk i ih rfl I1 L1 e1 e2
               rw [zI_f (zI_z.mp c25)] at K
               exact K)
            | (have K := hk i ih rfl I1 L1 e1 e2
               rw [zI_t (zI_n.mp c25)] at K
               exact K)
  · refine g_if_eq hx dX4_isSound_6 (tg := 13) (by decide) (nx := 9) rfl (fun c6 => ?_) (fun c6 => ?_)
    · refine g_iconst hx dX4_isSound_13 (nx := 14) rfl (v := 1) (by decide) ?_
      refine g_callV_M hx [_] (k' := 0) (n' := 0) dX4_isSound_14 (nx := 17) rfl lk_X4_114 (hM.1 0 _ rfl) (by decide) rfl rfl (Nat.le_of_ble_eq_true rfl) (Nat.le_of_ble_eq_true rfl) (Nat.le_of_ble_eq_true rfl) (Nat.le_of_ble_eq_true rfl) (Nat.le_of_ble_eq_true rfl) (Nat.le_of_ble_eq_true rfl) (Nat.le_of_ble_eq_true rfl) (s_X4_can hst hM (fun z => absurd z (by decide)) (fun _ => ?_))
      refine g_if_eq hx dX4_isSound_17 (tg := 32) (by decide) (nx := 20) rfl (fun c17 => ?_) (fun c17 => ?_)
      · refine g_iconst hx dX4_isSound_32 (nx := 33) rfl (v := 0) (by decide) ?_
        refine g_iret hx dX4_isSound_33 rfl rfl (Nat.le_of_ble_eq_true rfl) (Nat.le_of_ble_eq_true rfl) ?_
        first
          | exact hf1 qi
          | (have K := hk i ih rfl I1 L1 e1 e2
             rw [zI_f (zI_z.mp c25)] at K
             exact K)
          | (have K := hk i ih rfl I1 L1 e1 e2
             rw [zI_t (zI_n.mp c25)] at K
             exact K)
      · exact absurd c17 (by decide)
    · exact absurd c6 (by decide)

