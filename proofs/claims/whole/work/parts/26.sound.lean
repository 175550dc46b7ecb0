/-! the reference: claims that fall, that are sound -/
theorem zI_n {p : Prop} : zI p ≠ 0 ↔ p := by
  by_cases h : p
  · rw [zI_t h]; exact ⟨fun _ => h, fun _ => by decide⟩
  · rw [zI_f h]; exact ⟨fun z => absurd rfl z, fun z => absurd z h⟩
theorem zI_z {p : Prop} : zI p = 0 ↔ ¬ p := ⟨fun z w => zI_n.mpr w z, zI_f⟩
theorem zI_c {p q : Prop} (h : p ↔ q) : zI p = zI q := by rw [propext h]
def faP (ci : Nat → Int64) (st : Nat → Int32) (k m : Nat) : Prop := ∃ j, j < m ∧ bqP (ci k) j ∧ st j = 0
noncomputable def foM (ci : Nat → Int64) (sd : Nat → Int32) : Nat → Nat → Int32
  | 0 => sd
  | k + 1 => fun j => if j = k then zI (sd k ≠ 0 ∧ ¬ faP ci (foM ci sd k) k k) else foM ci sd k j
noncomputable def cnM (ci : Nat → Int64) (sd : Nat → Int32) : Nat → Int32
  | 0 => 0
  | k + 1 => cnM ci sd k + zI (faP ci (foM ci sd k) k k ∧ sd k ≠ 0)
theorem foM_s (ci : Nat → Int64) (sd : Nat → Int32) (k j : Nat) : foM ci sd (k + 1) j = if j = k then zI (sd k ≠ 0 ∧ ¬ faP ci (foM ci sd k) k k) else foM ci sd k j := rfl
theorem foM_ge (ci : Nat → Int64) (sd : Nat → Int32) : ∀ k j, k ≤ j → foM ci sd k j = sd j := by
  intro k
  induction k with
  | zero => intro j _; rfl
  | succ k ih => intro j hj; rw [foM_s, if_neg (by omega)]; exact ih j (by omega)
theorem faP_s {ci : Nat → Int64} {st : Nat → Int32} {k m : Nat} : faP ci st k (m + 1) ↔ faP ci st k m ∨ (bqP (ci k) m ∧ st m = 0) := by
  constructor
  · rintro ⟨j, h1, h2, h3⟩
    rcases Nat.eq_or_lt_of_le (Nat.le_of_lt_succ h1) with e | e
    · subst e; exact Or.inr ⟨h2, h3⟩
    · exact Or.inl ⟨j, e, h2, h3⟩
  · rintro (⟨j, h1, h2, h3⟩ | ⟨h2, h3⟩)
    · exact ⟨j, by omega, h2, h3⟩
    · exact ⟨m, by omega, h2, h3⟩
abbrev rmX4_follows : Room := { frames := 0, cells := 0, slots := 0, locals := 0 }
set_option maxHeartbeats 4000000 in
set_option maxRecDepth 100000 in
theorem s_X4_follows {l : Launch} {E : aE} {S : aS} {I : aI} {L : aL} {Rf : aR} {Kr : aK} {Kx : aX} (hst : l.stackTraces = false) {nc : Nat} (hM : lyM S Rf) (h21 : I 20 21 = nI nc) (hn40 : nc ≤ 40) (hk : ∀ I', (∀ a b, a ≠ 50 → I' a b = I a b) → (∀ j, I' 50 j = foM (fun k => L 49 k) (fun k => I 50 k) nc j) → Kr (some (.int (cnM (fun k => L 49 k) (fun k => I 50 k) nc))) S I' L Rf) : aMet l E yX4_follows cX4_follows 5 (some .int) rmX4_follows [.ref 20] (S) (I) (L) (Rf) Kr Kx := by
  refine aMet.of (lv0 := [.ref 20, aU, aU, aU, aU]) (z := 4) (by decide +kernel) hst rfl (Nat.le_of_ble_eq_true rfl) ?_
  intro p e s m args below meth c io0 hx hin hno
  have hx : aCx p l s m args meth c RX4 cX4_follows 5 (some .int) E := hx
  have inner : ∀ (i : Nat) (I' : aI), i < nc → (∀ j, I' 50 j = foM (fun k => L 49 k) (fun k => I 50 k) i j) → aG p l e rmX4_follows s m args below meth c E io0 S 5 (vx_MQ below (aQc E io0 S Kr) (aXC E io0 S Kx) args s rmX4_follows.cells rmX4_follows.slots (aW E)) 65 [.ref 20, .int (cnM (fun k => L 49 k) (fun k => I 50 k) i), .int (nI i), .int (zI (faP (fun k => L 49 k) (foM (fun k => L 49 k) (fun k => I 50 k) i) i i)), .int (nI i)] [] (S) (I') (L) (Rf) 0 0 → ∀ (r j : Nat), j + r = i → aG p l e rmX4_follows s m args below meth c E io0 S 5 (vx_MQ below (aQc E io0 S Kr) (aXC E io0 S Kx) args s rmX4_follows.cells rmX4_follows.slots (aW E)) 17 [.ref 20, .int (cnM (fun k => L 49 k) (fun k => I 50 k) i), .int (nI i), .int (zI (faP (fun k => L 49 k) (foM (fun k => L 49 k) (fun k => I 50 k) i) i j)), .int (nI j)] [] (S) (I') (L) (Rf) 0 0 := by
    intro i I' hi0 h2 knext r
    have hic : (nI i).toNatClampNeg = i := nI_clamp (by omega)
    have hin : vp_in (nI i) 40 := vp_in_nI (by omega) (by decide)
    induction r with
    | zero =>
      intro j hj
      have hj : j = i := by omega
      subst hj
      refine g_iloadG hx dX4_follows_17 (nx := 19) rfl rfl ?_
      refine g_iloadG_n hx dX4_follows_19 rfl (nx := 20) rfl rfl ?_
      refine g_icmp_ge hx dX4_follows_20 (tg := 65) (by decide) (nx := 23) rfl (fun c20 => ?_) (fun c20 => ?_)
      · exact knext
      · exact absurd (Int32.le_refl _) c20
    | succ r ih =>
      intro j hj
      have hjc : (nI j).toNatClampNeg = j := nI_clamp (by omega)
      have hjn : vp_in (nI j) 40 := vp_in_nI (by omega) (by decide)
      have K := ih (j + 1) (by omega)
      refine g_iloadG hx dX4_follows_17 (nx := 19) rfl rfl ?_
      refine g_iloadG_n hx dX4_follows_19 rfl (nx := 20) rfl rfl ?_
      refine g_icmp_ge hx dX4_follows_20 (tg := 65) (by decide) (nx := 23) rfl (fun c20 => ?_) (fun c20 => ?_)
      · exact absurd c20 (nI_ge (by omega) (by omega))
      · refine g_iloadG_n hx dX4_follows_23 rfl (nx := 24) rfl rfl ?_
        refine g_if_ne hx dX4_follows_24 (tg := 53) (by decide) (nx := 27) rfl (fun c24 => ?_) (fun c24 => ?_)
        · refine g_iconst hx dX4_follows_53 (nx := 54) rfl (v := 1) (by decide) ?_
          refine g_goto hx dX4_follows_54 (tg := 58) (by decide) ?_
          refine g_istore_3 hx dX4_follows_58 (nx := 59) rfl (by decide) rfl ?_
          refine g_iinc_4 hx dX4_follows_59 (nx := 62) rfl (by decide) (v := 1) (by decide) rfl ?_
          refine g_goto hx dX4_follows_62 (tg := 17) (by decide) ?_
          rw [← nI_succ]
          have e1 : zI (faP (fun k => L 49 k) (foM (fun k => L 49 k) (fun k => I 50 k) i) i (j + 1)) = 1 := zI_t (faP_s.mpr (by first | exact Or.inl (zI_n.mp c24) | exact Or.inr ⟨(lg_cmp_eq _ _).mp c40, (h2 j).symm.trans c50⟩))
          rw [e1] at K
          exact K
        · refine g_aloadG_n hx dX4_follows_27 rfl (nx := 28) rfl rfl ?_
          refine g_getfo_R hx dX4_follows_28 (nx := 31) rfl fa_X4_88 rfl (r9 := 49) (hM.2 29 rfl) (hM.1 0 _ rfl) (by decide) ?_
          refine g_iloadG_n hx dX4_follows_31 rfl (nx := 32) rfl rfl ?_
          refine g_laload hx dX4_follows_32 (nx := 33) rfl (hM.1 29 _ rfl) (by decide) hin ?_
          rw [hic]
          refine g_iloadG hx dX4_follows_33 (nx := 35) rfl rfl ?_
          refine g_lshr hx dX4_follows_35 (nx := 36) rfl ?_
          refine g_lconst hx dX4_follows_36 (nx := 37) rfl (v := 1) (by decide) ?_
          refine g_land hx dX4_follows_37 (nx := 38) rfl ?_
          refine g_lconst hx dX4_follows_38 (nx := 39) rfl (v := 1) (by decide) ?_
          refine g_lcmp hx dX4_follows_39 (nx := 40) rfl ?_
          refine g_if_ne hx dX4_follows_40 (tg := 57) (by decide) (nx := 43) rfl (fun c40 => ?_) (fun c40 => ?_)
          · refine g_iconst hx dX4_follows_57 (nx := 58) rfl (v := 0) (by decide) ?_
            refine g_istore_3 hx dX4_follows_58 (nx := 59) rfl (by decide) rfl ?_
            refine g_iinc_4 hx dX4_follows_59 (nx := 62) rfl (by decide) (v := 1) (by decide) rfl ?_
            refine g_goto hx dX4_follows_62 (tg := 17) (by decide) ?_
            rw [← nI_succ]
            have e1 : zI (faP (fun k => L 49 k) (foM (fun k => L 49 k) (fun k => I 50 k) i) i (j + 1)) = 0 := zI_f (fun z => by first | exact (faP_s.mp z).elim (zI_z.mp c24) (fun w => c40 ((lg_cmp_eq _ _).mpr w.1)) | exact (faP_s.mp z).elim (zI_z.mp c24) (fun w => c50 ((h2 j).trans w.2)))
            rw [e1] at K
            exact K
          · refine g_aloadG_n hx dX4_follows_43 rfl (nx := 44) rfl rfl ?_
            refine g_getfo_R hx dX4_follows_44 (nx := 47) rfl fa_X4_91 rfl (r9 := 50) (hM.2 30 rfl) (hM.1 0 _ rfl) (by decide) ?_
            refine g_iloadG hx dX4_follows_47 (nx := 49) rfl rfl ?_
            refine g_baload hx dX4_follows_49 (nx := 50) rfl (hM.1 30 _ rfl) (by decide) hjn ?_
            rw [hjc]
            refine g_if_ne hx dX4_follows_50 (tg := 57) (by decide) (nx := 53) rfl (fun c50 => ?_) (fun c50 => ?_)
            · refine g_iconst hx dX4_follows_57 (nx := 58) rfl (v := 0) (by decide) ?_
              refine g_istore_3 hx dX4_follows_58 (nx := 59) rfl (by decide) rfl ?_
              refine g_iinc_4 hx dX4_follows_59 (nx := 62) rfl (by decide) (v := 1) (by decide) rfl ?_
              refine g_goto hx dX4_follows_62 (tg := 17) (by decide) ?_
              rw [← nI_succ]
              have e1 : zI (faP (fun k => L 49 k) (foM (fun k => L 49 k) (fun k => I 50 k) i) i (j + 1)) = 0 := zI_f (fun z => by first | exact (faP_s.mp z).elim (zI_z.mp c24) (fun w => c40 ((lg_cmp_eq _ _).mpr w.1)) | exact (faP_s.mp z).elim (zI_z.mp c24) (fun w => c50 ((h2 j).trans w.2)))
              rw [e1] at K
              exact K
            · refine g_iconst hx dX4_follows_53 (nx := 54) rfl (v := 1) (by decide) ?_
              refine g_goto hx dX4_follows_54 (tg := 58) (by decide) ?_
              refine g_istore_3 hx dX4_follows_58 (nx := 59) rfl (by decide) rfl ?_
              refine g_iinc_4 hx dX4_follows_59 (nx := 62) rfl (by decide) (v := 1) (by decide) rfl ?_
              refine g_goto hx dX4_follows_62 (tg := 17) (by decide) ?_
              rw [← nI_succ]
              have e1 : zI (faP (fun k => L 49 k) (foM (fun k => L 49 k) (fun k => I 50 k) i) i (j + 1)) = 1 := zI_t (faP_s.mpr (by first | exact Or.inl (zI_n.mp c24) | exact Or.inr ⟨(lg_cmp_eq _ _).mp c40, (h2 j).symm.trans c50⟩))
              rw [e1] at K
              exact K
  have loop1 : ∀ (r i : Nat) (I' : aI), i + r = nc → (∀ a b, a ≠ 50 → I' a b = I a b) → (∀ j, I' 50 j = foM (fun k => L 49 k) (fun k => I 50 k) i j) → ∀ w1 w2, aG p l e rmX4_follows s m args below meth c E io0 S 5 (vx_MQ below (aQc E io0 S Kr) (aXC E io0 S Kx) args s rmX4_follows.cells rmX4_follows.slots (aW E)) 4 [.ref 20, .int (cnM (fun k => L 49 k) (fun k => I 50 k) i), .int (nI i), w1, w2] [] (S) (I') (L) (Rf) 0 0 := by
    intro r
    induction r with
    | zero =>
      intro i I' hi h1 h2 w1 w2
      have hi : i = nc := by omega
      subst hi
      refine g_iloadG_n hx dX4_follows_4 rfl (nx := 5) rfl rfl ?_
      refine g_aloadG_n hx dX4_follows_5 rfl (nx := 6) rfl rfl ?_
      refine g_getfo_i hx dX4_follows_6 (nx := 9) rfl fa_X4_108 rfl (hM.1 0 _ rfl) (by decide) ?_
      refine g_icmp_ge hx dX4_follows_9 (tg := 116) (by decide) (nx := 12) rfl (fun c9 => ?_) (fun c9 => ?_)
      · refine g_iloadG_n hx dX4_follows_116 rfl (nx := 117) rfl rfl ?_
        refine g_iret hx dX4_follows_117 rfl rfl (Nat.le_of_ble_eq_true rfl) (Nat.le_of_ble_eq_true rfl) ?_
        exact hk I' h1 h2
      · exact absurd (by rw [h1 20 21 (by decide), h21]; exact Int32.le_refl _) c9
    | succ r ih =>
      intro i I' hi h1 h2 w1 w2
      have hic : (nI i).toNatClampNeg = i := nI_clamp (by omega)
      have hin : vp_in (nI i) 40 := vp_in_nI (by omega) (by decide)
      have e0 : zI (faP (fun k => L 49 k) (foM (fun k => L 49 k) (fun k => I 50 k) i) i 0) = 0 := zI_f (fun ⟨j, h, _⟩ => absurd h (Nat.not_lt_zero j))
      refine g_iloadG_n hx dX4_follows_4 rfl (nx := 5) rfl rfl ?_
      refine g_aloadG_n hx dX4_follows_5 rfl (nx := 6) rfl rfl ?_
      refine g_getfo_i hx dX4_follows_6 (nx := 9) rfl fa_X4_108 rfl (hM.1 0 _ rfl) (by decide) ?_
      refine g_icmp_ge hx dX4_follows_9 (tg := 116) (by decide) (nx := 12) rfl (fun c9 => ?_) (fun c9 => ?_)
      · exact absurd c9 (by rw [h1 20 21 (by decide), h21]; exact nI_ge (by omega) (by omega))
      · refine g_iconst hx dX4_follows_12 (nx := 13) rfl (v := 0) (by decide) ?_
        refine g_istore_3 hx dX4_follows_13 (nx := 14) rfl (by decide) rfl ?_
        refine g_iconst hx dX4_follows_14 (nx := 15) rfl (v := 0) (by decide) ?_
        refine g_istore_4 hx dX4_follows_15 (nx := 17) rfl (by decide) rfl ?_
        suffices K : aG p l e rmX4_follows s m args below meth c E io0 S 5 (vx_MQ below (aQc E io0 S Kr) (aXC E io0 S Kx) args s rmX4_follows.cells rmX4_follows.slots (aW E)) 17 [.ref 20, .int (cnM (fun k => L 49 k) (fun k => I 50 k) i), .int (nI i), .int (zI (faP (fun k => L 49 k) (foM (fun k => L 49 k) (fun k => I 50 k) i) i 0)), .int (nI 0)] [] (S) (I') (L) (Rf) 0 0 by
          rw [e0] at K; exact K
        refine inner i I' (by omega) h2 ?_ i 0 (Nat.zero_add _)
        refine g_iloadG_n hx dX4_follows_65 rfl (nx := 66) rfl rfl ?_
        refine g_iloadG_n hx dX4_follows_66 rfl (nx := 67) rfl rfl ?_
        refine g_if_eq hx dX4_follows_67 (tg := 83) (by decide) (nx := 70) rfl (fun c67 => ?_) (fun c67 => ?_)
        · refine g_iconst hx dX4_follows_83 (nx := 84) rfl (v := 0) (by decide) ?_
          refine g_iadd hx dX4_follows_84 (nx := 85) rfl ?_
          refine g_istore_1 hx dX4_follows_85 (nx := 86) rfl (by decide) rfl ?_
          refine g_aloadG_n hx dX4_follows_86 rfl (nx := 87) rfl rfl ?_
          refine g_getfo_R hx dX4_follows_87 (nx := 90) rfl fa_X4_91 rfl (r9 := 50) (hM.2 30 rfl) (hM.1 0 _ rfl) (by decide) ?_
          refine g_iloadG_n hx dX4_follows_90 rfl (nx := 91) rfl rfl ?_
          refine g_aloadG_n hx dX4_follows_91 rfl (nx := 92) rfl rfl ?_
          refine g_getfo_R hx dX4_follows_92 (nx := 95) rfl fa_X4_91 rfl (r9 := 50) (hM.2 30 rfl) (hM.1 0 _ rfl) (by decide) ?_
          refine g_iloadG_n hx dX4_follows_95 rfl (nx := 96) rfl rfl ?_
          refine g_baload hx dX4_follows_96 (nx := 97) rfl (hM.1 30 _ rfl) (by decide) hin ?_
          rw [hic]
          refine g_if_eq hx dX4_follows_97 (tg := 108) (by decide) (nx := 100) rfl (fun c97 => ?_) (fun c97 => ?_)
          · refine g_iconst hx dX4_follows_108 (nx := 109) rfl (v := 0) (by decide) ?_
            refine g_bastore hx dX4_follows_109 (nx := 110) rfl (hM.1 30 _ rfl) (by decide) hin rfl ?_
            rw [hic]
            refine g_iinc_2 hx dX4_follows_110 (nx := 113) rfl (by decide) (v := 1) (by decide) rfl ?_
            refine g_goto hx dX4_follows_113 (tg := 4) (by decide) ?_
            rw [← nI_succ]
            have hsd : I' 50 i = I 50 i := (h2 i).trans (foM_ge _ _ i i (Nat.le_refl _))
            first
              | exact absurd c97 c76
              | exact absurd c76 c97
              | exact absurd c101 c67
              | exact absurd c67 c101
              | (have e1 : zI (faP (fun k => L 49 k) (foM (fun k => L 49 k) (fun k => I 50 k) i) i i ∧ I 50 i ≠ 0) = 0 := zI_f (fun z => by first | exact (zI_z.mp c67) z.1 | exact z.2 (by rw [← hsd]; exact c76))
                 have e2 : zI (I 50 i ≠ 0 ∧ ¬ faP (fun k => L 49 k) (foM (fun k => L 49 k) (fun k => I 50 k) i) i i) = 0 := zI_f (fun z => by first | exact z.1 (by rw [← hsd]; exact c97) | exact z.2 (zI_n.mp c101))
                 refine cast ?_ (ih (i + 1) (au2 I' 50 i 0) (by omega) (fun a b z => by rw [au2_n (fun w => z w.1)]; exact h1 a b z) (fun j => ?_) (.int (zI (faP (fun k => L 49 k) (foM (fun k => L 49 k) (fun k => I 50 k) i) i i))) (.int (nI i)))
                 · rw [cnM, e1]
                 · by_cases e : j = i
                   · subst e; rw [au2_s, foM_s, if_pos rfl]; exact e2.symm
                   · rw [au2_n (fun w => e w.2), foM_s, if_neg e]; exact h2 j)
          · refine g_iloadG_n hx dX4_follows_100 rfl (nx := 101) rfl rfl ?_
            refine g_if_ne hx dX4_follows_101 (tg := 108) (by decide) (nx := 104) rfl (fun c101 => ?_) (fun c101 => ?_)
            · refine g_iconst hx dX4_follows_108 (nx := 109) rfl (v := 0) (by decide) ?_
              refine g_bastore hx dX4_follows_109 (nx := 110) rfl (hM.1 30 _ rfl) (by decide) hin rfl ?_
              rw [hic]
              refine g_iinc_2 hx dX4_follows_110 (nx := 113) rfl (by decide) (v := 1) (by decide) rfl ?_
              refine g_goto hx dX4_follows_113 (tg := 4) (by decide) ?_
              rw [← nI_succ]
              have hsd : I' 50 i = I 50 i := (h2 i).trans (foM_ge _ _ i i (Nat.le_refl _))
              first
                | exact absurd c97 c76
                | exact absurd c76 c97
                | exact absurd c101 c67
                | exact absurd c67 c101
                | (have e1 : zI (faP (fun k => L 49 k) (foM (fun k => L 49 k) (fun k => I 50 k) i) i i ∧ I 50 i ≠ 0) = 0 := zI_f (fun z => by first | exact (zI_z.mp c67) z.1 | exact z.2 (by rw [← hsd]; exact c76))
                   have e2 : zI (I 50 i ≠ 0 ∧ ¬ faP (fun k => L 49 k) (foM (fun k => L 49 k) (fun k => I 50 k) i) i i) = 0 := zI_f (fun z => by first | exact z.1 (by rw [← hsd]; exact c97) | exact z.2 (zI_n.mp c101))
                   refine cast ?_ (ih (i + 1) (au2 I' 50 i 0) (by omega) (fun a b z => by rw [au2_n (fun w => z w.1)]; exact h1 a b z) (fun j => ?_) (.int (zI (faP (fun k => L 49 k) (foM (fun k => L 49 k) (fun k => I 50 k) i) i i))) (.int (nI i)))
                   · rw [cnM, e1]
                   · by_cases e : j = i
                     · subst e; rw [au2_s, foM_s, if_pos rfl]; exact e2.symm
                     · rw [au2_n (fun w => e w.2), foM_s, if_neg e]; exact h2 j)
            · refine g_iconst hx dX4_follows_104 (nx := 105) rfl (v := 1) (by decide) ?_
              refine g_goto hx dX4_follows_105 (tg := 109) (by decide) ?_
              refine g_bastore hx dX4_follows_109 (nx := 110) rfl (hM.1 30 _ rfl) (by decide) hin rfl ?_
              rw [hic]
              refine g_iinc_2 hx dX4_follows_110 (nx := 113) rfl (by decide) (v := 1) (by decide) rfl ?_
              refine g_goto hx dX4_follows_113 (tg := 4) (by decide) ?_
              rw [← nI_succ]
              have hsd : I' 50 i = I 50 i := (h2 i).trans (foM_ge _ _ i i (Nat.le_refl _))
              first
                | exact absurd c97 c76
                | exact absurd c76 c97
                | exact absurd c101 c67
                | exact absurd c67 c101
                | (have e1 : zI (faP (fun k => L 49 k) (foM (fun k => L 49 k) (fun k => I 50 k) i) i i ∧ I 50 i ≠ 0) = 0 := zI_f (fun z => by first | exact (zI_z.mp c67) z.1 | exact z.2 (by rw [← hsd]; exact c76))
                   have e2 : zI (I 50 i ≠ 0 ∧ ¬ faP (fun k => L 49 k) (foM (fun k => L 49 k) (fun k => I 50 k) i) i i) = 1 := zI_t ⟨by rw [← hsd]; exact c97, zI_z.mp c101⟩
                   refine cast ?_ (ih (i + 1) (au2 I' 50 i 1) (by omega) (fun a b z => by rw [au2_n (fun w => z w.1)]; exact h1 a b z) (fun j => ?_) (.int (zI (faP (fun k => L 49 k) (foM (fun k => L 49 k) (fun k => I 50 k) i) i i))) (.int (nI i)))
                   · rw [cnM, e1]
                   · by_cases e : j = i
                     · subst e; rw [au2_s, foM_s, if_pos rfl]; exact e2.symm
                     · rw [au2_n (fun w => e w.2), foM_s, if_neg e]; exact h2 j)
        · refine g_aloadG_n hx dX4_follows_70 rfl (nx := 71) rfl rfl ?_
          refine g_getfo_R hx dX4_follows_71 (nx := 74) rfl fa_X4_91 rfl (r9 := 50) (hM.2 30 rfl) (hM.1 0 _ rfl) (by decide) ?_
          refine g_iloadG_n hx dX4_follows_74 rfl (nx := 75) rfl rfl ?_
          refine g_baload hx dX4_follows_75 (nx := 76) rfl (hM.1 30 _ rfl) (by decide) hin ?_
          rw [hic]
          refine g_if_eq hx dX4_follows_76 (tg := 83) (by decide) (nx := 79) rfl (fun c76 => ?_) (fun c76 => ?_)
          · refine g_iconst hx dX4_follows_83 (nx := 84) rfl (v := 0) (by decide) ?_
            refine g_iadd hx dX4_follows_84 (nx := 85) rfl ?_
            refine g_istore_1 hx dX4_follows_85 (nx := 86) rfl (by decide) rfl ?_
            refine g_aloadG_n hx dX4_follows_86 rfl (nx := 87) rfl rfl ?_
            refine g_getfo_R hx dX4_follows_87 (nx := 90) rfl fa_X4_91 rfl (r9 := 50) (hM.2 30 rfl) (hM.1 0 _ rfl) (by decide) ?_
            refine g_iloadG_n hx dX4_follows_90 rfl (nx := 91) rfl rfl ?_
            refine g_aloadG_n hx dX4_follows_91 rfl (nx := 92) rfl rfl ?_
            refine g_getfo_R hx dX4_follows_92 (nx := 95) rfl fa_X4_91 rfl (r9 := 50) (hM.2 30 rfl) (hM.1 0 _ rfl) (by decide) ?_
            refine g_iloadG_n hx dX4_follows_95 rfl (nx := 96) rfl rfl ?_
            refine g_baload hx dX4_follows_96 (nx := 97) rfl (hM.1 30 _ rfl) (by decide) hin ?_
            rw [hic]
            refine g_if_eq hx dX4_follows_97 (tg := 108) (by decide) (nx := 100) rfl (fun c97 => ?_) (fun c97 => ?_)
            · refine g_iconst hx dX4_follows_108 (nx := 109) rfl (v := 0) (by decide) ?_
              refine g_bastore hx dX4_follows_109 (nx := 110) rfl (hM.1 30 _ rfl) (by decide) hin rfl ?_
              rw [hic]
              refine g_iinc_2 hx dX4_follows_110 (nx := 113) rfl (by decide) (v := 1) (by decide) rfl ?_
              refine g_goto hx dX4_follows_113 (tg := 4) (by decide) ?_
              rw [← nI_succ]
              have hsd : I' 50 i = I 50 i := (h2 i).trans (foM_ge _ _ i i (Nat.le_refl _))
              first
                | exact absurd c97 c76
                | exact absurd c76 c97
                | exact absurd c101 c67
                | exact absurd c67 c101
                | (have e1 : zI (faP (fun k => L 49 k) (foM (fun k => L 49 k) (fun k => I 50 k) i) i i ∧ I 50 i ≠ 0) = 0 := zI_f (fun z => by first | exact (zI_z.mp c67) z.1 | exact z.2 (by rw [← hsd]; exact c76))
                   have e2 : zI (I 50 i ≠ 0 ∧ ¬ faP (fun k => L 49 k) (foM (fun k => L 49 k) (fun k => I 50 k) i) i i) = 0 := zI_f (fun z => by first | exact z.1 (by rw [← hsd]; exact c97) | exact z.2 (zI_n.mp c101))
                   refine cast ?_ (ih (i + 1) (au2 I' 50 i 0) (by omega) (fun a b z => by rw [au2_n (fun w => z w.1)]; exact h1 a b z) (fun j => ?_) (.int (zI (faP (fun k => L 49 k) (foM (fun k => L 49 k) (fun k => I 50 k) i) i i))) (.int (nI i)))
                   · rw [cnM, e1]
                   · by_cases e : j = i
                     · subst e; rw [au2_s, foM_s, if_pos rfl]; exact e2.symm
                     · rw [au2_n (fun w => e w.2), foM_s, if_neg e]; exact h2 j)
            · refine g_iloadG_n hx dX4_follows_100 rfl (nx := 101) rfl rfl ?_
              refine g_if_ne hx dX4_follows_101 (tg := 108) (by decide) (nx := 104) rfl (fun c101 => ?_) (fun c101 => ?_)
              · refine g_iconst hx dX4_follows_108 (nx := 109) rfl (v := 0) (by decide) ?_
                refine g_bastore hx dX4_follows_109 (nx := 110) rfl (hM.1 30 _ rfl) (by decide) hin rfl ?_
                rw [hic]
                refine g_iinc_2 hx dX4_follows_110 (nx := 113) rfl (by decide) (v := 1) (by decide) rfl ?_
                refine g_goto hx dX4_follows_113 (tg := 4) (by decide) ?_
                rw [← nI_succ]
                have hsd : I' 50 i = I 50 i := (h2 i).trans (foM_ge _ _ i i (Nat.le_refl _))
                first
                  | exact absurd c97 c76
                  | exact absurd c76 c97
                  | exact absurd c101 c67
                  | exact absurd c67 c101
                  | (have e1 : zI (faP (fun k => L 49 k) (foM (fun k => L 49 k) (fun k => I 50 k) i) i i ∧ I 50 i ≠ 0) = 0 := zI_f (fun z => by first | exact (zI_z.mp c67) z.1 | exact z.2 (by rw [← hsd]; exact c76))
                     have e2 : zI (I 50 i ≠ 0 ∧ ¬ faP (fun k => L 49 k) (foM (fun k => L 49 k) (fun k => I 50 k) i) i i) = 0 := zI_f (fun z => by first | exact z.1 (by rw [← hsd]; exact c97) | exact z.2 (zI_n.mp c101))
                     refine cast ?_ (ih (i + 1) (au2 I' 50 i 0) (by omega) (fun a b z => by rw [au2_n (fun w => z w.1)]; exact h1 a b z) (fun j => ?_) (.int (zI (faP (fun k => L 49 k) (foM (fun k => L 49 k) (fun k => I 50 k) i) i i))) (.int (nI i)))
                     · rw [cnM, e1]
                     · by_cases e : j = i
                       · subst e; rw [au2_s, foM_s, if_pos rfl]; exact e2.symm
                       · rw [au2_n (fun w => e w.2), foM_s, if_neg e]; exact h2 j)
              · refine g_iconst hx dX4_follows_104 (nx := 105) rfl (v := 1) (by decide) ?_
                refine g_goto hx dX4_follows_105 (tg := 109) (by decide) ?_
                refine g_bastore hx dX4_follows_109 (nx := 110) rfl (hM.1 30 _ rfl) (by decide) hin rfl ?_
                rw [hic]
                refine g_iinc_2 hx dX4_follows_110 (nx := 113) rfl (by decide) (v := 1) (by decide) rfl ?_
                refine g_goto hx dX4_follows_113 (tg := 4) (by decide) ?_
                rw [← nI_succ]
                have hsd : I' 50 i = I 50 i := (h2 i).trans (foM_ge _ _ i i (Nat.le_refl _))
                first
                  | exact absurd c97 c76
                  | exact absurd c76 c97
                  | exact absurd c101 c67
                  | exact absurd c67 c101
                  | (have e1 : zI (faP (fun k => L 49 k) (foM (fun k => L 49 k) (fun k => I 50 k) i) i i ∧ I 50 i ≠ 0) = 0 := zI_f (fun z => by first | exact (zI_z.mp c67) z.1 | exact z.2 (by rw [← hsd]; exact c76))
                     have e2 : zI (I 50 i ≠ 0 ∧ ¬ faP (fun k => L 49 k) (foM (fun k => L 49 k) (fun k => I 50 k) i) i i) = 1 := zI_t ⟨by rw [← hsd]; exact c97, zI_z.mp c101⟩
                     refine cast ?_ (ih (i + 1) (au2 I' 50 i 1) (by omega) (fun a b z => by rw [au2_n (fun w => z w.1)]; exact h1 a b z) (fun j => ?_) (.int (zI (faP (fun k => L 49 k) (foM (fun k => L 49 k) (fun k => I 50 k) i) i i))) (.int (nI i)))
                     · rw [cnM, e1]
                     · by_cases e : j = i
                       · subst e; rw [au2_s, foM_s, if_pos rfl]; exact e2.symm
                       · rw [au2_n (fun w => e w.2), foM_s, if_neg e]; exact h2 j)
          · refine g_iconst hx dX4_follows_79 (nx := 80) rfl (v := 1) (by decide) ?_
            refine g_goto hx dX4_follows_80 (tg := 84) (by decide) ?_
            refine g_iadd hx dX4_follows_84 (nx := 85) rfl ?_
            refine g_istore_1 hx dX4_follows_85 (nx := 86) rfl (by decide) rfl ?_
            refine g_aloadG_n hx dX4_follows_86 rfl (nx := 87) rfl rfl ?_
            refine g_getfo_R hx dX4_follows_87 (nx := 90) rfl fa_X4_91 rfl (r9 := 50) (hM.2 30 rfl) (hM.1 0 _ rfl) (by decide) ?_
            refine g_iloadG_n hx dX4_follows_90 rfl (nx := 91) rfl rfl ?_
            refine g_aloadG_n hx dX4_follows_91 rfl (nx := 92) rfl rfl ?_
            refine g_getfo_R hx dX4_follows_92 (nx := 95) rfl fa_X4_91 rfl (r9 := 50) (hM.2 30 rfl) (hM.1 0 _ rfl) (by decide) ?_
            refine g_iloadG_n hx dX4_follows_95 rfl (nx := 96) rfl rfl ?_
            refine g_baload hx dX4_follows_96 (nx := 97) rfl (hM.1 30 _ rfl) (by decide) hin ?_
            rw [hic]
            refine g_if_eq hx dX4_follows_97 (tg := 108) (by decide) (nx := 100) rfl (fun c97 => ?_) (fun c97 => ?_)
            · refine g_iconst hx dX4_follows_108 (nx := 109) rfl (v := 0) (by decide) ?_
              refine g_bastore hx dX4_follows_109 (nx := 110) rfl (hM.1 30 _ rfl) (by decide) hin rfl ?_
              rw [hic]
              refine g_iinc_2 hx dX4_follows_110 (nx := 113) rfl (by decide) (v := 1) (by decide) rfl ?_
              refine g_goto hx dX4_follows_113 (tg := 4) (by decide) ?_
              rw [← nI_succ]
              have hsd : I' 50 i = I 50 i := (h2 i).trans (foM_ge _ _ i i (Nat.le_refl _))
              first
                | exact absurd c97 c76
                | exact absurd c76 c97
                | exact absurd c101 c67
                | exact absurd c67 c101
                | (have e1 : zI (faP (fun k => L 49 k) (foM (fun k => L 49 k) (fun k => I 50 k) i) i i ∧ I 50 i ≠ 0) = 1 := zI_t ⟨zI_n.mp c67, by rw [← hsd]; exact c76⟩
                   have e2 : zI (I 50 i ≠ 0 ∧ ¬ faP (fun k => L 49 k) (foM (fun k => L 49 k) (fun k => I 50 k) i) i i) = 0 := zI_f (fun z => by first | exact z.1 (by rw [← hsd]; exact c97) | exact z.2 (zI_n.mp c101))
                   refine cast ?_ (ih (i + 1) (au2 I' 50 i 0) (by omega) (fun a b z => by rw [au2_n (fun w => z w.1)]; exact h1 a b z) (fun j => ?_) (.int (zI (faP (fun k => L 49 k) (foM (fun k => L 49 k) (fun k => I 50 k) i) i i))) (.int (nI i)))
                   · rw [cnM, e1]
                   · by_cases e : j = i
                     · subst e; rw [au2_s, foM_s, if_pos rfl]; exact e2.symm
                     · rw [au2_n (fun w => e w.2), foM_s, if_neg e]; exact h2 j)
            · refine g_iloadG_n hx dX4_follows_100 rfl (nx := 101) rfl rfl ?_
              refine g_if_ne hx dX4_follows_101 (tg := 108) (by decide) (nx := 104) rfl (fun c101 => ?_) (fun c101 => ?_)
              · refine g_iconst hx dX4_follows_108 (nx := 109) rfl (v := 0) (by decide) ?_
                refine g_bastore hx dX4_follows_109 (nx := 110) rfl (hM.1 30 _ rfl) (by decide) hin rfl ?_
                rw [hic]
                refine g_iinc_2 hx dX4_follows_110 (nx := 113) rfl (by decide) (v := 1) (by decide) rfl ?_
                refine g_goto hx dX4_follows_113 (tg := 4) (by decide) ?_
                rw [← nI_succ]
                have hsd : I' 50 i = I 50 i := (h2 i).trans (foM_ge _ _ i i (Nat.le_refl _))
                first
                  | exact absurd c97 c76
                  | exact absurd c76 c97
                  | exact absurd c101 c67
                  | exact absurd c67 c101
                  | (have e1 : zI (faP (fun k => L 49 k) (foM (fun k => L 49 k) (fun k => I 50 k) i) i i ∧ I 50 i ≠ 0) = 1 := zI_t ⟨zI_n.mp c67, by rw [← hsd]; exact c76⟩
                     have e2 : zI (I 50 i ≠ 0 ∧ ¬ faP (fun k => L 49 k) (foM (fun k => L 49 k) (fun k => I 50 k) i) i i) = 0 := zI_f (fun z => by first | exact z.1 (by rw [← hsd]; exact c97) | exact z.2 (zI_n.mp c101))
                     refine cast ?_ (ih (i + 1) (au2 I' 50 i 0) (by omega) (fun a b z => by rw [au2_n (fun w => z w.1)]; exact h1 a b z) (fun j => ?_) (.int (zI (faP (fun k => L 49 k) (foM (fun k => L 49 k) (fun k => I 50 k) i) i i))) (.int (nI i)))
                     · rw [cnM, e1]
                     · by_cases e : j = i
                       · subst e; rw [au2_s, foM_s, if_pos rfl]; exact e2.symm
                       · rw [au2_n (fun w => e w.2), foM_s, if_neg e]; exact h2 j)
              · refine g_iconst hx dX4_follows_104 (nx := 105) rfl (v := 1) (by decide) ?_
                refine g_goto hx dX4_follows_105 (tg := 109) (by decide) ?_
                refine g_bastore hx dX4_follows_109 (nx := 110) rfl (hM.1 30 _ rfl) (by decide) hin rfl ?_
                rw [hic]
                refine g_iinc_2 hx dX4_follows_110 (nx := 113) rfl (by decide) (v := 1) (by decide) rfl ?_
                refine g_goto hx dX4_follows_113 (tg := 4) (by decide) ?_
                rw [← nI_succ]
                have hsd : I' 50 i = I 50 i := (h2 i).trans (foM_ge _ _ i i (Nat.le_refl _))
                first
                  | exact absurd c97 c76
                  | exact absurd c76 c97
                  | exact absurd c101 c67
                  | exact absurd c67 c101
                  | (have e1 : zI (faP (fun k => L 49 k) (foM (fun k => L 49 k) (fun k => I 50 k) i) i i ∧ I 50 i ≠ 0) = 1 := zI_t ⟨zI_n.mp c67, by rw [← hsd]; exact c76⟩
                     have e2 : zI (I 50 i ≠ 0 ∧ ¬ faP (fun k => L 49 k) (foM (fun k => L 49 k) (fun k => I 50 k) i) i i) = 1 := zI_t ⟨by rw [← hsd]; exact c97, zI_z.mp c101⟩
                     refine cast ?_ (ih (i + 1) (au2 I' 50 i 1) (by omega) (fun a b z => by rw [au2_n (fun w => z w.1)]; exact h1 a b z) (fun j => ?_) (.int (zI (faP (fun k => L 49 k) (foM (fun k => L 49 k) (fun k => I 50 k) i) i i))) (.int (nI i)))
                     · rw [cnM, e1]
                     · by_cases e : j = i
                       · subst e; rw [au2_s, foM_s, if_pos rfl]; exact e2.symm
                       · rw [au2_n (fun w => e w.2), foM_s, if_neg e]; exact h2 j)
  refine g_iconst hx dX4_follows_0 (nx := 1) rfl (v := 0) (by decide) ?_
  refine g_istore_1 hx dX4_follows_1 (nx := 2) rfl (by decide) rfl ?_
  refine g_iconst hx dX4_follows_2 (nx := 3) rfl (v := 0) (by decide) ?_
  refine g_istore_2 hx dX4_follows_3 (nx := 4) rfl (by decide) rfl ?_
  exact loop1 nc 0 I (Nat.zero_add _) (fun _ _ _ => rfl) (fun j => rfl) _ _

abbrev rmX4_withdraw : Room := { frames := 2, cells := 0, slots := 0, locals := 43 }
set_option maxHeartbeats 4000000 in
set_option maxRecDepth 100000 in
theorem s_X4_withdraw {l : Launch} {E : aE} {S : aS} {I : aI} {L : aL} {Rf : aR} {Kr : aK} {Kx : aX} (hst : l.stackTraces = false) {nc : Nat} {x : Int32} (hM : lyM S Rf) (h21 : I 20 21 = nI nc) (hn40 : nc ≤ 40) (hf1 : ¬ inN x nc → Kr (some (.int 0)) S (au2 I 20 31 1) L Rf) (hf2 : ∀ i, i < nc → x = nI i → I 50 i = 0 → Kr (some (.int 0)) S (au2 I 20 31 2) L Rf) (hk : ∀ i, i < nc → x = nI i → I 50 i ≠ 0 → ∀ I', (∀ a b, a ≠ 50 → I' a b = au2 I 20 31 0 a b) → (∀ j, I' 50 j = foM (fun k => L 49 k) (fun k => if k = i then 0 else I 50 k) nc j) → Kr (some (.int (1 + cnM (fun k => L 49 k) (fun k => if k = i then 0 else I 50 k) nc))) S I' L Rf) : aMet l E yX4_withdraw cX4_withdraw 3 (some .int) rmX4_withdraw [.ref 20, .int x] (S) (I) (L) (Rf) Kr Kx := by
  refine aMet.of (lv0 := [.ref 20, .int x, aU]) (z := 1) (by decide +kernel) hst rfl (Nat.le_of_ble_eq_true rfl) ?_
  intro p e s m args below meth c io0 hx hin hno
  have hx : aCx p l s m args meth c RX4 cX4_withdraw 3 (some .int) E := hx
  refine g_aloadG_n hx dX4_withdraw_0 rfl (nx := 1) rfl rfl ?_
  refine g_iloadG_n hx dX4_withdraw_1 rfl (nx := 2) rfl rfl ?_
  refine g_callV_M hx [_] (k' := 0) (n' := 0) dX4_withdraw_2 (nx := 5) rfl lk_X4_198 (hM.1 0 _ rfl) (by decide) rfl rfl (Nat.le_of_ble_eq_true rfl) (Nat.le_of_ble_eq_true rfl) (Nat.le_of_ble_eq_true rfl) (Nat.le_of_ble_eq_true rfl) (Nat.le_of_ble_eq_true rfl) (Nat.le_of_ble_eq_true rfl) (Nat.le_of_ble_eq_true rfl) (s_X4_isClaim (nc := nc) hst hM h21 hn40 (fun i ih ei => ?_) (fun qi => ?_))
  · subst ei
    have ic : (nI i).toNatClampNeg = i := nI_clamp (by omega)
    have iw9 : vp_in (nI i) 40 := vp_in_nI (by omega) (by decide)
    refine g_istore_2 hx dX4_withdraw_5 (nx := 6) rfl (by decide) rfl ?_
    refine g_aloadG_n hx dX4_withdraw_6 rfl (nx := 7) rfl rfl ?_
    refine g_iloadG_n hx dX4_withdraw_7 rfl (nx := 8) rfl rfl ?_
    refine g_if_ne hx dX4_withdraw_8 (tg := 15) (by decide) (nx := 11) rfl (fun c8 => ?_) (fun c8 => ?_)
    · refine g_aloadG_n hx dX4_withdraw_15 rfl (nx := 16) rfl rfl ?_
      refine g_getfo_R hx dX4_withdraw_16 (nx := 19) rfl fa_X4_91 rfl (r9 := 50) (hM.2 30 rfl) (hM.1 0 _ rfl) (by decide) ?_
      refine g_iloadG_n hx dX4_withdraw_19 rfl (nx := 20) rfl rfl ?_
      refine g_baload hx dX4_withdraw_20 (nx := 21) rfl (hM.1 30 _ rfl) (by decide) iw9 ?_
      rw [ic]
      refine g_if_eq hx dX4_withdraw_21 (tg := 28) (by decide) (nx := 24) rfl (fun c21 => ?_) (fun c21 => ?_)
      · refine g_iconst hx dX4_withdraw_28 (nx := 29) rfl (v := 2) (by decide) ?_
        refine g_callV_M hx [_] (k' := 0) (n' := 0) dX4_withdraw_29 (nx := 32) rfl lk_X4_114 (hM.1 0 _ rfl) (by decide) rfl rfl (Nat.le_of_ble_eq_true rfl) (Nat.le_of_ble_eq_true rfl) (Nat.le_of_ble_eq_true rfl) (Nat.le_of_ble_eq_true rfl) (Nat.le_of_ble_eq_true rfl) (Nat.le_of_ble_eq_true rfl) (Nat.le_of_ble_eq_true rfl) (s_X4_can hst hM (fun z => absurd z (by decide)) (fun _ => ?_))
        refine g_if_ne hx dX4_withdraw_32 (tg := 37) (by decide) (nx := 35) rfl (fun c32 => ?_) (fun c32 => ?_)
        · exact absurd c32 (by decide)
        · refine g_iconst hx dX4_withdraw_35 (nx := 36) rfl (v := 0) (by decide) ?_
          refine g_iret hx dX4_withdraw_36 rfl rfl (Nat.le_of_ble_eq_true rfl) (Nat.le_of_ble_eq_true rfl) ?_
          first
            | exact hf1 qi
            | exact hf2 i ih rfl c21
            | (have es : (fun k => au2 (au2 I 20 31 0) 50 i 0 50 k) = (fun k => if k = i then 0 else I 50 k) := funext fun k => by simp [au2]
               rw [es] at g2 ⊢
               exact hk i ih rfl c21 I2 (fun a b z => (g1 a b z).trans (au2_n (fun w => z w.1))) g2)
      · refine g_iconst hx dX4_withdraw_24 (nx := 25) rfl (v := 0) (by decide) ?_
        refine g_goto hx dX4_withdraw_25 (tg := 29) (by decide) ?_
        refine g_callV_M hx [_] (k' := 0) (n' := 0) dX4_withdraw_29 (nx := 32) rfl lk_X4_114 (hM.1 0 _ rfl) (by decide) rfl rfl (Nat.le_of_ble_eq_true rfl) (Nat.le_of_ble_eq_true rfl) (Nat.le_of_ble_eq_true rfl) (Nat.le_of_ble_eq_true rfl) (Nat.le_of_ble_eq_true rfl) (Nat.le_of_ble_eq_true rfl) (Nat.le_of_ble_eq_true rfl) (s_X4_can hst hM (fun _ => ?_) (fun z => absurd rfl z))
        refine g_if_ne hx dX4_withdraw_32 (tg := 37) (by decide) (nx := 35) rfl (fun c32 => ?_) (fun c32 => ?_)
        · refine g_aloadG_n hx dX4_withdraw_37 rfl (nx := 38) rfl rfl ?_
          refine g_getfo_R hx dX4_withdraw_38 (nx := 41) rfl fa_X4_91 rfl (r9 := 50) (hM.2 30 rfl) (hM.1 0 _ rfl) (by decide) ?_
          refine g_iloadG_n hx dX4_withdraw_41 rfl (nx := 42) rfl rfl ?_
          refine g_iconst hx dX4_withdraw_42 (nx := 43) rfl (v := 0) (by decide) ?_
          refine g_bastore hx dX4_withdraw_43 (nx := 44) rfl (hM.1 30 _ rfl) (by decide) iw9 rfl ?_
          rw [ic]
          refine g_iconst hx dX4_withdraw_44 (nx := 45) rfl (v := 1) (by decide) ?_
          refine g_aloadG_n hx dX4_withdraw_45 rfl (nx := 46) rfl rfl ?_
          refine g_callV_M hx [] (k' := 0) (n' := 0) dX4_withdraw_46 (nx := 49) rfl lk_X4_208 (hM.1 0 _ rfl) (by decide) rfl rfl (Nat.le_of_ble_eq_true rfl) (Nat.le_of_ble_eq_true rfl) (Nat.le_of_ble_eq_true rfl) (Nat.le_of_ble_eq_true rfl) (Nat.le_of_ble_eq_true rfl) (Nat.le_of_ble_eq_true rfl) (Nat.le_of_ble_eq_true rfl) (s_X4_follows (nc := nc) hst hM (by rw [au2_n (by omega), au2_n (by omega)]; exact h21) hn40 (fun I2 g1 g2 => ?_))
          refine g_iadd hx dX4_withdraw_49 (nx := 50) rfl ?_
          refine g_iret hx dX4_withdraw_50 rfl rfl (Nat.le_of_ble_eq_true rfl) (Nat.le_of_ble_eq_true rfl) ?_
          first
            | exact hf1 qi
            | exact hf2 i ih rfl c21
            | (have es : (fun k => au2 (au2 I 20 31 0) 50 i 0 50 k) = (fun k => if k = i then 0 else I 50 k) := funext fun k => by simp [au2]
               rw [es] at g2 ⊢
               exact hk i ih rfl c21 I2 (fun a b z => (g1 a b z).trans (au2_n (fun w => z w.1))) g2)
        · exact absurd c32 (by decide)
    · exact absurd c8 (by decide)
  · refine g_istore_2 hx dX4_withdraw_5 (nx := 6) rfl (by decide) rfl ?_
    refine g_aloadG_n hx dX4_withdraw_6 rfl (nx := 7) rfl rfl ?_
    refine g_iloadG_n hx dX4_withdraw_7 rfl (nx := 8) rfl rfl ?_
    refine g_if_ne hx dX4_withdraw_8 (tg := 15) (by decide) (nx := 11) rfl (fun c8 => ?_) (fun c8 => ?_)
    · exact absurd c8 (by decide)
    · refine g_iconst hx dX4_withdraw_11 (nx := 12) rfl (v := 1) (by decide) ?_
      refine g_goto hx dX4_withdraw_12 (tg := 29) (by decide) ?_
      refine g_callV_M hx [_] (k' := 0) (n' := 0) dX4_withdraw_29 (nx := 32) rfl lk_X4_114 (hM.1 0 _ rfl) (by decide) rfl rfl (Nat.le_of_ble_eq_true rfl) (Nat.le_of_ble_eq_true rfl) (Nat.le_of_ble_eq_true rfl) (Nat.le_of_ble_eq_true rfl) (Nat.le_of_ble_eq_true rfl) (Nat.le_of_ble_eq_true rfl) (Nat.le_of_ble_eq_true rfl) (s_X4_can hst hM (fun z => absurd z (by decide)) (fun _ => ?_))
      refine g_if_ne hx dX4_withdraw_32 (tg := 37) (by decide) (nx := 35) rfl (fun c32 => ?_) (fun c32 => ?_)
      · exact absurd c32 (by decide)
      · refine g_iconst hx dX4_withdraw_35 (nx := 36) rfl (v := 0) (by decide) ?_
        refine g_iret hx dX4_withdraw_36 rfl rfl (Nat.le_of_ble_eq_true rfl) (Nat.le_of_ble_eq_true rfl) ?_
        first
          | exact hf1 qi
          | exact hf2 i ih rfl c21
          | (have es : (fun k => au2 (au2 I 20 31 0) 50 i 0 50 k) = (fun k => if k = i then 0 else I 50 k) := funext fun k => by simp [au2]
             rw [es] at g2 ⊢
             exact hk i ih rfl c21 I2 (fun a b z => (g1 a b z).trans (au2_n (fun w => z w.1))) g2)

def neN (I : aI) (k : Nat) (x : Int32) (a c : Nat) : Prop := szL (tnI I k (nI a) (nI c) 0 - x).toInt64 < 20000
def neP (I : aI) (k : Nat) (x : Int32) (i j : Nat) : Prop := ∃ a c, 1 ≤ a ∧ c ≤ 2 ∧ (a ≤ i ∨ (a = i + 1 ∧ c < j)) ∧ neN I k x a c
abbrev neM (I : aI) (k : Nat) (x : Int32) : Prop := neP I k x 12 0
theorem neP_0 {I : aI} {k : Nat} {x : Int32} : ¬ neP I k x 0 0 := fun ⟨a, c, h1, h2, h3, _⟩ => by omega
theorem neP_s {I : aI} {k : Nat} {x : Int32} {i j : Nat} (hj : j ≤ 2) : neP I k x i (j + 1) ↔ neP I k x i j ∨ neN I k x (i + 1) j := by
  constructor
  · rintro ⟨a, c, h1, h2, h3, h4⟩
    by_cases e : a = i + 1 ∧ c = j
    · obtain ⟨rfl, rfl⟩ := e; exact Or.inr h4
    · exact Or.inl ⟨a, c, h1, h2, by omega, h4⟩
  · rintro (⟨a, c, h1, h2, h3, h4⟩ | h4)
    · exact ⟨a, c, h1, h2, by omega, h4⟩
    · exact ⟨i + 1, j, by omega, hj, by omega, h4⟩
theorem neP_3 {I : aI} {k : Nat} {x : Int32} {i : Nat} : neP I k x i 3 ↔ neP I k x (i + 1) 0 := by
  constructor
  · rintro ⟨a, c, h1, h2, h3, h4⟩; exact ⟨a, c, h1, h2, by omega, h4⟩
  · rintro ⟨a, c, h1, h2, h3, h4⟩; exact ⟨a, c, h1, h2, by omega, h4⟩
abbrev rmX4_isTone : Room := { frames := 1, cells := 0, slots := 0, locals := 27 }
set_option maxHeartbeats 4000000 in
set_option maxRecDepth 100000 in
theorem s_X4_isTone {l : Launch} {E : aE} {S : aS} {I : aI} {L : aL} {Rf : aR} {Kr : aK} {Kx : aX} (hst : l.stackTraces = false) {k : Nat} {x : Int32} (hM : lyM S Rf) (hk6 : k < 6) (hk : Kr (some (.int (zI (neM I k x)))) S I L Rf) : aMet l E yX4_isTone cX4_isTone 6 (some .boolean) rmX4_isTone [.ref 20, .int (nI k), .int x] (S) (I) (L) (Rf) Kr Kx := by
  refine aMet.of (lv0 := [.ref 20, .int (nI k), .int x, aU, aU, aU]) (z := 3) (by decide +kernel) hst rfl (Nat.le_of_ble_eq_true rfl) ?_
  intro p e s m args below meth c io0 hx hin hno
  have hx : aCx p l s m args meth c RX4 cX4_isTone 6 (some .boolean) E := hx
  have inner : ∀ (i : Nat), i < 12 → aG p l e rmX4_isTone s m args below meth c E io0 S 6 (vx_MQ below (aQc E io0 S Kr) (aXC E io0 S Kx) args s rmX4_isTone.cells rmX4_isTone.slots (aW E)) 60 [.ref 20, .int (nI k), .int x, .int (zI (neP I k x i 3)), .int (nI (i + 1)), .int (nI 3)] [] (S) (I) (L) (Rf) 0 0 → ∀ (r j : Nat), j + r = 3 → aG p l e rmX4_isTone s m args below meth c E io0 S 6 (vx_MQ below (aQc E io0 S Kr) (aXC E io0 S Kx) args s rmX4_isTone.cells rmX4_isTone.slots (aW E)) 15 [.ref 20, .int (nI k), .int x, .int (zI (neP I k x i j)), .int (nI (i + 1)), .int (nI j)] [] (S) (I) (L) (Rf) 0 0 := by
    intro i hi0 knext r
    induction r with
    | zero =>
      intro j hj
      have hj : j = 3 := by omega
      subst hj
      refine g_iloadG hx dX4_isTone_15 (nx := 17) rfl rfl ?_
      refine g_iconst hx dX4_isTone_17 (nx := 18) rfl (v := 3) (by decide) ?_
      refine g_icmp_ge hx dX4_isTone_18 (tg := 60) (by decide) (nx := 21) rfl (fun c18 => ?_) (fun c18 => ?_)
      · exact knext
      · exact absurd (by decide) c18
    | succ r ih =>
      intro j hj
      have K := ih (j + 1) (by omega)
      refine g_iloadG hx dX4_isTone_15 (nx := 17) rfl rfl ?_
      refine g_iconst hx dX4_isTone_17 (nx := 18) rfl (v := 3) (by decide) ?_
      refine g_icmp_ge hx dX4_isTone_18 (tg := 60) (by decide) (nx := 21) rfl (fun c18 => ?_) (fun c18 => ?_)
      · exact absurd c18 (nI_ge (b := 3) (by omega) (by decide))
      · refine g_iloadG_n hx dX4_isTone_21 rfl (nx := 22) rfl rfl ?_
        refine g_if_ne hx dX4_isTone_22 (tg := 48) (by decide) (nx := 25) rfl (fun c22 => ?_) (fun c22 => ?_)
        · refine g_iconst hx dX4_isTone_48 (nx := 49) rfl (v := 1) (by decide) ?_
          refine g_goto hx dX4_isTone_49 (tg := 53) (by decide) ?_
          refine g_istore_3 hx dX4_isTone_53 (nx := 54) rfl (by decide) rfl ?_
          refine g_iinc_5 hx dX4_isTone_54 (nx := 57) rfl (by decide) (v := 1) (by decide) rfl ?_
          refine g_goto hx dX4_isTone_57 (tg := 15) (by decide) ?_
          rw [← nI_succ]
          have e1 : zI (neP I k x i (j + 1)) = 1 := zI_t ((neP_s (by omega)).mpr (by first | exact Or.inl (zI_n.mp c22) | exact Or.inr ((lg_cmp_lt _ _).mp (Int32.not_le.mp c45))))
          rw [e1] at K
          exact K
        · refine g_aloadG_n hx dX4_isTone_25 rfl (nx := 26) rfl rfl ?_
          refine g_iloadG_n hx dX4_isTone_26 rfl (nx := 27) rfl rfl ?_
          refine g_iloadG hx dX4_isTone_27 (nx := 29) rfl rfl ?_
          refine g_iloadG hx dX4_isTone_29 (nx := 31) rfl rfl ?_
          refine g_iconst hx dX4_isTone_31 (nx := 32) rfl (v := 0) (by decide) ?_
          refine g_callV_M hx [_, _, _, _] (k' := 0) (n' := 0) dX4_isTone_32 (nx := 35) rfl lk_X4_122 (hM.1 0 _ rfl) (by decide) rfl rfl (Nat.le_of_ble_eq_true rfl) (Nat.le_of_ble_eq_true rfl) (Nat.le_of_ble_eq_true rfl) (Nat.le_of_ble_eq_true rfl) (Nat.le_of_ble_eq_true rfl) (Nat.le_of_ble_eq_true rfl) (Nat.le_of_ble_eq_true rfl) (s_X4_toneOf hst hM hk6 ?_)
          refine g_iloadG_n hx dX4_isTone_35 rfl (nx := 36) rfl rfl ?_
          refine g_isub hx dX4_isTone_36 (nx := 37) rfl ?_
          refine g_i2l hx dX4_isTone_37 (nx := 38) rfl ?_
          refine g_callS_M hx [_] (k' := 0) (n' := 0) dX4_isTone_38 (nx := 41) rfl lk_X4_194 rfl (Nat.le_of_ble_eq_true rfl) (Nat.le_of_ble_eq_true rfl) (Nat.le_of_ble_eq_true rfl) (Nat.le_of_ble_eq_true rfl) (Nat.le_of_ble_eq_true rfl) (Nat.le_of_ble_eq_true rfl) (Nat.le_of_ble_eq_true rfl) (s_X4_size hst ?_)
          refine g_ldc2 hx dX4_isTone_41 (nx := 44) rfl kl_X4_212 ?_
          refine g_lcmp hx dX4_isTone_44 (nx := 45) rfl ?_
          refine g_if_ge hx dX4_isTone_45 (tg := 52) (by decide) (nx := 48) rfl (fun c45 => ?_) (fun c45 => ?_)
          · refine g_iconst hx dX4_isTone_52 (nx := 53) rfl (v := 0) (by decide) ?_
            refine g_istore_3 hx dX4_isTone_53 (nx := 54) rfl (by decide) rfl ?_
            refine g_iinc_5 hx dX4_isTone_54 (nx := 57) rfl (by decide) (v := 1) (by decide) rfl ?_
            refine g_goto hx dX4_isTone_57 (tg := 15) (by decide) ?_
            rw [← nI_succ]
            have e1 : zI (neP I k x i (j + 1)) = 0 := zI_f (fun z => ((neP_s (by omega)).mp z).elim (zI_z.mp c22) (fun w => absurd ((lg_cmp_lt _ _).mpr w) (Int32.not_lt.mpr c45)))
            rw [e1] at K
            exact K
          · refine g_iconst hx dX4_isTone_48 (nx := 49) rfl (v := 1) (by decide) ?_
            refine g_goto hx dX4_isTone_49 (tg := 53) (by decide) ?_
            refine g_istore_3 hx dX4_isTone_53 (nx := 54) rfl (by decide) rfl ?_
            refine g_iinc_5 hx dX4_isTone_54 (nx := 57) rfl (by decide) (v := 1) (by decide) rfl ?_
            refine g_goto hx dX4_isTone_57 (tg := 15) (by decide) ?_
            rw [← nI_succ]
            have e1 : zI (neP I k x i (j + 1)) = 1 := zI_t ((neP_s (by omega)).mpr (by first | exact Or.inl (zI_n.mp c22) | exact Or.inr ((lg_cmp_lt _ _).mp (Int32.not_le.mp c45))))
            rw [e1] at K
            exact K
  have loop1 : ∀ (r i : Nat) , i + r = 12 → ∀ w1, aG p l e rmX4_isTone s m args below meth c E io0 S 6 (vx_MQ below (aQc E io0 S Kr) (aXC E io0 S Kx) args s rmX4_isTone.cells rmX4_isTone.slots (aW E)) 5 [.ref 20, .int (nI k), .int x, .int (zI (neP I k x i 0)), .int (nI (i + 1)), w1] [] (S) (I) (L) (Rf) 0 0 := by
    intro r
    induction r with
    | zero =>
      intro i hi w1
      have hi : i = 12 := by omega
      subst hi
      refine g_iloadG hx dX4_isTone_5 (nx := 7) rfl rfl ?_
      refine g_bipush hx dX4_isTone_7 (nx := 9) rfl (v := 12) (by decide) ?_
      refine g_icmp_gt hx dX4_isTone_9 (tg := 66) (by decide) (nx := 12) rfl (fun c9 => ?_) (fun c9 => ?_)
      · refine g_iloadG_n hx dX4_isTone_66 rfl (nx := 67) rfl rfl ?_
        refine g_iret hx dX4_isTone_67 rfl (zI_nar _) (Nat.le_of_ble_eq_true rfl) (Nat.le_of_ble_eq_true rfl) ?_
        exact hk
      · exact absurd (nI_lt (a := 12) (b := 13) (by decide) (by decide)) c9
    | succ r ih =>
      intro i hi w1
      refine g_iloadG hx dX4_isTone_5 (nx := 7) rfl rfl ?_
      refine g_bipush hx dX4_isTone_7 (nx := 9) rfl (v := 12) (by decide) ?_
      refine g_icmp_gt hx dX4_isTone_9 (tg := 66) (by decide) (nx := 12) rfl (fun c9 => ?_) (fun c9 => ?_)
      · exact absurd c9 (nI_nlt (b := i + 1) (a := 12) (by omega) (by decide))
      · refine g_iconst hx dX4_isTone_12 (nx := 13) rfl (v := 0) (by decide) ?_
        refine g_istore_5 hx dX4_isTone_13 (nx := 15) rfl (by decide) rfl ?_
        refine inner i (by omega) ?_ 3 0 rfl
        refine g_iinc_4 hx dX4_isTone_60 (nx := 63) rfl (by decide) (v := 1) (by decide) rfl ?_
        refine g_goto hx dX4_isTone_63 (tg := 5) (by decide) ?_
        rw [← nI_succ, zI_c neP_3]
        exact ih (i + 1) (by omega) _
  refine g_iconst hx dX4_isTone_0 (nx := 1) rfl (v := 0) (by decide) ?_
  refine g_istore_3 hx dX4_isTone_1 (nx := 2) rfl (by decide) rfl ?_
  refine g_iconst hx dX4_isTone_2 (nx := 3) rfl (v := 1) (by decide) ?_
  refine g_istore_4 hx dX4_isTone_3 (nx := 5) rfl (by decide) rfl ?_
  have K := loop1 12 0 rfl aU
  rw [zI_f neP_0] at K
  exact K

/-- the claims that the reference holds -/
def clM (I : aI) (n nc : Nat) (sc dc ln : Nat → Nat) : Prop := ∀ i, i < nc → sc i < n ∧ I 43 i = nI (sc i) ∧ I 44 i = nI (ln i) ∧ ln i < 32 ∧ (I 42 i = 0 ∨ I 42 i = 1 ∨ I 42 i = 2) ∧ (I 42 i = 0 → I 46 i = nI (dc i) ∧ dc i ≤ 6 ∧ (I 45 i = 0 ∨ I 45 i = 1 ∨ I 45 i = 2))
def rpM (I : aI) (L : aL) (q : Nat → Nat → Bool) (V : Nat → Nat → Int64) (ff : Nat → Nat → Int32) (oo : Nat → Nat) (s d i : Nat) : Prop := pw (q s) (wtM q V ff s (I 45 i) (min d (oo s))) (I 44 i) = L 47 i
def hlM (I : aI) (L : aL) (q : Nat → Nat → Bool) (V : Nat → Nat → Int64) (ff : Nat → Nat → Int32) (oo : Nat → Nat) (s d i : Nat) : Prop := (I 42 i = 0 → rpM I L q V ff oo s d i) ∧ (I 42 i = 2 → ¬ neM I s (40000 * I 44 i))
abbrev rmX4_replays : Room := { frames := 4, cells := 0, slots := 0, locals := 96 }
set_option maxHeartbeats 4000000 in
set_option maxRecDepth 100000 in
theorem s_X4_replays {l : Launch} {E : aE} {S : aS} {I : aI} {L : aL} {Rf : aR} {Kr : aK} {Kx : aX} (hst : l.stackTraces = false) {n nc i : Nat} {sc dc ln : Nat → Nat} {q : Nat → Nat → Bool} {V : Nat → Nat → Int64} {ff : Nat → Nat → Int32} {oo : Nat → Nat} (hM : lyM S Rf) (hT : tbM I) (hl : okM I n q V ff oo) (hn6 : n ≤ 6) (hn40 : nc ≤ 40) (hcl : clM I n nc sc dc ln) (hi9 : i < nc) (hkd : I 42 i = 0) (hk : ∀ I' L', eM I' I → eL L' L → Kr (some (.int (zI (rpM I L q V ff oo (sc i) (dc i) i)))) S I' L' Rf) : aMet l E yX4_replays cX4_replays 3 (some .boolean) rmX4_replays [.ref 20, .int (nI i)] (S) (I) (L) (Rf) Kr Kx := by
  refine aMet.of (lv0 := [.ref 20, .int (nI i), aU]) (z := 1) (by decide +kernel) hst rfl (Nat.le_of_ble_eq_true rfl) ?_
  intro p e s m args below meth c io0 hx hin hno
  have hx : aCx p l s m args meth c RX4 cX4_replays 3 (some .boolean) E := hx
  have ic : (nI i).toNatClampNeg = i := nI_clamp (by omega)
  have iw9 : vp_in (nI i) 40 := vp_in_nI (by omega) (by decide)
  obtain ⟨k1, k2, k3, k4, k5, k6⟩ := hcl i hi9
  have scw : vp_in (nI (sc i)) 6 := vp_in_nI (by omega) (by decide)
  have sck : (nI (sc i)).toNatClampNeg = sc i := nI_clamp (by omega)
  refine g_aloadG_n hx dX4_replays_0 rfl (nx := 1) rfl rfl ?_
  refine g_getfo_R hx dX4_replays_1 (nx := 4) rfl fa_X4_70 rfl (r9 := 43) (hM.2 23 rfl) (hM.1 0 _ rfl) (by decide) ?_
  refine g_iloadG_n hx dX4_replays_4 rfl (nx := 5) rfl rfl ?_
  refine g_iaload hx dX4_replays_5 (nx := 6) rfl (hM.1 23 _ rfl) (by decide) iw9 ?_
  rw [ic, k2]
  refine g_istore_2 hx dX4_replays_6 (nx := 7) rfl (by decide) rfl ?_
  refine g_aloadG_n hx dX4_replays_7 rfl (nx := 8) rfl rfl ?_
  refine g_iloadG_n hx dX4_replays_8 rfl (nx := 9) rfl rfl ?_
  refine g_aloadG_n hx dX4_replays_9 rfl (nx := 10) rfl rfl ?_
  refine g_getfo_R hx dX4_replays_10 (nx := 13) rfl fa_X4_76 rfl (r9 := 45) (hM.2 25 rfl) (hM.1 0 _ rfl) (by decide) ?_
  refine g_iloadG_n hx dX4_replays_13 rfl (nx := 14) rfl rfl ?_
  refine g_iaload hx dX4_replays_14 (nx := 15) rfl (hM.1 25 _ rfl) (by decide) iw9 ?_
  rw [ic]
  refine g_aloadG_n hx dX4_replays_15 rfl (nx := 16) rfl rfl ?_
  refine g_getfo_R hx dX4_replays_16 (nx := 19) rfl fa_X4_79 rfl (r9 := 46) (hM.2 26 rfl) (hM.1 0 _ rfl) (by decide) ?_
  refine g_iloadG_n hx dX4_replays_19 rfl (nx := 20) rfl rfl ?_
  refine g_iaload hx dX4_replays_20 (nx := 21) rfl (hM.1 26 _ rfl) (by decide) iw9 ?_
  refine g_aloadG_n hx dX4_replays_21 rfl (nx := 22) rfl rfl ?_
  refine g_getfo_R hx dX4_replays_22 (nx := 25) rfl fa_X4_51 rfl (r9 := 35) (hM.2 15 rfl) (hM.1 0 _ rfl) (by decide) ?_
  refine g_iloadG_n hx dX4_replays_25 rfl (nx := 26) rfl rfl ?_
  refine g_iaload hx dX4_replays_26 (nx := 27) rfl (hM.1 15 _ rfl) (by decide) scw ?_
  refine g_icmp_ge hx dX4_replays_27 (tg := 39) (by decide) (nx := 30) rfl (fun c27 => ?_) (fun c27 => ?_)
  · refine g_aloadG_n hx dX4_replays_39 rfl (nx := 40) rfl rfl ?_
    refine g_getfo_R hx dX4_replays_40 (nx := 43) rfl fa_X4_51 rfl (r9 := 35) (hM.2 15 rfl) (hM.1 0 _ rfl) (by decide) ?_
    refine g_iloadG_n hx dX4_replays_43 rfl (nx := 44) rfl rfl ?_
    refine g_iaload hx dX4_replays_44 (nx := 45) rfl (hM.1 15 _ rfl) (by decide) scw ?_
    rw [ic, sck, (k6 hkd).1, (hl (sc i) k1).2.1] at c27
    rw [sck, (hl (sc i) k1).2.1, show nI (oo (sc i)) = nI (min (dc i) (oo (sc i))) by rw [Nat.min_eq_right ((nI_leI (by have := (hl (sc i) k1).2.2; omega) (by have := (k6 hkd).2.1; omega)).mp c27)]]
    refine g_callV_M hx [_, _, _] (k' := 0) (n' := 0) dX4_replays_45 (nx := 48) rfl lk_X4_166 (hM.1 0 _ rfl) (by decide) rfl rfl (Nat.le_of_ble_eq_true rfl) (Nat.le_of_ble_eq_true rfl) (Nat.le_of_ble_eq_true rfl) (Nat.le_of_ble_eq_true rfl) (Nat.le_of_ble_eq_true rfl) (Nat.le_of_ble_eq_true rfl) (Nat.le_of_ble_eq_true rfl) (s_X4_laysAll (q := q (sc i)) (V := V (sc i)) (ff := ff (sc i)) (mm := min (dc i) (oo (sc i))) hst hM hT (by omega) ((hl (sc i) k1).1.le (Nat.min_le_right _ _)) (by have := (hl (sc i) k1).2.2; omega) (k6 hkd).2.2 (fun I1 L1 e1 e2 r1 => ?_))
    refine g_aloadG_n hx dX4_replays_48 rfl (nx := 49) rfl rfl ?_
    refine g_aloadG_n hx dX4_replays_49 rfl (nx := 50) rfl rfl ?_
    refine g_getfo_R hx dX4_replays_50 (nx := 53) rfl fa_X4_73 rfl (r9 := 44) (hM.2 24 rfl) (hM.1 0 _ rfl) (by decide) ?_
    refine g_iloadG_n hx dX4_replays_53 rfl (nx := 54) rfl rfl ?_
    refine g_iaload hx dX4_replays_54 (nx := 55) rfl (hM.1 24 _ rfl) (by decide) iw9 ?_
    rw [ic, e1 44 i (by omega) (by decide)]
    refine g_callV_M hx [_] (k' := 0) (n' := 0) dX4_replays_55 (nx := 58) rfl lk_X4_173 (hM.1 0 _ rfl) (by decide) rfl rfl (Nat.le_of_ble_eq_true rfl) (Nat.le_of_ble_eq_true rfl) (Nat.le_of_ble_eq_true rfl) (Nat.le_of_ble_eq_true rfl) (Nat.le_of_ble_eq_true rfl) (Nat.le_of_ble_eq_true rfl) (Nat.le_of_ble_eq_true rfl) (s_X4_powerOf (j := ln i) hst hM (hT.x e1) r1 k3 (by omega) ?_)
    refine g_aloadG_n hx dX4_replays_58 rfl (nx := 59) rfl rfl ?_
    refine g_getfo_R hx dX4_replays_59 (nx := 62) rfl fa_X4_82 rfl (r9 := 47) (hM.2 27 rfl) (hM.1 0 _ rfl) (by decide) ?_
    refine g_iloadG_n hx dX4_replays_62 rfl (nx := 63) rfl rfl ?_
    refine g_laload hx dX4_replays_63 (nx := 64) rfl (hM.1 27 _ rfl) (by decide) iw9 ?_
    rw [ic, e2 47 i (by decide)]
    refine g_lcmp hx dX4_replays_64 (nx := 65) rfl ?_
    refine g_if_ne hx dX4_replays_65 (tg := 72) (by decide) (nx := 68) rfl (fun c65 => ?_) (fun c65 => ?_)
    · refine g_iconst hx dX4_replays_72 (nx := 73) rfl (v := 0) (by decide) ?_
      refine g_iret hx dX4_replays_73 rfl rfl (Nat.le_of_ble_eq_true rfl) (Nat.le_of_ble_eq_true rfl) ?_
      first
        | (rw [zI_t (show rpM I L q V ff oo (sc i) (dc i) i from (lg_cmp_eq _ _).mp c65)] at hk; exact hk I1 L1 e1 e2)
        | (rw [zI_f (show ¬ rpM I L q V ff oo (sc i) (dc i) i from fun z => c65 ((lg_cmp_eq _ _).mpr z))] at hk; exact hk I1 L1 e1 e2)
    · refine g_iconst hx dX4_replays_68 (nx := 69) rfl (v := 1) (by decide) ?_
      refine g_goto hx dX4_replays_69 (tg := 73) (by decide) ?_
      refine g_iret hx dX4_replays_73 rfl rfl (Nat.le_of_ble_eq_true rfl) (Nat.le_of_ble_eq_true rfl) ?_
      first
        | (rw [zI_t (show rpM I L q V ff oo (sc i) (dc i) i from (lg_cmp_eq _ _).mp c65)] at hk; exact hk I1 L1 e1 e2)
        | (rw [zI_f (show ¬ rpM I L q V ff oo (sc i) (dc i) i from fun z => c65 ((lg_cmp_eq _ _).mpr z))] at hk; exact hk I1 L1 e1 e2)
  · refine g_aloadG_n hx dX4_replays_30 rfl (nx := 31) rfl rfl ?_
    refine g_getfo_R hx dX4_replays_31 (nx := 34) rfl fa_X4_79 rfl (r9 := 46) (hM.2 26 rfl) (hM.1 0 _ rfl) (by decide) ?_
    refine g_iloadG_n hx dX4_replays_34 rfl (nx := 35) rfl rfl ?_
    refine g_iaload hx dX4_replays_35 (nx := 36) rfl (hM.1 26 _ rfl) (by decide) iw9 ?_
    refine g_goto hx dX4_replays_36 (tg := 45) (by decide) ?_
    rw [ic, sck, (k6 hkd).1, (hl (sc i) k1).2.1] at c27
    rw [ic, (k6 hkd).1, show nI (dc i) = nI (min (dc i) (oo (sc i))) by rw [Nat.min_eq_left (Nat.le_of_lt ((nI_ltI (by have := (k6 hkd).2.1; omega) (by have := (hl (sc i) k1).2.2; omega)).mp (Int32.not_le.mp c27)))]]
    refine g_callV_M hx [_, _, _] (k' := 0) (n' := 0) dX4_replays_45 (nx := 48) rfl lk_X4_166 (hM.1 0 _ rfl) (by decide) rfl rfl (Nat.le_of_ble_eq_true rfl) (Nat.le_of_ble_eq_true rfl) (Nat.le_of_ble_eq_true rfl) (Nat.le_of_ble_eq_true rfl) (Nat.le_of_ble_eq_true rfl) (Nat.le_of_ble_eq_true rfl) (Nat.le_of_ble_eq_true rfl) (s_X4_laysAll (q := q (sc i)) (V := V (sc i)) (ff := ff (sc i)) (mm := min (dc i) (oo (sc i))) hst hM hT (by omega) ((hl (sc i) k1).1.le (Nat.min_le_right _ _)) (by have := (hl (sc i) k1).2.2; omega) (k6 hkd).2.2 (fun I1 L1 e1 e2 r1 => ?_))
    refine g_aloadG_n hx dX4_replays_48 rfl (nx := 49) rfl rfl ?_
    refine g_aloadG_n hx dX4_replays_49 rfl (nx := 50) rfl rfl ?_
    refine g_getfo_R hx dX4_replays_50 (nx := 53) rfl fa_X4_73 rfl (r9 := 44) (hM.2 24 rfl) (hM.1 0 _ rfl) (by decide) ?_
    refine g_iloadG_n hx dX4_replays_53 rfl (nx := 54) rfl rfl ?_
    refine g_iaload hx dX4_replays_54 (nx := 55) rfl (hM.1 24 _ rfl) (by decide) iw9 ?_
    rw [ic, e1 44 i (by omega) (by decide)]
    refine g_callV_M hx [_] (k' := 0) (n' := 0) dX4_replays_55 (nx := 58) rfl lk_X4_173 (hM.1 0 _ rfl) (by decide) rfl rfl (Nat.le_of_ble_eq_true rfl) (Nat.le_of_ble_eq_true rfl) (Nat.le_of_ble_eq_true rfl) (Nat.le_of_ble_eq_true rfl) (Nat.le_of_ble_eq_true rfl) (Nat.le_of_ble_eq_true rfl) (Nat.le_of_ble_eq_true rfl) (s_X4_powerOf (j := ln i) hst hM (hT.x e1) r1 k3 (by omega) ?_)
    refine g_aloadG_n hx dX4_replays_58 rfl (nx := 59) rfl rfl ?_
    refine g_getfo_R hx dX4_replays_59 (nx := 62) rfl fa_X4_82 rfl (r9 := 47) (hM.2 27 rfl) (hM.1 0 _ rfl) (by decide) ?_
    refine g_iloadG_n hx dX4_replays_62 rfl (nx := 63) rfl rfl ?_
    refine g_laload hx dX4_replays_63 (nx := 64) rfl (hM.1 27 _ rfl) (by decide) iw9 ?_
    rw [ic, e2 47 i (by decide)]
    refine g_lcmp hx dX4_replays_64 (nx := 65) rfl ?_
    refine g_if_ne hx dX4_replays_65 (tg := 72) (by decide) (nx := 68) rfl (fun c65 => ?_) (fun c65 => ?_)
    · refine g_iconst hx dX4_replays_72 (nx := 73) rfl (v := 0) (by decide) ?_
      refine g_iret hx dX4_replays_73 rfl rfl (Nat.le_of_ble_eq_true rfl) (Nat.le_of_ble_eq_true rfl) ?_
      first
        | (rw [zI_t (show rpM I L q V ff oo (sc i) (dc i) i from (lg_cmp_eq _ _).mp c65)] at hk; exact hk I1 L1 e1 e2)
        | (rw [zI_f (show ¬ rpM I L q V ff oo (sc i) (dc i) i from fun z => c65 ((lg_cmp_eq _ _).mpr z))] at hk; exact hk I1 L1 e1 e2)
    · refine g_iconst hx dX4_replays_68 (nx := 69) rfl (v := 1) (by decide) ?_
      refine g_goto hx dX4_replays_69 (tg := 73) (by decide) ?_
      refine g_iret hx dX4_replays_73 rfl rfl (Nat.le_of_ble_eq_true rfl) (Nat.le_of_ble_eq_true rfl) ?_
      first
        | (rw [zI_t (show rpM I L q V ff oo (sc i) (dc i) i from (lg_cmp_eq _ _).mp c65)] at hk; exact hk I1 L1 e1 e2)
        | (rw [zI_f (show ¬ rpM I L q V ff oo (sc i) (dc i) i from fun z => c65 ((lg_cmp_eq _ _).mpr z))] at hk; exact hk I1 L1 e1 e2)

abbrev rmX4_sound : Room := { frames := 5, cells := 0, slots := 0, locals := 118 }
set_option maxHeartbeats 4000000 in
set_option maxRecDepth 100000 in
theorem s_X4_sound {l : Launch} {E : aE} {S : aS} {I : aI} {L : aL} {Rf : aR} {Kr : aK} {Kx : aX} (hst : l.stackTraces = false) {n nc i : Nat} {sc dc ln : Nat → Nat} {q : Nat → Nat → Bool} {V : Nat → Nat → Int64} {ff : Nat → Nat → Int32} {oo : Nat → Nat} (hM : lyM S Rf) (hT : tbM I) (hl : okM I n q V ff oo) (hn6 : n ≤ 6) (hn40 : nc ≤ 40) (hcl : clM I n nc sc dc ln) (hi9 : i < nc) (hk : ∀ I' L', eM I' I → eL L' L → Kr (some (.int (zI (hlM I L q V ff oo (sc i) (dc i) i)))) S I' L' Rf) : aMet l E yX4_sound cX4_sound 2 (some .boolean) rmX4_sound [.ref 20, .int (nI i)] (S) (I) (L) (Rf) Kr Kx := by
  refine aMet.of (lv0 := [.ref 20, .int (nI i)]) (z := 0) (by decide +kernel) hst rfl (Nat.le_of_ble_eq_true rfl) ?_
  intro p e s m args below meth c io0 hx hin hno
  have hx : aCx p l s m args meth c RX4 cX4_sound 2 (some .boolean) E := hx
  have ic : (nI i).toNatClampNeg = i := nI_clamp (by omega)
  have iw9 : vp_in (nI i) 40 := vp_in_nI (by omega) (by decide)
  obtain ⟨k1, k2, k3, k4, k5, k6⟩ := hcl i hi9
  refine g_aloadG_n hx dX4_sound_0 rfl (nx := 1) rfl rfl ?_
  refine g_getfo_R hx dX4_sound_1 (nx := 4) rfl fa_X4_67 rfl (r9 := 42) (hM.2 22 rfl) (hM.1 0 _ rfl) (by decide) ?_
  refine g_iloadG_n hx dX4_sound_4 rfl (nx := 5) rfl rfl ?_
  refine g_iaload hx dX4_sound_5 (nx := 6) rfl (hM.1 22 _ rfl) (by decide) iw9 ?_
  rw [ic]
  refine g_if_ne hx dX4_sound_6 (tg := 17) (by decide) (nx := 9) rfl (fun c6 => ?_) (fun c6 => ?_)
  · refine g_aloadG_n hx dX4_sound_17 rfl (nx := 18) rfl rfl ?_
    refine g_getfo_R hx dX4_sound_18 (nx := 21) rfl fa_X4_67 rfl (r9 := 42) (hM.2 22 rfl) (hM.1 0 _ rfl) (by decide) ?_
    refine g_iloadG_n hx dX4_sound_21 rfl (nx := 22) rfl rfl ?_
    refine g_iaload hx dX4_sound_22 (nx := 23) rfl (hM.1 22 _ rfl) (by decide) iw9 ?_
    rw [ic]
    refine g_iconst hx dX4_sound_23 (nx := 24) rfl (v := 1) (by decide) ?_
    refine g_icmp_eq hx dX4_sound_24 (tg := 49) (by decide) (nx := 27) rfl (fun c24 => ?_) (fun c24 => ?_)
    · refine g_iconst hx dX4_sound_49 (nx := 50) rfl (v := 1) (by decide) ?_
      refine g_goto hx dX4_sound_50 (tg := 54) (by decide) ?_
      refine g_iret hx dX4_sound_54 rfl (by first | exact zI_nar _ | rfl) (Nat.le_of_ble_eq_true rfl) (Nat.le_of_ble_eq_true rfl) ?_
      first
        | (have e : hlM I L q V ff oo (sc i) (dc i) i ↔ rpM I L q V ff oo (sc i) (dc i) i := ⟨fun z => z.1 c6, fun z => ⟨fun _ => z, fun w => absurd (c6.symm.trans w) (by decide)⟩⟩
           have K := hk I1 L1 e1 e2
           rw [zI_c e] at K
           exact K)
        | (have K := hk I L (eM.refl I) (eL.refl L)
           rw [zI_t (show hlM I L q V ff oo (sc i) (dc i) i from ⟨fun z => absurd z c6, fun z => absurd (c24.symm.trans z) (by decide)⟩)] at K
           exact K)
        | (have K := hk I L (eM.refl I) (eL.refl L)
           rw [zI_t (show hlM I L q V ff oo (sc i) (dc i) i from ⟨fun z => absurd z c6, fun _ => zI_z.mp c46⟩)] at K
           exact K)
        | (have K := hk I L (eM.refl I) (eL.refl L)
           rw [zI_f (show ¬ hlM I L q V ff oo (sc i) (dc i) i from fun z => z.2 ((k5.resolve_left c6).resolve_left c24) (zI_n.mp c46))] at K
           exact K)
    · refine g_aloadG_n hx dX4_sound_27 rfl (nx := 28) rfl rfl ?_
      refine g_aloadG_n hx dX4_sound_28 rfl (nx := 29) rfl rfl ?_
      refine g_getfo_R hx dX4_sound_29 (nx := 32) rfl fa_X4_70 rfl (r9 := 43) (hM.2 23 rfl) (hM.1 0 _ rfl) (by decide) ?_
      refine g_iloadG_n hx dX4_sound_32 rfl (nx := 33) rfl rfl ?_
      refine g_iaload hx dX4_sound_33 (nx := 34) rfl (hM.1 23 _ rfl) (by decide) iw9 ?_
      rw [ic, k2]
      refine g_ldc hx dX4_sound_34 (nx := 36) rfl kc_X4_193 ?_
      refine g_aloadG_n hx dX4_sound_36 rfl (nx := 37) rfl rfl ?_
      refine g_getfo_R hx dX4_sound_37 (nx := 40) rfl fa_X4_73 rfl (r9 := 44) (hM.2 24 rfl) (hM.1 0 _ rfl) (by decide) ?_
      refine g_iloadG_n hx dX4_sound_40 rfl (nx := 41) rfl rfl ?_
      refine g_iaload hx dX4_sound_41 (nx := 42) rfl (hM.1 24 _ rfl) (by decide) iw9 ?_
      rw [ic]
      refine g_imul hx dX4_sound_42 (nx := 43) rfl ?_
      refine g_callV_M hx [_, _] (k' := 0) (n' := 0) dX4_sound_43 (nx := 46) rfl lk_X4_217 (hM.1 0 _ rfl) (by decide) rfl rfl (Nat.le_of_ble_eq_true rfl) (Nat.le_of_ble_eq_true rfl) (Nat.le_of_ble_eq_true rfl) (Nat.le_of_ble_eq_true rfl) (Nat.le_of_ble_eq_true rfl) (Nat.le_of_ble_eq_true rfl) (Nat.le_of_ble_eq_true rfl) (s_X4_isTone hst hM (by omega) ?_)
      refine g_if_ne hx dX4_sound_46 (tg := 53) (by decide) (nx := 49) rfl (fun c46 => ?_) (fun c46 => ?_)
      · refine g_iconst hx dX4_sound_53 (nx := 54) rfl (v := 0) (by decide) ?_
        refine g_iret hx dX4_sound_54 rfl (by first | exact zI_nar _ | rfl) (Nat.le_of_ble_eq_true rfl) (Nat.le_of_ble_eq_true rfl) ?_
        first
          | (have e : hlM I L q V ff oo (sc i) (dc i) i ↔ rpM I L q V ff oo (sc i) (dc i) i := ⟨fun z => z.1 c6, fun z => ⟨fun _ => z, fun w => absurd (c6.symm.trans w) (by decide)⟩⟩
             have K := hk I1 L1 e1 e2
             rw [zI_c e] at K
             exact K)
          | (have K := hk I L (eM.refl I) (eL.refl L)
             rw [zI_t (show hlM I L q V ff oo (sc i) (dc i) i from ⟨fun z => absurd z c6, fun z => absurd (c24.symm.trans z) (by decide)⟩)] at K
             exact K)
          | (have K := hk I L (eM.refl I) (eL.refl L)
             rw [zI_t (show hlM I L q V ff oo (sc i) (dc i) i from ⟨fun z => absurd z c6, fun _ => zI_z.mp c46⟩)] at K
             exact K)
          | (have K := hk I L (eM.refl I) (eL.refl L)
             rw [zI_f (show ¬ hlM I L q V ff oo (sc i) (dc i) i from fun z => z.2 ((k5.resolve_left c6).resolve_left c24) (zI_n.mp c46))] at K
             exact K)
      · refine g_iconst hx dX4_sound_49 (nx := 50) rfl (v := 1) (by decide) ?_
        refine g_goto hx dX4_sound_50 (tg := 54) (by decide) ?_
        refine g_iret hx dX4_sound_54 rfl (by first | exact zI_nar _ | rfl) (Nat.le_of_ble_eq_true rfl) (Nat.le_of_ble_eq_true rfl) ?_
        first
          | (have e : hlM I L q V ff oo (sc i) (dc i) i ↔ rpM I L q V ff oo (sc i) (dc i) i := ⟨fun z => z.1 c6, fun z => ⟨fun _ => z, fun w => absurd (c6.symm.trans w) (by decide)⟩⟩
             have K := hk I1 L1 e1 e2
             rw [zI_c e] at K
             exact K)
          | (have K := hk I L (eM.refl I) (eL.refl L)
             rw [zI_t (show hlM I L q V ff oo (sc i) (dc i) i from ⟨fun z => absurd z c6, fun z => absurd (c24.symm.trans z) (by decide)⟩)] at K
             exact K)
          | (have K := hk I L (eM.refl I) (eL.refl L)
             rw [zI_t (show hlM I L q V ff oo (sc i) (dc i) i from ⟨fun z => absurd z c6, fun _ => zI_z.mp c46⟩)] at K
             exact K)
          | (have K := hk I L (eM.refl I) (eL.refl L)
             rw [zI_f (show ¬ hlM I L q V ff oo (sc i) (dc i) i from fun z => z.2 ((k5.resolve_left c6).resolve_left c24) (zI_n.mp c46))] at K
             exact K)
  · refine g_aloadG_n hx dX4_sound_9 rfl (nx := 10) rfl rfl ?_
    refine g_iloadG_n hx dX4_sound_10 rfl (nx := 11) rfl rfl ?_
    refine g_callV_M hx [_] (k' := 0) (n' := 0) dX4_sound_11 (nx := 14) rfl lk_X4_214 (hM.1 0 _ rfl) (by decide) rfl rfl (Nat.le_of_ble_eq_true rfl) (Nat.le_of_ble_eq_true rfl) (Nat.le_of_ble_eq_true rfl) (Nat.le_of_ble_eq_true rfl) (Nat.le_of_ble_eq_true rfl) (Nat.le_of_ble_eq_true rfl) (Nat.le_of_ble_eq_true rfl) (s_X4_replays (n := n) (nc := nc) hst hM hT hl hn6 hn40 hcl hi9 c6 (fun I1 L1 e1 e2 => ?_))
    refine g_goto hx dX4_sound_14 (tg := 54) (by decide) ?_
    refine g_iret hx dX4_sound_54 rfl (by first | exact zI_nar _ | rfl) (Nat.le_of_ble_eq_true rfl) (Nat.le_of_ble_eq_true rfl) ?_
    first
      | (have e : hlM I L q V ff oo (sc i) (dc i) i ↔ rpM I L q V ff oo (sc i) (dc i) i := ⟨fun z => z.1 c6, fun z => ⟨fun _ => z, fun w => absurd (c6.symm.trans w) (by decide)⟩⟩
         have K := hk I1 L1 e1 e2
         rw [zI_c e] at K
         exact K)
      | (have K := hk I L (eM.refl I) (eL.refl L)
         rw [zI_t (show hlM I L q V ff oo (sc i) (dc i) i from ⟨fun z => absurd z c6, fun z => absurd (c24.symm.trans z) (by decide)⟩)] at K
         exact K)
      | (have K := hk I L (eM.refl I) (eL.refl L)
         rw [zI_t (show hlM I L q V ff oo (sc i) (dc i) i from ⟨fun z => absurd z c6, fun _ => zI_z.mp c46⟩)] at K
         exact K)
      | (have K := hk I L (eM.refl I) (eL.refl L)
         rw [zI_f (show ¬ hlM I L q V ff oo (sc i) (dc i) i from fun z => z.2 ((k5.resolve_left c6).resolve_left c24) (zI_n.mp c46))] at K
         exact K)

