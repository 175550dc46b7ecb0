/-! the reference: claims that fall, that are sound -/
theorem zI_n {p : Prop} : zI p ≠ 0 ↔ p := by
  by_cases h : p
  · rw [zI_t h]; exact ⟨fun _ => h, fun _ => by decide⟩
  · rw [zI_f h]; exact ⟨fun z => absurd rfl z, fun z => absurd z h⟩
theorem zI_z {p : Prop} : zI p = 0 ↔ ¬ p := ⟨fun z w => zI_n.mpr w z, zI_f⟩
theorem zI_c {p q : Prop} (h : p ↔ q) : zI p = zI q := by rw [propext h]
def faP (ci : Nat → Int64) (st : Nat → Int32) (k m : Nat) : Prop := ∃ j, j < m ∧ bqP (ci k) j ∧ st j = 0
noncomputable def foM (ci : Nat → Int64) (sd : Nat → Int32) : Nat → Nat → Int32
  | 0 => sd
  | k + 1 => fun j => if j = k then zI (sd k ≠ 0 ∧ ¬ faP ci (foM ci sd k) k k) else foM ci sd k j
noncomputable def cnM (ci : Nat → Int64) (sd : Nat → Int32) : Nat → Int32
  | 0 => 0
  | k + 1 => cnM ci sd k + zI (faP ci (foM ci sd k) k k ∧ sd k ≠ 0)
theorem foM_s (ci : Nat → Int64) (sd : Nat → Int32) (k j : Nat) : foM ci sd (k + 1) j = if j = k then zI (sd k ≠ 0 ∧ ¬ faP ci (foM ci sd k) k k) else foM ci sd k j := rfl
theorem foM_ge (ci : Nat → Int64) (sd : Nat → Int32) : ∀ k j, k ≤ j → foM ci sd k j = sd j := by
  intro k
  induction k with
  | zero => intro j _; rfl
  | succ k ih => intro j hj; rw [foM_s, if_neg (by omega)]; exact ih j (by omega)
theorem faP_s {ci : Nat → Int64} {st : Nat → Int32} {k m : Nat} : faP ci st k (m + 1) ↔ faP ci st k m ∨ (bqP (ci k) m ∧ st m = 0) := by
  constructor
  · rintro ⟨j, h1, h2, h3⟩
    rcases Nat.eq_or_lt_of_le (Nat.le_of_lt_succ h1) with e | e
    · subst e; exact Or.inr ⟨h2, h3⟩
    · exact Or.inl ⟨j, e, h2, h3⟩
  · rintro (⟨j, h1, h2, h3⟩ | ⟨h2, h3⟩)
    · exact ⟨j, by omega, h2, h3⟩
    · exact ⟨m, by omega, h2, h3⟩
abbrev rmX4_follows : Room := { frames := 0, cells := 0, slots := 0, locals := 0 }
set_option maxHeartbeats 4000000 in
set_option maxRecDepth 100000 in
theorem s_X4_follows {l : Launch} {E : aE} {S : aS} {I : aI} {L : aL} {Rf : aR} {Kr : aK} {Kx : aX} (hst : l.stackTraces = false) {nc : Nat} (hM : lyM S Rf) (h21 : I 20 21 = nI nc) (hn40 : nc ≤ 40) (hk : ∀ I', (∀ a b, a ≠ 50 → I' a b = I a b) → (∀ j, I' 50 j = foM (fun k => L 49 k) (fun k => I 50 k) nc j) → Kr (some (.int (cnM (fun k => L 49 k) (fun k => I 50 k) nc))) S I' L Rf) : aMet l E yX4_follows cX4_follows 5 (some .int) rmX4_follows [.ref 20] (S) (I) (L) (Rf) Kr Kx := by
  refine aMet.of (lv0 := [.ref 20, aU, aU, aU, aU]) (z := 4) (by decide +kernel) hst rfl (Nat.le_of_ble_eq_true rfl) ?_
  intro p e s m args below meth c io0 hx hin hno
  have hx : aCx p l s m args meth c RX4 cX4_follows 5 (some .int) E := hx
  have inner : ∀ (i : Nat) (I' : aI), i < nc → (∀ j, I' 50 j = foM (fun k => L 49 k) (fun k => I 50 k) i j) → aG p l e rmX4_follows s m args below meth c E io0 S 5 (vx_MQ below (aQc E io0 S Kr) (aXC E io0 S Kx) args s rmX4_follows.cells rmX4_follows.slots (aW E)) 65 [.ref 20, .int (cnM (fun k => L 49 k) (fun k => I 50 k) i), .int (nI i), .int (zI (faP (fun k => L 49 k) (foM (fun k => L 49 k) (fun k => I 50 k) i) i i)), .int (nI i)] [] (S) (I') (L) (Rf) 0 0 → ∀ (r j : Nat), j + r = i → aG p l e rmX4_follows s m args below meth c E io0 S 5 (vx_MQ below (aQc E io0 S Kr) (aXC E io0 S Kx) args s rmX4_follows.cells rmX4_follows.slots (aW E)) 17 [.ref 20, .int (cnM (fun k => L 49 k) (fun k => I 50 k) i), .int (nI i), .int (zI (faP (fun k => L 49 k) (foM (fun k => L 49 k) (fun k => I 50 k) i) i j)), .int (nI j)] [] (S) (I') (L) (Rf) 0 0 := by
    intro i I' hi0 h2 knext r
    have hic : (nI i).toNatClampNeg = i := nI_clamp (by omega)
    have hin : vp_in (nI i) 40 := vp_in_nI (by omega) (by decide)
    induction r with
    | zero =>
      intro j hj
      have hj : j = i := by omega
      subst hj
      refine g_iloadG hx dX4_follows_17 (nx := 19) rfl rfl ?_
      refine g_iloadG_n hx dX4_follows_19 rfl (nx := 20) rfl rfl ?_
      refine g_icmp_ge hx dX4_follows_20 (tg := 65) (by decide) (nx := 23) rfl (fun c20 => ?_) (fun c20 => ?_)
      · exact knext
      · exact absurd (Int32.le_refl _) c20
    | succ r ih =>
      intro j hj
      have hjc : (nI j).toNatClampNeg = j := nI_clamp (by omega)
      have hjn : vp_in (nI j) 40 := vp_in_nI (by omega) (by decide)
      have K := ih (j + 1) (by omega)
      refine g_iloadG hx dX4_follows_17 (nx := 19) rfl rfl ?_
      refine g_iloadG_n hx dX4_follows_19 rfl (nx := 20) rfl rfl ?_
      refine g_icmp_ge hx dX4_follows_20 (tg := 65) (by decide) (nx := 23) rfl (fun c20 => ?_) (fun c20 => ?_)
      · exact absurd c20 (nI_ge (by omega) (by omega))
      · refine g_iloadG_n hx dX4_follows_23 rfl (nx := 24) rfl rfl ?_
        refine g_if_ne hx dX4_follows_24 (tg := 53) (by decide) (nx := 27) rfl (fun c24 => ?_) (fun c24 => ?_)
        · refine g_iconst hx dX4_follows_53 (nx := 54) rfl (v := 1) (by decide) ?_
          refine g_goto hx dX4_follows_54 (tg := 58) (by decide) ?_
          refine g_istore_3 hx dX4_follows_58 (nx := 59) rfl (by decide) rfl ?_
          refine g_iinc_4 hx dX4_follows_59 (nx := 62) rfl (by decide) (v := 1) (by decide) rfl ?_
          refine g_goto hx dX4_follows_62 (tg := 17) (by decide) ?_
          rw [← nI_succ]
          have e1 : zI (faP (fun k => L 49 k) (foM (fun k => L 49 k) (fun k => I 50 k) i) i (j + 1)) = 1 := zI_t (faP_s.mpr (by first | exact Or.inl (zI_n.mp c24) | exact Or.inr ⟨(lg_cmp_eq _ _).mp c40, (h2 j).symm.trans c50⟩))
          rw [e1] at K
          exact K
        · refine g_aloadG_n hx dX4_follows_27 rfl (nx := 28) rfl rfl ?_
          refine g_getfo_R hx dX4_follows_28 (nx := 31) rfl fa_X4_88 rfl (r9 := 49) (hM.2 29 rfl) (hM.1 0 _ rfl) (by decide) ?_
          refine g_iloadG_n hx dX4_follows_31 rfl (nx := 32) rfl rfl ?_
          refine g_laload hx dX4_follows_32 (nx := 33) rfl (hM.1 29 _ rfl) (by decide) hin ?_
          rw [hic]
          refine g_iloadG hx dX4_follows_33 (nx := 35) rfl rfl ?_
          refine g_lshr hx dX4_follows_35 (nx := 36) rfl ?_
          refine g_lconst hx dX4_follows_36 (nx := 37) rfl (v := 1) (by decide) ?_
          refine g_land hx dX4_follows_37 (nx := 38) rfl ?_
          refine g_lconst hx dX4_follows_38 (nx := 39) rfl (v := 1) (by decide) ?_
          refine g_lcmp hx dX4_follows_39 (nx := 40) rfl ?_
          refine g_if_ne hx dX4_follows_40 (tg := 57) (by decide) (nx := 43) rfl (fun c40 => ?_) (fun c40 => ?_)
          · refine g_iconst hx dX4_follows_57 (nx := 58) rfl (v := 0) (by decide) ?_
            refine g_istore_3 hx dX4_follows_58 (nx := 59) rfl (by decide) rfl ?_
            refine g_iinc_4 hx dX4_follows_59 (nx := 62) rfl (by decide) (v := 1) (by decide) rfl ?_
            refine g_goto hx dX4_follows_62 (tg := 17) (by decide) ?_
            rw [← nI_succ]
            have e1 : zI (faP (fun k => L 49 k) (foM (fun k => L 49 k) (fun k => I 50 k) i) i (j + 1)) = 0 := zI_f (fun z => by first | exact (faP_s.mp z).elim (zI_z.mp c24) (fun w => c40 ((lg_cmp_eq _ _).mpr w.1)) | exact (faP_s.mp z).elim (zI_z.mp c24) (fun w => c50 ((h2 j).trans w.2)))
            rw [e1] at K
            exact K
          · refine g_aloadG_n hx dX4_follows_43 rfl (nx := 44) rfl rfl ?_
            refine g_getfo_R hx dX4_follows_44 (nx := 47) rfl fa_X4_91 rfl (r9 := 50) (hM.2 30 rfl) (hM.1 0 _ rfl) (by decide) ?_
            refine g_iloadG hx dX4_follows_47 (nx := 49) rfl rfl ?_
            refine g_baload hx dX4_follows_49 (nx := 50) rfl (hM.1 30 _ rfl) (by decide) hjn ?_
            rw [hjc]
            refine g_if_ne hx dX4_follows_50 (tg := 57) (by decide) (nx := 53) rfl (fun c50 => ?_) (fun c50 => ?_)
            · refine g_iconst hx dX4_follows_57 (nx := 58) rfl (v := 0) (by decide) ?_
              refine g_istore_3 hx dX4_follows_58 (nx := 59) rfl (by decide) rfl ?_
              refine g_iinc_4 hx dX4_follows_59 (nx := 62) rfl (by decide) (v := 1) (by decide) rfl ?_
              refine g_goto hx dX4_follows_62 (tg := 17) (by decide) ?_
              rw [← nI_succ]
              have e1 : zI (faP (fun k => L 49 k) (foM (fun k => L 49 k) (fun k => I 50 k) i) i (j + 1)) = 0 := zI_f (fun z => by first | exact (faP_s.mp z).elim (zI_z.mp c24) (fun w => c40 ((lg_cmp_eq _ _).mpr w.1)) | exact (faP_s.mp z).elim (zI_z.mp c24) (fun w => c50 ((h2 j).trans w.2)))
              rw [e1] at K
              exact K
            · refine g_iconst hx dX4_follows_53 (nx := 54) rfl (v := 1) (by decide) ?_
              refine g_goto hx dX4_follows_54 (tg := 58) (by decide) ?_
              refine g_istore_3 hx dX4_follows_58 (nx := 59) rfl (by decide) rfl ?_
              refine g_iinc_4 hx dX4_follows_59 (nx := 62) rfl (by decide) (v := 1) (by decide) rfl ?_
              refine g_goto hx dX4_follows_62 (tg := 17) (by decide) ?_
              rw [← nI_succ]
              have e1 : zI (faP (fun k => L 49 k) (foM (fun k => L 49 k) (fun k => I 50 k) i) i (j + 1)) = 1 := zI_t (faP_s.mpr (by first | exact Or.inl (zI_n.mp c24) | exact Or.inr ⟨(lg_cmp_eq _ _).mp c40, (h2 j).symm.trans c50⟩))
              rw [e1] at K
              exact K
  have loop1 : ∀ (r i : Nat) (I' : aI), i + r = nc → (∀ a b, a ≠ 50 → I' a b = I a b) → (∀ j, I' 50 j = foM (fun k => L 49 k) (fun k => I 50 k) i j) → ∀ w1 w2, aG p l e rmX4_follows s m args below meth c E io0 S 5 (vx_MQ below (aQc E io0 S Kr) (aXC E io0 S Kx) args s rmX4_follows.cells rmX4_follows.slots (aW E)) 4 [.ref 20, .int (cnM (fun k => L 49 k) (fun k => I 50 k) i), .int (nI i), w1, w2] [] (S) (I') (L) (Rf) 0 0 := by
    intro r
    induction r with
    | zero =>
      intro i I' hi h1 h2 w1 w2
      have hi : i = nc := by omega
      subst hi
      refine g_iloadG_n hx dX4_follows_4 rfl (nx := 5) rfl rfl ?_
      refine g_aloadG_n hx dX4_follows_5 rfl (nx := 6) rfl rfl ?_
      refine g_getfo_i hx dX4_follows_6 (nx := 9) rfl fa_X4_108 rfl (hM.1 0 _ rfl) (by decide) ?_
      refine g_icmp_ge hx dX4_follows_9 (tg := 116) (by decide) (nx := 12) rfl (fun c9 => ?_) (fun c9 => ?_)
      · refine g_iloadG_n hx dX4_follows_116 rfl (nx := 117) rfl rfl ?_
        refine g_iret hx dX4_follows_117 rfl rfl (Nat.le_of_ble_eq_true rfl) (Nat.le_of_ble_eq_true rfl) ?_
        exact hk I' h1 h2
      · exact absurd (by rw [h1 20 21 (by decide), h21]; exact Int32.le_refl _) c9
    | succ r ih =>
      intro i I' hi h1 h2 w1 w2
      have hic : (nI i).toNatClampNeg = i := nI_clamp (by omega)
      have hin : vp_in (nI i) 40 := vp_in_nI (by omega) (by decide)
      have e0 : zI (faP (fun k => L 49 k) (foM (fun k => L 49 k) (fun k => I 50 k) i) i 0) = 0 := zI_f (fun ⟨j, h, _⟩ => absurd h (Nat.not_lt_zero j))
      refine g_iloadG_n hx dX4_follows_4 rfl (nx := 5) rfl rfl ?_
      refine g_aloadG_n hx dX4_follows_5 rfl (nx := 6) rfl rfl ?_
      refine g_getfo_i hx dX4_follows_6 (nx := 9) rfl fa_X4_108 rfl (hM.1 0 _ rfl) (by decide) ?_
      refine g_icmp_ge hx dX4_follows_9 (tg := 116) (by decide) (nx := 12) rfl (fun c9 => ?_) (fun c9 => ?_)
      · exact absurd c9 (by rw [h1 20 21 (by decide), h21]; exact nI_ge (by omega) (by omega))
      · refine g_iconst hx dX4_follows_12 (nx := 13) rfl (v := 0) (by decide) ?_
        refine g_istore_3 hx dX4_follows_13 (nx := 14) rfl (by decide) rfl ?_
        refine g_iconst hx dX4_follows_14 (nx := 15) rfl (v := 0) (by decide) ?_
        refine g_istore_4 hx dX4_follows_15 (nx := 17) rfl (by decide) rfl ?_
        suffices K : aG p l e rmX4_follows s m args below meth c E io0 S 5 (vx_MQ below (aQc E io0 S Kr) (aXC E io0 S Kx) args s rmX4_follows.cells rmX4_follows.slots (aW E)) 17 [.ref 20, .int (cnM (fun k => L 49 k) (fun k => I 50 k) i), .int (nI i), .int (zI (faP (fun k => L 49 k) (foM (fun k => L 49 k) (fun k => I 50 k) i) i 0)), .int (nI 0)] [] (S) (I') (L) (Rf) 0 0 by
          rw [e0] at K; exact K
        refine inner i I' (by omega) h2 ?_ i 0 (Nat.zero_add _)
        refine g_iloadG_n hx dX4_follows_65 rfl (nx := 66) rfl rfl ?_
        refine g_iloadG_n hx dX4_follows_66 rfl (nx := 67) rfl rfl ?_
        refine g_if_eq hx dX4_follows_67 (tg := 83) (by decide) (nx := 70) rfl (fun c67 => ?_) (fun c67 => ?_)
        · refine g_iconst hx dX4_follows_83 (nx := 84) rfl (v := 0) (by decide) ?_
          refine g_iadd hx dX4_follows_84 (nx := 85) rfl ?_
          refine g_istore_1 hx dX4_follows_85 (nx := 86) rfl (by decide) rfl ?_
          refine g_aloadG_n hx dX4_follows_86 rfl (nx := 87) rfl rfl ?_
          refine g_getfo_R hx dX4_follows_87 (nx := 90) rfl fa_X4_91 rfl (r9 := 50) (hM.2 30 rfl) (hM.1 0 _ rfl) (by decide) ?_
          refine g_iloadG_n hx dX4_follows_90 rfl (nx := 91) rfl rfl ?_
          refine g_aloadG_n hx dX4_follows_91 rfl (nx := 92) rfl rfl ?_
          refine g_getfo_R hx dX4_follows_92 (nx := 95) rfl fa_X4_91 rfl (r9 := 50) (hM.2 30 rfl) (hM.1 0 _ rfl) (by decide) ?_
          refine g_iloadG_n hx dX4_follows_95 rfl (nx := 96) rfl rfl ?_
          refine g_baload hx dX4_follows_96 (nx := 97) rfl (hM.1 30 _ rfl) (by decide) hin ?_
          rw [hic]
          refine g_if_eq hx dX4_follows_97 (tg := 108) (by decide) (nx := 100) rfl (fun c97 => ?_) (fun c97 => ?_)
          · refine g_iconst hx dX4_follows_108 (nx := 109) rfl (v := 0) (by decide) ?_
            refine g_bastore hx dX4_follows_109 (nx := 110) rfl (hM.1 30 _ rfl) (by decide) hin rfl ?_
            rw [hic]
            refine g_iinc_2 hx dX4_follows_110 (nx := 113) rfl (by decide) (v := 1) (by decide) rfl ?_
            refine g_goto hx dX4_follows_113 (tg := 4) (by decide) ?_
            rw [← nI_succ]
            have hsd : I' 50 i = I 50 i := (h2 i).trans (foM_ge _ _ i i (Nat.le_refl _))
            first
              | exact absurd c97 c76
              | exact absurd c76 c97
              | exact absurd c101 c67
              | exact absurd c67 c101
              | (have e1 : zI (faP (fun k => L 49 k) (foM (fun k => L 49 k) (fun k => I 50 k) i) i i ∧ I 50 i ≠ 0) = 0 := zI_f (fun z => by first | exact (zI_z.mp c67) z.1 | exact z.2 (by rw [← hsd]; exact c76))
                 have e2 : zI (I 50 i ≠ 0 ∧ ¬ faP (fun k => L 49 k) (foM (fun k => L 49 k) (fun k => I 50 k) i) i i) = 0 := zI_f (fun z => by first | exact z.1 (by rw [← hsd]; exact c97) | exact z.2 (zI_n.mp c101))
                 refine cast ?_ (ih (i + 1) (au2 I' 50 i 0) (by omega) (fun a b z => by rw [au2_n (fun w => z w.1)]; exact h1 a b z) (fun j => ?_) (.int (zI (faP (fun k => L 49 k) (foM (fun k => L 49 k) (fun k => I 50 k) i) i i))) (.int (nI i)))
                 · rw [cnM, e1]
                 · by_cases e : j = i
                   · subst e; rw [au2_s, foM_s, if_pos rfl]; exact e2.symm
                   · rw [au2_n (fun w => e w.2), foM_s, if_neg e]; exact h2 j)
          · refine g_iloadG_n hx dX4_follows_100 rfl (nx := 101) rfl rfl ?_
            refine g_if_ne hx dX4_follows_101 (tg := 108) (by decide) (nx := 104) rfl (fun c101 => ?_) (fun c101 => ?_)
            · refine g_iconst hx dX4_follows_108 (nx := 109) rfl (v := 0) (by decide) ?_
              refine g_bastore hx dX4_follows_109 (nx := 110) rfl (hM.1 30 _ rfl) (by decide) hin rfl ?_
              rw [hic]
              refine g_iinc_2 hx dX4_follows_110 (nx := 113) rfl (by decide) (v := 1) (by decide) rfl ?_
              refine g_goto hx dX4_follows_113 (tg := 4) (by decide) ?_
              rw [← nI_succ]
              have hsd : I' 50 i = I 50 i := (h2 i).trans (foM_ge _ _ i i (Nat.le_refl _))
              first
                | exact absurd c97 c76
                | exact absurd c76 c97
                | exact absurd c101 c67
                | exact absurd c67 c101
                | (have e1 : zI (faP (fun k => L 49 k) (foM (fun k => L 49 k) (fun k => I 50 k) i) i i ∧ I 50 i ≠ 0) = 0 := zI_f (fun z => by first | exact (zI_z.mp c67) z.1 | exact z.2 (by rw [← hsd]; exact c76))
                   have e2 : zI (I 50 i ≠ 0 ∧ ¬ faP (fun k => L 49 k) (foM (fun k => L 49 k) (fun k => I 50 k) i) i i) = 0 := zI_f (fun z => by first | exact z.1 (by rw [← hsd]; exact c97) | exact z.2 (zI_n.mp c101))
                   refine cast ?_ (ih (i + 1) (au2 I' 50 i 0) (by omega) (fun a b z => by rw [au2_n (fun w => z w.1)]; exact h1 a b z) (fun j => ?_) (.int (zI (faP (fun k => L 49 k) (foM (fun k => L 49 k) (fun k => I 50 k) i) i i))) (.int (nI i)))
                   · rw [cnM, e1]
                   · by_cases e : j = i
                     · subst e; rw [au2_s, foM_s, if_pos rfl]; exact e2.symm
                     · rw [au2_n (fun w => e w.2), foM_s, if_neg e]; exact h2 j)
            · refine g_iconst hx dX4_follows_104 (nx := 105) rfl (v := 1) (by decide) ?_
              refine g_goto hx dX4_follows_105 (tg := 109) (by decide) ?_
              refine g_bastore hx dX4_follows_109 (nx := 110) rfl (hM.1 30 _ rfl) (by decide) hin rfl ?_
              rw [hic]
              refine g_iinc_2 hx dX4_follows_110 (nx := 113) rfl (by decide) (v := 1) (by decide) rfl ?_
              refine g_goto hx dX4_follows_113 (tg := 4) (by decide) ?_
              rw [← nI_succ]
              have hsd : I' 50 i = I 50 i := (h2 i).trans (foM_ge _ _ i i (Nat.le_refl _))
              first
                | exact absurd c97 c76
                | exact absurd c76 c97
                | exact absurd c101 c67
                | exact absurd c67 c101
                | (have e1 : zI (faP (fun k => L 49 k) (foM (fun k => L 49 k) (fun k => I 50 k) i) i i ∧ I 50 i ≠ 0) = 0 := zI_f (fun z => by first | exact (zI_z.mp c67) z.1 | exact z.2 (by rw [← hsd]; exact c76))
                   have e2 : zI (I 50 i ≠ 0 ∧ ¬ faP (fun k => L 49 k) (foM (fun k => L 49 k) (fun k => I 50 k) i) i i) = 1 := zI_t ⟨by rw [← hsd]; exact c97, zI_z.mp c101⟩
                   refine cast ?_ (ih (i + 1) (au2 I' 50 i 1) (by omega) (fun a b z => by rw [au2_n (fun w => z w.1)]; exact h1 a b z) (fun j => ?_) (.int (zI (faP (fun k => L 49 k) (foM (fun k => L 49 k) (fun k => I 50 k) i) i i))) (.int (nI i)))
                   · rw [cnM, e1]
                   · by_cases e : j = i
                     · subst e; rw [au2_s, foM_s, if_pos rfl]; exact e2.symm
                     · rw [au2_n (fun w => e w.2), foM_s, if_neg e]; exact h2 j)
        · refine g_aloadG_n hx dX4_follows_70 rfl (nx := 71) rfl rfl ?_
          refine g_getfo_R hx dX4_follows_71 (nx := 74) rfl fa_X4_91 rfl (r9 := 50) (hM.2 30 rfl) (hM.1 0 _ rfl) (by decide) ?_
          refine g_iloadG_n hx dX4_follows_74 rfl (nx := 75) rfl rfl ?_
          refine g_baload hx dX4_follows_75 (nx := 76) rfl (hM.1 30 _ rfl) (by decide) hin ?_
          rw [hic]
          refine g_if_eq hx dX4_follows_76 (tg := 83) (by decide) (nx := 79) rfl (fun c76 => ?_) (fun c76 => ?_)
          · refine g_iconst hx dX4_follows_83 (nx := 84) rfl (v := 0) (by decide) ?_
            refine g_iadd hx dX4_follows_84 (nx := 85) rfl ?_
            refine g_istore_1 hx dX4_follows_85 (nx := 86) rfl (by decide) rfl ?_
            refine g_aloadG_n hx dX4_follows_86 rfl (nx := 87) rfl rfl ?_
            refine g_getfo_R hx dX4_follows_87 (nx := 90) rfl fa_X4_91 rfl (r9 := 50) (hM.2 30 rfl) (hM.1 0 _ rfl) (by decide) ?_
            refine g_iloadG_n hx dX4_follows_90 rfl (nx := 91) rfl rfl ?_
            refine g_aloadG_n hx dX4_follows_91 rfl (nx := 92) rfl rfl ?_
            refine g_getfo_R hx dX4_follows_92 (nx := 95) rfl fa_X4_91 rfl (r9 := 50) (hM.2 30 rfl) (hM.1 0 _ rfl) (by decide) ?_
            refine g_iloadG_n hx dX4_follows_95 rfl (nx := 96) rfl rfl ?_
            refine g_baload hx dX4_follows_96 (nx := 97) rfl (hM.1 30 _ rfl) (by decide) hin ?_
            rw [hic]
            refine g_if_eq hx dX4_follows_97 (tg := 108) (by decide) (nx := 100) rfl (fun c97 => ?_) (fun c97 => ?_)
            · refine g_iconst hx dX4_follows_108 (nx := 109) rfl (v := 0) (by decide) ?_
              refine g_bastore hx dX4_follows_109 (nx := 110) rfl (hM.1 30 _ rfl) (by decide) hin rfl ?_
              rw [hic]
              refine g_iinc_2 hx dX4_follows_110 (nx := 113) rfl (by decide) (v := 1) (by decide) rfl ?_
              refine g_goto hx dX4_follows_113 (tg := 4) (by decide) ?_
              rw [← nI_succ]
              have hsd : I' 50 i = I 50 i := (h2 i).trans (foM_ge _ _ i i (Nat.le_refl _))
              first
                | exact absurd c97 c76
                | exact absurd c76 c97
                | exact absurd c101 c67
                | exact absurd c67 c101
                | (have e1 : zI (faP (fun k => L 49 k) (foM (fun k => L 49 k) (fun k => I 50 k) i) i i ∧ I 50 i ≠ 0) = 0 := zI_f (fun z => by first | exact (zI_z.mp c67) z.1 | exact z.2 (by rw [← hsd]; exact c76))
                   have e2 : zI (I 50 i ≠ 0 ∧ ¬ faP (fun k => L 49 k) (foM (fun k => L 49 k) (fun k => I 50 k) i) i i) = 0 := zI_f (fun z => by first | exact z.1 (by rw [← hsd]; exact c97) | exact z.2 (zI_n.mp c101))
                   refine cast ?_ (ih (i + 1) (au2 I' 50 i 0) (by omega) (fun a b z => by rw [au2_n (fun w => z w.1)]; exact h1 a b z) (fun j => ?_) (.int (zI (faP (fun k => L 49 k) (foM (fun k => L 49 k) (fun k => I 50 k) i) i i))) (.int (nI i)))
                   · rw [cnM, e1]
                   · by_cases e : j = i
                     · subst e; rw [au2_s, foM_s, if_pos rfl]; exact e2.symm
                     · rw [au2_n (fun w => e w.2), foM_s, if_neg e]; exact h2 j)
            · refine g_iloadG_n hx dX4_follows_100 rfl (nx := 101) rfl rfl ?_
              refine g_if_ne hx dX4_follows_101 (tg := 108) (by decide) (nx := 104) rfl (fun c101 => ?_) (fun c101 => ?_)
              · refine g_iconst hx dX4_follows_108 (nx := 109) rfl (v := 0) (by decide) ?_
                refine g_bastore hx dX4_follows_109 (nx := 110) rfl (hM.1 30 _ rfl) (by decide) hin rfl ?_
                rw [hic]
                refine g_iinc_2 hx dX4_follows_110 (nx := 113) rfl (by decide) (v := 1) (by decide) rfl ?_
                refine g_goto hx dX4_follows_113 (tg := 4) (by decide) ?_
                rw [← nI_succ]
                have hsd : I' 50 i = I 50 i := (h2 i).trans (foM_ge _ _ i i (Nat.le_refl _))
                first
                  | exact absurd c97 c76
                  | exact absurd c76 c97
                  | exact absurd c101 c67
                  | exact absurd c67 c101
                  | (have e1 : zI (faP (fun k => L 49 k) (foM (fun k => L 49 k) (fun k => I 50 k) i) i i ∧ I 50 i ≠ 0) = 0 := zI_f (fun z => by first | exact (zI_z.mp c67) z.1 | exact z.2 (by rw [← hsd]; exact c76))
                     have e2 : zI (I 50 i ≠ 0 ∧ ¬ faP (fun k => L 49 k) (foM (fun k => L 49 k) (fun k => I 50 k) i) i i) = 0 := zI_f (fun z => by first | exact z.1 (by rw [← hsd]; exact c97) | exact z.2 (zI_n.mp c101))
                     refine cast ?_ (ih (i + 1) (au2 I' 50 i 0) (by omega) (fun a b z => by rw [au2_n (fun w => z w.1)]; exact h1 a b z) (fun j => ?_) (.int (zI (faP (fun k => L 49 k) (foM (fun k => L 49 k) (fun k => I 50 k) i) i i))) (.int (nI i)))
                     · rw [cnM, e1]
                     · by_cases e : j = i
                       · subst e; rw [au2_s, foM_s, if_pos rfl]; exact e2.symm
                       · rw [au2_n (fun w => e w.2), foM_s, if_neg e]; exact h2 j)
              · refine g_iconst hx dX4_follows_104 (nx := 105) rfl (v := 1) (by decide) ?_
                refine g_goto hx dX4_follows_105 (tg := 109) (by decide) ?_
                refine g_bastore hx dX4_follows_109 (nx := 110) rfl (hM.1 30 _ rfl) (by decide) hin rfl ?_
                rw [hic]
                refine g_iinc_2 hx dX4_follows_110 (nx := 113) rfl (by decide) (v := 1) (by decide) rfl ?_
                refine g_goto hx dX4_follows_113 (tg := 4) (by decide) ?_
                rw [← nI_succ]
                have hsd : I' 50 i = I 50 i := (h2 i).trans (foM_ge _ _ i i (Nat.le_refl _))
                first
                  | exact absurd c97 c76
                  | exact absurd c76 c97
                  | exact absurd c101 c67
                  | exact absurd c67 c101
                  | (have e1 : zI (faP (fun k => L 49 k) (foM (fun k => L 49 k) (fun k => I 50 k) i) i i ∧ I 50 i ≠ 0) = 0 := zI_f (fun z => by first | exact (zI_z.mp c67) z.1 | exact z.2 (by rw [← hsd]; exact c76))
                     have e2 : zI (I 50 i ≠ 0 ∧ ¬ faP (fun k => L 49 k) (foM (fun k => L 49 k) (fun k => I 50 k) i) i i) = 1 := zI_t ⟨by rw [← hsd]; exact c97, zI_z.mp c101⟩
                     refine cast ?_ (ih (i + 1) (au2 I' 50 i 1) (by omega) (fun a b z => by rw [au2_n (fun w => z w.1)]; exact h1 a b z) (fun j => ?_) (.int (zI (faP (fun k => L 49 k) (foM (fun k => L 49 k) (fun k => I 50 k) i) i i))) (.int (nI i)))
                     · rw [cnM, e1]
                     · by_cases e : j = i
                       · subst e; rw [au2_s, foM_s, if_pos rfl]; exact e2.symm
                       · rw [au2_n (fun w => e w.2), foM_s, if_neg e]; exact h2 j)
          · refine g_iconst hx dX4_follows_79 (nx := 80) rfl (v := 1) (by decide) ?_
            refine g_goto hx dX4_follows_80 (tg := 84) (by decide) ?_
            refine g_iadd hx dX4_follows_84 (nx := 85) rfl ?_
            refine g_istore_1 hx dX4_follows_85 (nx := 86) rfl (by decide) rfl ?_
            refine g_aloadG_n hx dX4_follows_86 rfl (nx := 87) rfl rfl ?_
            refine g_getfo_R hx dX4_follows_87 (nx := 90) rfl fa_X4_91 rfl (r9 := 50) (hM.2 30 rfl) (hM.1 0 _ rfl) (by decide) ?_
            refine g_iloadG_n hx dX4_follows_90 rfl (nx := 91) rfl rfl ?_
            refine g_aloadG_n hx dX4_follows_91 rfl (nx := 92) rfl rfl ?_
            refine g_getfo_R hx dX4_follows_92 (nx := 95) rfl fa_X4_91 rfl (r9 := 50) (hM.2 30 rfl) (hM.1 0 _ rfl) (by decide) ?_
            refine g_iloadG_n hx dX4_follows_95 rfl (nx := 96) rfl rfl ?_
            refine g_baload hx dX4_follows_96 (nx := 97) rfl (hM.1 30 _ rfl) (by decide) hin ?_
            rw [hic]
            refine g_if_eq hx dX4_follows_97 (tg := 108) (by decide) (nx := 100) rfl (fun c97 => ?_) (fun c97 => ?_)
            · refine g_iconst hx dX4_follows_108 (nx := 109) rfl (v := 0) (by decide) ?_
              refine g_bastore hx dX4_follows_109 (nx := 110) rfl (hM.1 30 _ rfl) (by decide) hin rfl ?_
              rw [hic]
              refine g_iinc_2 hx dX4_follows_110 (nx := 113) rfl (by decide) (v := 1) (by decide) rfl ?_
              refine g_goto hx dX4_follows_113 (tg := 4) (by decide) ?_
              rw [← nI_succ]
              have hsd : I' 50 i = I 50 i := (h2 i).trans (foM_ge _ _ i i (Nat.le_refl _))
              first
                | exact absurd c97 c76
                | exact absurd c76 c97
                | exact absurd c101 c67
                | exact absurd c67 c101
                | (have e1 : zI (faP (fun k => L 49 k) (foM (fun k => L 49 k) (fun k => I 50 k) i) i i ∧ I 50 i ≠ 0) = 1 := zI_t ⟨zI_n.mp c67, by rw [← hsd]; exact c76⟩
                   have e2 : zI (I 50 i ≠ 0 ∧ ¬ faP (fun k => L 49 k) (foM (fun k => L 49 k) (fun k => I 50 k) i) i i) = 0 := zI_f (fun z => by first | exact z.1 (by rw [← hsd]; exact c97) | exact z.2 (zI_n.mp c101))
                   refine cast ?_ (ih (i + 1) (au2 I' 50 i 0) (by omega) (fun a b z => by rw [au2_n (fun w => z w.1)]; exact h1 a b z) (fun j => ?_) (.int (zI (faP (fun k => L 49 k) (foM (fun k => L 49 k) (fun k => I 50 k) i) i i))) (.int (nI i)))
                   · rw [cnM, e1]
                   · by_cases e : j = i
                     · subst e; rw [au2_s, foM_s, if_pos rfl]; exact e2.symm
                     · rw [au2_n (fun w => e w.2), foM_s, if_neg e]; exact h2 j)
            · refine g_iloadG_n hx dX4_follows_100 rfl (nx := 101) rfl rfl ?_
              refine g_if_ne hx dX4_follows_101 (tg := 108) (by decide) (nx := 104) rfl (fun c101 => ?_) (fun c101 => ?_)
              · refine g_iconst hx dX4_follows_108 (nx := 109) rfl (v := 0) (by decide) ?_
                refine g_bastore hx dX4_follows_109 (nx := 110) rfl (hM.1 30 _ rfl) (by decide) hin rfl ?_
                rw [hic]
                refine g_iinc_2 hx dX4_follows_110 (nx := 113) rfl (by decide) (v := 1) (by decide) rfl ?_
                refine g_goto hx dX4_follows_113 (tg := 4) (by decide) ?_
                rw [← nI_succ]
                have hsd : I' 50 i = I 50 i := (h2 i).trans (foM_ge _ _ i i (Nat.le_refl _))
                first
                  | exact absurd c97 c76
                  | exact absurd c76 c97
                  | exact absurd c101 c67
                  | exact absurd c67 c101
                  | (have e1 : zI (faP (fun k => L 49 k) (foM (fun k => L 49 k) (fun k => I 50 k) i) i i ∧ I 50 i ≠ 0) = 1 := zI_t ⟨zI_n.mp c67, by rw [← hsd]; exact c76⟩
                     have e2 : zI (I 50 i ≠ 0 ∧ ¬ faP (fun k => L 49 k) (foM (fun k => L 49 k) (fun k => I 50 k) i) i i) = 0 := zI_f (fun z => by first | exact z.1 (by rw [← hsd]; exact c97) | exact z.2 (zI_n.mp c101))
                     refine cast ?_ (ih (i + 1) (au2 I' 50 i 0) (by omega) (fun a b z => by rw [au2_n (fun w => z w.1)]; exact h1 a b z) (fun j => ?_) (.int (zI (faP (fun k => L 49 k) (foM (fun k => L 49 k) (fun k => I 50 k) i) i i))) (.int (nI i)))
                     · rw [cnM, e1]
                     · by_cases e : j = i
                       · subst e; rw [au2_s, foM_s, if_pos rfl]; exact e2.symm
                       · rw [au2_n (fun w => e w.2), foM_s, if_neg e]; exact h2 j)
              · refine g_iconst hx dX4_follows_104 (nx := 105) rfl (v := 1) (by decide) ?_
                refine g_goto hx dX4_follows_105 (tg := 109) (by decide) ?_
                refine g_bastore hx dX4_follows_109 (nx := 110) rfl (hM.1 30 _ rfl) (by decide) hin rfl ?_
                rw [hic]
                refine g_iinc_2 hx dX4_follows_110 (nx := 113) rfl (by decide) (v := 1) (by decide) rfl ?_
                refine g_goto hx dX4_follows_113 (tg := 4) (by decide) ?_
                rw [← nI_succ]
                have hsd : I' 50 i = I 50 i := (h2 i).trans (foM_ge _ _ i i (Nat.le_refl _))
                first
                  | exact absurd c97 c76
                  | exact absurd c76 c97
                  | exact absurd c101 c67
                  | exact absurd c67 c101
                  | (have e1 : zI (faP (fun k => L 49 k) (foM (fun k => L 49 k) (fun k => I 50 k) i) i i ∧ I 50 i ≠ 0) = 1 := zI_t ⟨zI_n.mp c67, by rw [← hsd]; exact c76⟩
                     have e2 : zI (I 50 i ≠ 0 ∧ ¬ faP (fun k => L 49 k) (foM (fun k => L 49 k) (fun k => I 50 k) i) i i) = 1 := zI_t ⟨by rw [← hsd]; exact c97, zI_z.mp c101⟩
                     refine cast ?_ (ih (i + 1) (au2 I' 50 i 1) (by omega) (fun a b z => by rw [au2_n (fun w => z w.1)]; exact h1 a b z) (fun j => ?_) (.int (zI (faP (fun k => L 49 k) (foM (fun k => L 49 k) (fun k => I 50 k) i) i i))) (.int (nI i)))
                     · rw [cnM, e1]
                     · by_cases e : j = i
                       · subst e; rw [au2_s, foM_s, if_pos rfl]; exact e2.symm
                       · rw [au2_n (fun w => e w.2), foM_s, if_neg e]; exact h2 j)
  refine g_iconst hx dX4_follows_0 (nx := 1) rfl (v := 0) (by decide) ?_
  refine g_istore_1 hx dX4_follows_1 (nx := 2) rfl (by decide) rfl ?_
  refine g_iconst hx dX4_follows_2 (nx := 3) rfl (v := 0) (by decide) ?_
  refine g_istore_2 hx dX4_follows_3 (nx := 4) rfl (by decide) rfl ?_
  exact loop1 nc 0 I (Nat.zero_add _) (fun _ _ _ => rfl) (fun j => rfl) _ _

abbrev rmX4_withdraw : Room := { frames := 2, cells := 0, slots := 0, locals := 43 }
set_option maxHeartbeats 4000000 in
set_option maxRecDepth 100000 in
theorem s_X4_withdraw {l : Launch} {E : aE} {S : aS} {I : aI} {L : aL} {Rf : aR} {Kr : aK} {Kx : aX} (hst : l.stackTraces = false) {nc : Nat} {x : Int32} (hM : lyM S Rf) (h21 : I 20 21 = nI nc) (hn40 : nc ≤ 40) (hf1 : ¬ inN x nc → Kr (some (.int 0)) S (au2 I 20 31 1) L Rf) (hf2 : ∀ i, i < nc → x = nI i → I 50 i = 0 → Kr (some (.int 0)) S (au2 I 20 31 2) L Rf) (hk : ∀ i, i < nc → x = nI i → I 50 i ≠ 0 → ∀ I', (∀ a b, a ≠ 50 → I' a b = au2 I 20 31 0 a b) → (∀ j, I' 50 j = foM (fun k => L 49 k) (fun k => if k = i then 0 else I 50 k) nc j) → Kr (some (.int (1 + cnM (fun k => L 49 k) (fun k => if k = i then 0 else I 50 k) nc))) S I' L Rf) : aMet l E yX4_withdraw cX4_withdraw 3 (some .int) rmX4_withdraw [.ref 20, .int x] (S) (I) (L) (Rf) Kr Kx := by
  refine aMet.of (lv0 := [.ref 20, .int x, aU]) (z := 1) (by decide +kernel) hst rfl (Nat.le_of_ble_eq_true rfl) ?_
  intro p e s m args below meth c io0 hx hin hno
  have hx : aCx p l s m args meth c RX4 cX4_withdraw 3 (some .int) E := hx
  refine g_aloadG_n hx dX4_withdraw_0 rfl (nx := 1) rfl rfl ?_
  refine g_iloadG_n hx dX4_withdraw_1 rfl (nx := 2) rfl rfl ?_
  refine g_callV_M hx [_] (k' := 0) (n' := 0) dX4_withdraw_2 (nx := 5) rfl lk_X4_198 (hM.1 0 _ rfl) (by decide) rfl rfl (Nat.le_of_ble_eq_true rfl) (Nat.le_of_ble_eq_true rfl) (Nat.le_of_ble_eq_true rfl) (Nat.le_of_ble_eq_true rfl) (Nat.le_of_ble_eq_true rfl) (Nat.le_of_ble_eq_true rfl) (Nat.le_of_ble_eq_true rfl) (s_X4_isClaim (nc := nc) hst hM h21 hn40 (fun i ih ei => ?_) (fun qi => ?_))
  · subst ei
    have ic : (nI i).toNatClampNeg = i := nI_clamp (by omega)
    have iw9 : vp_in (nI i) 40 := vp_in_nI (by omega) (by decide)
    refine g_istore_2 hx dX4_withdraw_5 (nx := 6) rfl (by decide) rfl ?_
    refine g_aloadG_n hx dX4_withdraw_6 rfl (nx := 7) rfl rfl ?_
    refine g_iloadG_n hx dX4_withdraw_7 rfl (nx := 8) rfl rfl ?_
    refine g_if_ne hx dX4_withdraw_8 (tg := 15) (by decide) (nx := 11) rfl (fun c8 => ?_) (fun c8 => ?_)
    · refine g_aloadG_n hx dX4_withdraw_15 rfl (nx := 16) rfl rfl ?_
      refine g_getfo_R hx dX4_withdraw_16 (nx := 19) rfl fa_X4_91 rfl (r9 := 50) (hM.2 30 rfl) (hM.1 0 _ rfl) (by decide) ?_
      refine g_iloadG_n hx dX4_withdraw_19 rfl (nx := 20) rfl rfl ?_
      refine g_baload hx dX4_withdraw_20 (nx := 21) rfl (hM.1 30 _ rfl) (by decide) iw9 ?_
      rw [ic]
      refine g_if_eq hx dX4_withdraw_21 (tg := 28) (by decide) (nx := 24) rfl (fun c21 => ?_) (fun c21 => ?_)
      · refine g_iconst hx dX4_withdraw_28 (nx := 29) rfl (v := 2) (by decide) ?_
        refine g_callV_M hx [_] (k' := 0) (n' := 0) dX4_withdraw_29 (nx := 32) rfl lk_X4_114 (hM.1 0 _ rfl) (by decide) rfl rfl (Nat.le_of_ble_eq_true rfl) (Nat.le_of_ble_eq_true rfl) (Nat.le_of_ble_eq_true rfl) (Nat.le_of_ble_eq_true rfl) (Nat.le_of_ble_eq_true rfl) (Nat.le_of_ble_eq_true rfl) (Nat.le_of_ble_eq_true rfl) (s_X4_can hst hM (fun z => absurd z (by decide)) (fun _ => ?_))
        refine g_if_ne hx dX4_withdraw_32 (tg := 37) (by decide) (nx := 35) rfl (fun c32 => ?_) (fun c32 => ?_)
        · exact absurd c32 (by decide)
        · refine g_iconst hx dX4_withdraw_35 (nx := 36) rfl (v := 0) (by decide) ?_
          refine g_iret hx dX4_withdraw_36 rfl rfl (Nat.le_of_ble_eq_true rfl) (Nat.le_of_ble_eq_true rfl) ?_
          first
            | exact hf1 qi
            | exact hf2 i ih rfl c21
            | (have es : (fun k => au2 (au2 I 20 31 0) 50 i 0 50 k) = (fun k => if k = i then 0 else I 50 k) := funext fun k => by simp [au2]
               rw [es] at g2 ⊢
               exact hk i ih rfl c21 I2 (fun a b z => (g1 a b z).trans (au2_n (fun w => z w.1))) g2)
      · refine g_iconst hx dX4_withdraw_24 (nx := 25) rfl (v := 0) (by decide) ?_
        refine g_goto hx dX4_withdraw_25 (tg := 29) (by decide) ?_
        refine g_callV_M hx [_] (k' := 0) (n' := 0) dX4_withdraw_29 (nx := 32) rfl lk_X4_114 (hM.1 0 _ rfl) (by decide) rfl rfl (Nat.le_of_ble_eq_true rfl) (Nat.le_of_ble_eq_true rfl) (Nat.le_of_ble_eq_true rfl) (Nat.le_of_ble_eq_true rfl) (Nat.le_of_ble_eq_true rfl) (Nat.le_of_ble_eq_true rfl) (Nat.le_of_ble_eq_true rfl) (s_X4_can hst hM (fun _ => ?_) (fun z => absurd rfl z))
        refine g_if_ne hx dX4_withdraw_32 (tg := 37) (by decide) (nx := 35) rfl (fun c32 => ?_) (fun c32 => ?_)
        · refine g_aloadG_n hx dX4_withdraw_37 rfl (nx := 38) rfl rfl ?_
          refine g_getfo_R hx dX4_withdraw_38 (nx := 41) rfl fa_X4_91 rfl (r9 := 50) (hM.2 30 rfl) (hM.1 0 _ rfl) (by decide) ?_
          refine g_iloadG_n hx dX4_withdraw_41 rfl (nx := 42) rfl rfl ?_
          refine g_iconst hx dX4_withdraw_42 (nx := 43) rfl (v := 0) (by decide) ?_
          refine g_bastore hx dX4_withdraw_43 (nx := 44) rfl (hM.1 30 _ rfl) (by decide) iw9 rfl ?_
          rw [ic]
          refine g_iconst hx dX4_withdraw_44 (nx := 45) rfl (v := 1) (by decide) ?_
          refine g_aloadG_n hx dX4_withdraw_45 rfl (nx := 46) rfl rfl ?_
          refine g_callV_M hx [] (k' := 0) (n' := 0) dX4_withdraw_46 (nx := 49) rfl lk_X4_208 (hM.1 0 _ rfl) (by decide) rfl rfl (Nat.le_of_ble_eq_true rfl) (Nat.le_of_ble_eq_true rfl) (Nat.le_of_ble_eq_true rfl) (Nat.le_of_ble_eq_true rfl) (Nat.le_of_ble_eq_true rfl) (Nat.le_of_ble_eq_true rfl) (Nat.le_of_ble_eq_true rfl) (s_X4_follows (nc := nc) hst hM (by rw [au2_n (by omega), au2_n (by omega)]; exact h21) hn40 (fun I2 g1 g2 => ?_))
          refine g_iadd hx dX4_withdraw_49 (nx := 50) rfl ?_
          refine g_iret hx dX4_withdraw_50 rfl rfl (Nat.le_of_ble_eq_true rfl) (Nat.le_of_ble_eq_true rfl) ?_
          first
            | exact hf1 qi
            | exact hf2 i ih rfl c21
            | (have es : (fun k => au2 (au2 I 20 31 0) 50 i 0 50 k) = (fun k => if k = i then 0 else I 50 k) := funext fun k => by simp [au2]
               rw [es] at g2 ⊢
               exact hk i ih rfl c21 I2 (fun a b z => (g1 a b z).trans (au2_n (fun w => z w.1))) g2)
        · exact absurd c32 (by decide)
    · exact absurd c8 (by decide)
  · refine g_istore_2 hx dX4_withdraw_5 (nx := 6) rfl (by decide) rfl ?_
    refine g_aloadG_n hx dX4_withdraw_6 rfl (nx := 7) rfl rfl ?_
    refine g_iloadG_n hx dX4_withdraw_7 rfl (nx := 8) rfl rfl ?_
    refine g_if_ne hx dX4_withdraw_8 (tg := 15) (by decide) (nx := 11) rfl (fun c8 => ?_) (fun c8 => ?_)
    · exact absurd c8 (by decide)
    · refine g_iconst hx dX4_withdraw_11 (nx := 12) rfl (v := 1) (by decide) ?_
      refine g_goto hx dX4_withdraw_12 (tg := 29) (by decide) ?_
      refine g_callV_M hx [_] (k' := 0) (n' := 0) dX4_withdraw_29 (nx := 32) rfl lk_X4_114 (hM.1 0 _ rfl) (by decide) rfl rfl (Nat.le_of_ble_eq_true rfl) (Nat.le_of_ble_eq_true rfl) (Nat.le_of_ble_eq_true rfl) (Nat.le_of_ble_eq_true rfl) (Nat.le_of_ble_eq_true rfl) (Nat.le_of_ble_eq_true rfl) (Nat.le_of_ble_eq_true rfl) (s_X4_can hst hM (fun z => absurd z (by decide)) (fun _ => ?_))
      refine g_if_ne hx dX4_withdraw_32 (tg := 37) (by decide) (nx := 35) rfl (fun c32 => ?_) (fun c32 => ?_)
      · exact absurd c32 (by decide)
      · refine g_iconst hx dX4_withdraw_35 (nx := 36) rfl (v := 0) (by decide) ?_
        refine g_iret hx dX4_withdraw_36 rfl rfl (Nat.le_of_ble_eq_true rfl) (Nat.le_of_ble_eq_true rfl) ?_
        first
          | exact hf1 qi
          | exact hf2 i ih rfl c21
          | (have es : (fun k => au2 (au2 I 20 31 0) 50 i 0 50 k) = (fun k => if k = i then 0 else I 50 k) := funext fun k => by simp [au2]
             rw [es] at g2 ⊢
             exact hk i ih rfl c21 I2 (fun a b z => (g1 a b z).trans (au2_n (fun w => z w.1))) g2)

