/-! the law: claims -/
/-- a claim, as the class has it -/
def clC (I : aI) (n i : Nat) : Prop := ∃ kd st sr ln dc : Nat, (kd ≤ 2 ∧ st ≤ 1 ∧ sr < n ∧ ln < 32 ∧ dc ≤ 6) ∧ I (100 + i) 0 = nI kd ∧ I (100 + i) 1 = nI sr ∧ I (100 + i) 2 = nI ln ∧ I (100 + i) 4 = nI dc ∧ I (100 + i) 8 = nI st ∧ (kd = 1 → ∃ a, a < 100 ∧ I (100 + i) 6 = nI a) ∧ (kd ≠ 1 → I (100 + i) 6 = -1)
/-- whether it stands -/
def sv (I : aI) (i : Nat) : Nat := (I (100 + i) 8).toNatClampNeg
/-- what the law has of it, with t for whether it stood -/
def clH (I : aI) (i t : Nat) : Prop := I 13 i = nI (100000 * (I (100 + i) 0).toNatClampNeg + 10000 * t + 1000 * (I (100 + i) 1).toNatClampNeg + (I (100 + i) 2).toNatClampNeg)
/-- what it cites -/
def clQ (L : aL) (i : Nat) : Prop := (L (100 + i) 7).toBitVec.toNat < 2 ^ i ∧ L 14 i = L (100 + i) 7
def clX (I : aI) (L : aL) (i : Nat) : Prop := I (100 + i) 8 ≠ 0 → ∀ j, j < i → bqP (L (100 + i) 7) j → I (100 + j) 8 ≠ 0
def gC (I : aI) (L : aL) (n nc : Nat) : Prop := ∀ i, i < nc → clC I n i ∧ clQ L i ∧ clX I L i
def gH (I : aI) (nc : Nat) (t : Nat → Nat) : Prop := ∀ i, i < nc → clH I i (t i)
theorem clC.x {I J : aI} {n i : Nat} (h : clC I n i) (e : ∀ k, J (100 + i) k = I (100 + i) k) : clC J n i := by
  obtain ⟨kd, st, sr, ln, dc, h1, h2, h3, h4, h5, h6, h7, h8⟩ := h
  exact ⟨kd, st, sr, ln, dc, h1, (e _).trans h2, (e _).trans h3, (e _).trans h4, (e _).trans h5, (e _).trans h6, fun z => by rw [e]; exact h7 z, fun z => (e _).trans (h8 z)⟩
theorem clC.mono {I : aI} {n m i : Nat} (h : clC I n i) (hm : n ≤ m) : clC I m i := by
  obtain ⟨kd, st, sr, ln, dc, h1, h2⟩ := h
  exact ⟨kd, st, sr, ln, dc, ⟨h1.1, h1.2.1, by omega, h1.2.2.2⟩, h2⟩
theorem clH.x {I J : aI} {i t : Nat} (h : clH I i t) (e : ∀ k, J (100 + i) k = I (100 + i) k) (e2 : J 13 i = I 13 i) : clH J i t := by
  unfold clH at h ⊢
  rw [e2, e, e, e]; exact h
theorem gC.x {I J : aI} {L M : aL} {n nc : Nat} (h : gC I L n nc) (e : eqX J I) (e2 : eqX M L) : gC J M n nc := fun i hi => by
  obtain ⟨h1, h2, h3⟩ := h i hi
  refine ⟨h1.x (fun k => e _ _ (by omega) (by omega) (by omega)), ?_, fun z j hj hb => ?_⟩
  · unfold clQ at h2 ⊢
    rw [e2 _ _ (by omega) (by omega) (by omega), e2 14 _ (by omega) (by omega) (by omega)]; exact h2
  · rw [e _ _ (by omega) (by omega) (by omega)] at z ⊢
    rw [e2 _ _ (by omega) (by omega) (by omega)] at hb
    exact h3 z j hj hb
theorem gH.x {I J : aI} {nc : Nat} {t : Nat → Nat} (h : gH I nc t) (e : eqX J I) : gH J nc t := fun i hi => (h i hi).x (fun k => e _ _ (by omega) (by omega) (by omega)) (e _ _ (by omega) (by omega) (by omega))
theorem gOO.x {I J : aI} {n : Nat} (h : gOO I n) (e : eqX J I) : gOO J n := fun k hk => by
  have h1 := h k hk
  unfold oI at h1 ⊢
  rw [e _ _ (by omega) (by omega) (by omega)]; exact h1
theorem gSI.x {I J : aI} {n : Nat} (h : gSI I n) (e : eqX J I) : gSI J n := fun k hk t ht => by
  rw [e _ _ (by omega) (by omega) (by omega)]; exact h k hk t ht
theorem st4 {x : Int32} {st : Nat} (h : x = nI st) (h1 : st ≤ 1) : (if x = 0 then (0 : Int32) else 1) = nI st := by
  have e : st = 0 ∨ st = 1 := by omega
  rcases e with e | e
  · subst e; rw [h]; rfl
  · subst e; rw [h]; rfl
theorem st_ne {x : Int32} {st : Nat} (h : x = nI st) (h1 : st ≤ 1) : x ≠ 0 ↔ st = 1 := by
  have e : st = 0 ∨ st = 1 := by omega
  rcases e with e | e
  · subst e; rw [h]; exact ⟨fun z => absurd rfl z, fun z => by omega⟩
  · subst e; rw [h]; exact ⟨fun _ => rfl, fun _ => by decide⟩
theorem sv_of {I : aI} {i st : Nat} (h : I (100 + i) 8 = nI st) (h1 : st ≤ 1) : sv I i = st := by
  unfold sv; rw [h]; exact nI_clamp (by omega)
/-- the law's number of a claim -/
theorem clH.n {I : aI} {i t kd sr ln : Nat} (h : clH I i t) (h0 : I (100 + i) 0 = nI kd) (h1 : I (100 + i) 1 = nI sr) (h2 : I (100 + i) 2 = nI ln) (b0 : kd ≤ 2) (b1 : sr < 10) (b2 : ln < 32) : I 13 i = nI (100000 * kd + 10000 * t + 1000 * sr + ln) := by
  unfold clH at h
  rw [h0, h1, h2, nI_clamp (by omega), nI_clamp (by omega), nI_clamp (by omega)] at h
  exact h
/-- how many fell -/
def cF (t s : Nat → Nat) : Nat → Nat
  | 0 => 0
  | i + 1 => cF t s i + (if t i = 1 ∧ s i = 0 then 1 else 0)
theorem cF_le (t s : Nat → Nat) : ∀ m, cF t s m ≤ m := by
  intro m
  induction m with
  | zero => exact Nat.le_refl _
  | succ m ih => rw [cF]; split <;> omega
abbrev rmL_falls : Room := { frames := 8, cells := 0, slots := 0, locals := 134 }
set_option maxHeartbeats 4000000 in
set_option maxRecDepth 100000 in
theorem s_L_falls {l : Launch} {E : aE} {S : aS} {I : aI} {L : aL} {Rf : aR} {Kr : aK} {Kx : aX} (hst : l.stackTraces = false) {n nc : Nat} {t9 : Nat → Nat} (hC : lyC S Rf I n nc) (h11 : S 11 = some (.inl (.int, 6))) (h13 : S 13 = some (.inl (.int, 40))) (hc1 : I 11 1 = nI nc) (hcl : ∀ i, i < nc → clC I n i) (hH : gH I nc t9) (hT : ∀ i, i < nc → t9 i ≤ 1 ∧ sv I i ≤ t9 i) (hk : ∀ I', (∀ a k, a ≠ 13 → I' a k = I a k) → (∀ k, k < nc → clH I' k (sv I k)) → Kr (some (.int (nI (cF t9 (sv I) nc)))) S I' L Rf) : aMet l E yL_falls cL_falls 5 (some .int) rmL_falls [.ref 3, .ref 11, .ref 13] S I L Rf Kr Kx := by
  refine aMet.of (lv0 := [.ref 3, .ref 11, .ref 13, aU, aU]) (z := 2) (by decide +kernel) hst rfl (Nat.le_of_ble_eq_true rfl) ?_
  intro p e s m args below meth c io0 hx hin hno
  have hx : aCx p l s m args meth c RL cL_falls 5 (some .int) E := hx
  have hX := hC.1
  have hn6 := hC.2.1
  have hc40 := hC.2.2.1
  have loop1 : ∀ (r i : Nat) (I1 : aI), i + r = nc → (∀ a k, a ≠ 13 → I1 a k = I a k) → (∀ k, k < i → clH I1 k (sv I k)) → (∀ k, i ≤ k → I1 13 k = I 13 k) → aG p l e rmL_falls s m args below meth c E io0 S 5 (vx_MQ below (aQc E io0 S Kr) (aXC E io0 S Kx) args s rmL_falls.cells rmL_falls.slots (aW E)) 5 [.ref 3, .ref 11, .ref 13, .int (nI (cF t9 (sv I) i)), .int (nI i)] [] (S) (I1) (L) (Rf) 0 0 := by
    intro r
    induction r with
    | zero =>
      intro i I1 hi0 q1 q2 q3
      have hi : i = nc := by omega
      refine g_iloadG hx dL_falls_5 (nx := 7) rfl rfl ?_
      refine g_aloadG_n hx dL_falls_7 rfl (nx := 8) rfl rfl ?_
      refine g_iconst hx dL_falls_8 (nx := 9) rfl (v := nI 1) (by decide) ?_
      refine g_ialoadN hx dL_falls_9 (nx := 10) rfl h11 (by decide) (by omega) (by decide) (v := nI nc) (by rw [q1 _ _ (by omega)]; exact hc1) ?_
      refine g_icmp_geN hx dL_falls_10 (tg := 57) (by decide) (nx := 13) rfl (by omega) (by omega) (fun c10 => ?_) (fun c10 => ?_)
      · refine g_iloadG_n hx dL_falls_57 rfl (nx := 58) rfl rfl ?_
        refine g_iret hx dL_falls_58 rfl (by first | rfl | decide) (Nat.le_of_ble_eq_true rfl) (Nat.le_of_ble_eq_true rfl) ?_
        subst hi
        exact hk I1 q1 q2
      · exact absurd c10 (by omega)
    | succ r ih =>
      intro i I1 hi0 q1 q2 q3
      obtain ⟨kd, st, sr, ln, dc, ⟨b0, b1, b2, b3, b4⟩, h0, h1, h2, h4, h8, hA, hB⟩ := hcl i (by omega)
      have ht := hT i (by omega)
      have hsv := sv_of h8 b1
      have h9 := (hH i (by omega)).n h0 h1 h2 b0 (by omega) b3
      refine g_iloadG hx dL_falls_5 (nx := 7) rfl rfl ?_
      refine g_aloadG_n hx dL_falls_7 rfl (nx := 8) rfl rfl ?_
      refine g_iconst hx dL_falls_8 (nx := 9) rfl (v := nI 1) (by decide) ?_
      refine g_ialoadN hx dL_falls_9 (nx := 10) rfl h11 (by decide) (by omega) (by decide) (v := nI nc) (by rw [q1 _ _ (by omega)]; exact hc1) ?_
      refine g_icmp_geN hx dL_falls_10 (tg := 57) (by decide) (nx := 13) rfl (by omega) (by omega) (fun c10 => ?_) (fun c10 => ?_)
      · exact absurd c10 (by omega)
      · refine g_aloadG_n hx dL_falls_13 rfl (nx := 14) rfl rfl ?_
        refine g_iloadG hx dL_falls_14 (nx := 16) rfl rfl ?_
        refine g_ialoadN hx dL_falls_16 (nx := 17) rfl h13 (by decide) (by omega) (by decide) (v := nI (100000 * kd + 10000 * t9 i + 1000 * sr + ln)) ((q3 i (Nat.le_refl _)).trans h9) ?_
        refine g_sipush hx dL_falls_17 (nx := 20) rfl (v := nI 10000) (by decide) ?_
        refine g_idivN hx dL_falls_20 (nx := 21) rfl (by omega) (by omega) (by omega) ?_
        refine g_bipush hx dL_falls_21 (nx := 23) rfl (v := nI 10) (by decide) ?_
        refine g_iremN hx dL_falls_23 (nx := 24) rfl (by omega) (by omega) (by omega) ?_
        refine g_iconst hx dL_falls_24 (nx := 25) rfl (v := nI 1) (by decide) ?_
        refine g_icmp_neN hx dL_falls_25 (tg := 51) (by decide) (nx := 28) rfl (by omega) (by omega) (fun c25 => ?_) (fun c25 => ?_)
        · refine g_iincN_4 hx dL_falls_51 (nx := 54) rfl (by decide) (b := 1) (by decide) rfl ?_
          refine g_goto hx dL_falls_54 (tg := 5) (by decide) ?_
          have hf : ¬ (t9 i = 1 ∧ sv I i = 0) := fun z => by omega
          have hs : sv I i = t9 i := by omega
          have K := ih (i + 1) I1 (by omega) q1 (fun k hk9 => ?_) (fun k hk9 => q3 k (by omega))
          · rw [show cF t9 (sv I) (i + 1) = cF t9 (sv I) i + 0 from by rw [cF, if_neg hf]] at K; exact K
          · by_cases e9 : k = i
            · subst e9; rw [hs]; exact (hH k (by omega)).x (fun j => q1 _ _ (by omega)) (q3 k (Nat.le_refl _))
            · exact q2 k (by omega)
        · refine g_aloadG_n hx dL_falls_28 rfl (nx := 29) rfl rfl ?_
          refine g_iloadG hx dL_falls_29 (nx := 31) rfl rfl ?_
          refine g_iconst hx dL_falls_31 (nx := 32) rfl (v := nI 4) (by decide) ?_
          refine g_callV_M hx [_, _] (k' := 0) (n' := 0) dL_falls_32 (nx := 35) rfl lk_L_36 (hX.1 0 _ rfl) (by decide) rfl rfl (Nat.le_of_ble_eq_true rfl) (Nat.le_of_ble_eq_true rfl) (Nat.le_of_ble_eq_true rfl) (Nat.le_of_ble_eq_true rfl) (Nat.le_of_ble_eq_true rfl) (Nat.le_of_ble_eq_true rfl) (Nat.le_of_ble_eq_true rfl) (s_X3_ofClaim4 hst (hC.I (q1 _ _ (by omega)) (q1 _ _ (by omega))) (show i < nc by omega) ?_)
          rw [st4 ((q1 _ _ (by omega)).trans h8) b1]
          refine g_if_neN hx dL_falls_35 (tg := 51) (by decide) (nx := 38) rfl (by omega) (fun c35 => ?_) (fun c35 => ?_)
          · refine g_iincN_4 hx dL_falls_51 (nx := 54) rfl (by decide) (b := 1) (by decide) rfl ?_
            refine g_goto hx dL_falls_54 (tg := 5) (by decide) ?_
            have hf : ¬ (t9 i = 1 ∧ sv I i = 0) := fun z => c35 (by rw [← hsv]; exact z.2)
            have hs : sv I i = t9 i := by omega
            have K := ih (i + 1) I1 (by omega) q1 (fun k hk9 => ?_) (fun k hk9 => q3 k (by omega))
            · rw [show cF t9 (sv I) (i + 1) = cF t9 (sv I) i + 0 from by rw [cF, if_neg hf]] at K; exact K
            · by_cases e9 : k = i
              · subst e9; rw [hs]; exact (hH k (by omega)).x (fun j => q1 _ _ (by omega)) (q3 k (Nat.le_refl _))
              · exact q2 k (by omega)
          · refine g_aloadG_n hx dL_falls_38 rfl (nx := 39) rfl rfl ?_
            refine g_iloadG hx dL_falls_39 (nx := 41) rfl rfl ?_
            refine g_dup2i hx dL_falls_41 (nx := 42) rfl rfl rfl ?_
            refine g_ialoadN hx dL_falls_42 (nx := 43) rfl h13 (by decide) (by omega) (by decide) (v := nI (100000 * kd + 10000 * t9 i + 1000 * sr + ln)) ((q3 i (Nat.le_refl _)).trans h9) ?_
            refine g_sipush hx dL_falls_43 (nx := 46) rfl (v := nI 10000) (by decide) ?_
            refine g_isubN hx dL_falls_46 (nx := 47) rfl (by omega) ?_
            refine g_iastoreN hx dL_falls_47 (nx := 48) rfl h13 (by decide) (by omega) (by decide) ?_
            refine g_iincN_3 hx dL_falls_48 (nx := 51) rfl (by decide) (b := 1) (by decide) rfl ?_
            refine g_iincN_4 hx dL_falls_51 (nx := 54) rfl (by decide) (b := 1) (by decide) rfl ?_
            refine g_goto hx dL_falls_54 (tg := 5) (by decide) ?_
            have hf : t9 i = 1 ∧ sv I i = 0 := ⟨by omega, by rw [hsv]; exact c35⟩
            have K := ih (i + 1) (au2 I1 13 i (nI (100000 * kd + 10000 * t9 i + 1000 * sr + ln - 10000))) (by omega) (fun a k h => by rw [au2_n (by omega)]; exact q1 a k h) (fun k hk9 => ?_) (fun k hk9 => by rw [au2_n (by omega)]; exact q3 k (by omega))
            · rw [show cF t9 (sv I) (i + 1) = cF t9 (sv I) i + 1 from by rw [cF, if_pos hf]] at K; exact K
            · by_cases e9 : k = i
              · subst e9
                unfold clH
                rw [au2_s, au2_n (by omega), au2_n (by omega), au2_n (by omega), q1 _ _ (by omega), q1 _ _ (by omega), q1 _ _ (by omega), h0, h1, h2, nI_clamp (by omega), nI_clamp (by omega), nI_clamp (by omega), hf.1, hf.2]
                congr 1
                omega
              · exact (q2 k (by omega)).x (fun j => au2_n (by omega)) (au2_n (by omega))
  refine g_iconst hx dL_falls_0 (nx := 1) rfl (v := nI 0) (by decide) ?_
  refine g_istore_3 hx dL_falls_1 (nx := 2) rfl (by decide) rfl ?_
  refine g_iconst hx dL_falls_2 (nx := 3) rfl (v := nI 0) (by decide) ?_
  refine g_istore_4 hx dL_falls_3 (nx := 5) rfl (by decide) rfl ?_
  exact loop1 nc 0 I (Nat.zero_add _) (fun _ _ _ => rfl) (fun k h => absurd h (Nat.not_lt_zero _)) (fun _ _ => rfl)

abbrev rmL_makes : Room := { frames := 8, cells := 0, slots := 0, locals := 134 }
set_option maxHeartbeats 4000000 in
set_option maxRecDepth 100000 in
theorem s_L_makes {l : Launch} {E : aE} {S : aS} {I : aI} {L : aL} {Rf : aR} {Kr : aK} {Kx : aX} (hst : l.stackTraces = false) {n nc kd sr ln : Nat} {ci : Int64} (hC : lyC S Rf I n (nc + 1)) (h11 : S 11 = some (.inl (.int, 6))) (h13 : S 13 = some (.inl (.int, 40))) (h14 : S 14 = some (.inl (.long, 40))) (hc1 : I 11 1 = nI nc) (h8 : I (100 + nc) 8 = nI 1) (hk : Kr (some (.int (nI 1))) S (au2 (au2 I 13 nc (nI (100000 * kd + 10000 + 1000 * sr + ln))) 11 1 (nI (nc + 1))) (au2 L 14 nc ci) Rf) : aMet l E yL_makes cL_makes 11 (some .boolean) rmL_makes [.ref 3, .long (lN nc), .int (nI kd), .int (nI sr), .int (nI ln), .long ci, .ref 11, .ref 13, .ref 14] S I L Rf Kr Kx := by
  refine aMet.of (lv0 := [.ref 3, .long (lN nc), aU, .int (nI kd), .int (nI sr), .int (nI ln), .long ci, aU, .ref 11, .ref 13, .ref 14]) (z := 0) (by decide +kernel) hst rfl (Nat.le_of_ble_eq_true rfl) ?_
  intro p e s m args below meth c io0 hx hin hno
  have hx : aCx p l s m args meth c RL cL_makes 11 (some .boolean) E := hx
  have hX := hC.1
  have hc40 := hC.2.2.1
  refine g_lloadG_n hx dL_makes_0 rfl (nx := 1) rfl rfl ?_
  refine g_aloadG hx dL_makes_1 (nx := 3) rfl rfl ?_
  refine g_iconst hx dL_makes_3 (nx := 4) rfl (v := nI 1) (by decide) ?_
  refine g_ialoadN hx dL_makes_4 (nx := 5) rfl h11 (by decide) (by omega) (by decide) (v := nI nc) (hc1) ?_
  refine g_i2lN hx dL_makes_5 (nx := 6) rfl (by omega) ?_
  refine g_lc_eq hx dL_makes_6 (p2 := 7) rfl dL_makes_7 (tg := 12) (by decide) (nx := 10) rfl (fun c6 => ?_) (fun c6 => ?_)
  · refine g_aloadG hx dL_makes_12 (nx := 14) rfl rfl ?_
    refine g_aloadG hx dL_makes_14 (nx := 16) rfl rfl ?_
    refine g_iconst hx dL_makes_16 (nx := 17) rfl (v := nI 1) (by decide) ?_
    refine g_ialoadN hx dL_makes_17 (nx := 18) rfl h11 (by decide) (by omega) (by decide) (v := nI nc) (hc1) ?_
    refine g_ldc hx dL_makes_18 (nx := 20) rfl (v := nI 100000) kc_L_104 ?_
    refine g_iloadG_n hx dL_makes_20 rfl (nx := 21) rfl rfl ?_
    refine g_imulN hx dL_makes_21 (nx := 22) rfl  ?_
    refine g_sipush hx dL_makes_22 (nx := 25) rfl (v := nI 10000) (by decide) ?_
    refine g_iaddN hx dL_makes_25 (nx := 26) rfl  ?_
    refine g_sipush hx dL_makes_26 (nx := 29) rfl (v := nI 1000) (by decide) ?_
    refine g_iloadG hx dL_makes_29 (nx := 31) rfl rfl ?_
    refine g_imulN hx dL_makes_31 (nx := 32) rfl  ?_
    refine g_iaddN hx dL_makes_32 (nx := 33) rfl  ?_
    refine g_iloadG hx dL_makes_33 (nx := 35) rfl rfl ?_
    refine g_iaddN hx dL_makes_35 (nx := 36) rfl  ?_
    refine g_iastoreN hx dL_makes_36 (nx := 37) rfl h13 (by decide) (by omega) (by decide) ?_
    refine g_aloadG hx dL_makes_37 (nx := 39) rfl rfl ?_
    refine g_aloadG hx dL_makes_39 (nx := 41) rfl rfl ?_
    refine g_iconst hx dL_makes_41 (nx := 42) rfl (v := nI 1) (by decide) ?_
    refine g_ialoadN hx dL_makes_42 (nx := 43) rfl h11 (by decide) (by omega) (by decide) (v := nI nc) (by rw [au2_n (by omega)]; exact hc1) ?_
    refine g_lloadG hx dL_makes_43 (nx := 45) rfl rfl ?_
    refine g_lastoreN hx dL_makes_45 (nx := 46) rfl h14 (by decide) (by omega) (by decide) ?_
    refine g_aloadG hx dL_makes_46 (nx := 48) rfl rfl ?_
    refine g_iconst hx dL_makes_48 (nx := 49) rfl (v := nI 1) (by decide) ?_
    refine g_dup2i hx dL_makes_49 (nx := 50) rfl rfl rfl ?_
    refine g_ialoadN hx dL_makes_50 (nx := 51) rfl h11 (by decide) (by omega) (by decide) (v := nI nc) (by rw [au2_n (by omega)]; exact hc1) ?_
    refine g_iconst hx dL_makes_51 (nx := 52) rfl (v := nI 1) (by decide) ?_
    refine g_iaddN hx dL_makes_52 (nx := 53) rfl  ?_
    refine g_iastoreN hx dL_makes_53 (nx := 54) rfl h11 (by decide) (by omega) (by decide) ?_
    refine g_aloadG_n hx dL_makes_54 rfl (nx := 55) rfl rfl ?_
    refine g_aloadG hx dL_makes_55 (nx := 57) rfl rfl ?_
    refine g_iconst hx dL_makes_57 (nx := 58) rfl (v := nI 1) (by decide) ?_
    refine g_ialoadN hx dL_makes_58 (nx := 59) rfl h11 (by decide) (by omega) (by decide) (v := nI (nc + 1)) (au2_s _ _ _ _) ?_
    refine g_iconst hx dL_makes_59 (nx := 60) rfl (v := nI 1) (by decide) ?_
    refine g_isubN hx dL_makes_60 (nx := 61) rfl (by omega) ?_
    rw [Nat.add_sub_cancel]
    refine g_iconst hx dL_makes_61 (nx := 62) rfl (v := nI 4) (by decide) ?_
    refine g_callV_M hx [_, _] (k' := 0) (n' := 0) dL_makes_62 (nx := 65) rfl lk_L_36 (hX.1 0 _ rfl) (by decide) rfl rfl (Nat.le_of_ble_eq_true rfl) (Nat.le_of_ble_eq_true rfl) (Nat.le_of_ble_eq_true rfl) (Nat.le_of_ble_eq_true rfl) (Nat.le_of_ble_eq_true rfl) (Nat.le_of_ble_eq_true rfl) (Nat.le_of_ble_eq_true rfl) (s_X3_ofClaim4 (n := n) (nc := nc + 1) hst (hC.I (by rw [au2_n (by omega), au2_n (by omega)]) (by rw [au2_n (by omega), au2_n (by omega)])) (Nat.lt_succ_self nc) ?_)
    rw [st4 (st := 1) (by rw [au2_n (by omega), au2_n (by omega)]; exact h8) (Nat.le_refl _)]
    refine g_iconst hx dL_makes_65 (nx := 66) rfl (v := nI 1) (by decide) ?_
    refine g_icmp_neN hx dL_makes_66 (tg := 73) (by decide) (nx := 69) rfl (by omega) (by omega) (fun c66 => ?_) (fun c66 => ?_)
    · exact absurd c66 (by omega)
    · refine g_iconst hx dL_makes_69 (nx := 70) rfl (v := nI 1) (by decide) ?_
      refine g_goto hx dL_makes_70 (tg := 74) (by decide) ?_
      refine g_iret hx dL_makes_74 rfl (by first | rfl | decide) (Nat.le_of_ble_eq_true rfl) (Nat.le_of_ble_eq_true rfl) ?_
      exact hk
  · exact absurd rfl c6

theorem pcn_le (w : Nat) : ∀ k, pcn k w ≤ k := by
  intro k
  induction k with
  | zero => exact Nat.le_refl _
  | succ k ih => rw [pcn_t]; omega
abbrev rmL_areClaims : Room := { frames := 9, cells := 7, slots := 45, locals := 192 }
set_option maxHeartbeats 4000000 in
set_option maxRecDepth 100000 in
theorem s_L_areClaims {l : Launch} {E : aE} {S : aS} {I : aI} {L : aL} {Rf : aR} {Kr : aK} {Kx : aX} (hst : l.stackTraces = false) {n nc : Nat} (hC : lyC S Rf I n nc) (h11 : S 11 = some (.inl (.int, 6))) (h13 : S 13 = some (.inl (.int, 40))) (h14 : S 14 = some (.inl (.long, 40))) (hc1 : I 11 1 = nI nc) (hsi : gSI I n) (hoo : gOO I n) (hG : gC I L n nc) (hH : gH I nc (sv I)) (hk : ∀ I' L', eqX I' I → eqX L' L → Kr (some (.int (nI 1))) S I' L' Rf) : aMet l E yL_areClaims cL_areClaims 9 (some .boolean) rmL_areClaims [.ref 3, .ref 11, .ref 13, .ref 14] S I L Rf Kr Kx := by
  refine aMet.of (lv0 := [.ref 3, .ref 11, .ref 13, .ref 14, aU, aU, aU, aU, aU]) (z := 5) (by decide +kernel) hst rfl (Nat.le_of_ble_eq_true rfl) ?_
  intro p e s m args below meth c io0 hx hin hno
  have hx : aCx p l s m args meth c RL cL_areClaims 9 (some .boolean) E := hx
  have hX := hC.1
  have hn6 := hC.2.1
  have hc40 := hC.2.2.1
  have loop1 : ∀ (r i : Nat) (I' : aI) (L' : aL) (w6 w7 w8 : Value), i + r = nc → eqX I' I → eqX L' L → aG p l e rmL_areClaims s m args below meth c E io0 S 9 (vx_MQ below (aQc E io0 S Kr) (aXC E io0 S Kx) args s rmL_areClaims.cells rmL_areClaims.slots (aW E)) 28 [.ref 3, .ref 11, .ref 13, .ref 14, .int (nI 1), .int (nI i), w6, w7, w8] [] (S) (I') (L') (Rf) 7 45 := by
    intro r
    induction r with
    | zero =>
      intro i I' L' w6 w7 w8 hi0 ex ex2
      have hi : i = nc := by omega
      refine g_iloadG hx dL_areClaims_28 (nx := 30) rfl rfl ?_
      refine g_aloadG_n hx dL_areClaims_30 rfl (nx := 31) rfl rfl ?_
      refine g_iconst hx dL_areClaims_31 (nx := 32) rfl (v := nI 1) (by decide) ?_
      refine g_ialoadN hx dL_areClaims_32 (nx := 33) rfl h11 (by decide) (by omega) (by decide) (v := nI nc) (by rw [ex _ _ (by decide) (by decide) (by decide)]; exact hc1) ?_
      refine g_icmp_geN hx dL_areClaims_33 (tg := 298) (by decide) (nx := 36) rfl (by omega) (by omega) (fun c33 => ?_) (fun c33 => ?_)
      · refine g_iloadG hx dL_areClaims_298 (nx := 300) rfl rfl ?_
        refine g_iret hx dL_areClaims_300 rfl (by first | rfl | decide) (Nat.le_of_ble_eq_true rfl) (Nat.le_of_ble_eq_true rfl) ?_
        exact hk I' L' ex ex2
      · exact absurd c33 (by omega)
    | succ r ih =>
      intro i I' L' w6 w7 w8 hi0 ex ex2
      have hC' : lyC S Rf I' n nc := hC.I (ex _ _ (by decide) (by decide) (by decide)) (ex _ _ (by decide) (by decide) (by decide))
      have hG' := hG.x ex ex2
      have hs' := hsi.x ex
      have ho' := hoo.x ex
      obtain ⟨⟨kd, st, sr, ln, dc, ⟨b0, b1, b2, b3, b4⟩, h0, h1, h2, h4, h8, hA, hB⟩, ⟨hq1, hq2⟩, hx9⟩ := hG' i (by omega)
      have h9 := ((hH.x ex) i (by omega)).n h0 h1 h2 b0 (by omega) b3
      rw [show sv I i = st from by rw [← sv_of h8 b1]; unfold sv; rw [ex _ _ (by omega) (by omega) (by omega)]] at h9
      obtain ⟨w, hw⟩ : ∃ w, w = (L' (100 + i) 7).toBitVec.toNat := ⟨_, rfl⟩
      have hwe : L' (100 + i) 7 = lN w := by rw [hw]; exact lN_of _
      rw [← hw] at hq1
      have hw40 : w < 2 ^ 40 := Nat.lt_of_lt_of_le hq1 (Nat.pow_le_pow_right (by decide) (by omega))
      have q14 : L' 14 i = lN w := hq2.trans hwe
      have hbc : bcnt (L' (100 + i) 7) = nI (pcn i w) := by rw [bc_ct (nc := i) (by omega) (by rw [← hw]; exact hq1), hwe, ctM_N (by omega) i (by omega)]
      have hpc : ∀ k, pcn k w ≤ k := pcn_le w
      have hpi := hpc i
      refine g_iloadG hx dL_areClaims_28 (nx := 30) rfl rfl ?_
      refine g_aloadG_n hx dL_areClaims_30 rfl (nx := 31) rfl rfl ?_
      refine g_iconst hx dL_areClaims_31 (nx := 32) rfl (v := nI 1) (by decide) ?_
      refine g_ialoadN hx dL_areClaims_32 (nx := 33) rfl h11 (by decide) (by omega) (by decide) (v := nI nc) (by rw [ex _ _ (by decide) (by decide) (by decide)]; exact hc1) ?_
      refine g_icmp_geN hx dL_areClaims_33 (tg := 298) (by decide) (nx := 36) rfl (by omega) (by omega) (fun c33 => ?_) (fun c33 => ?_)
      · exact absurd c33 (by omega)
      · refine g_iloadG hx dL_areClaims_36 (nx := 38) rfl rfl ?_
        refine g_if_eqN hx dL_areClaims_38 (tg := 298) (by decide) (nx := 41) rfl (by omega) (fun c38 => ?_) (fun c38 => ?_)
        · exact absurd c38 (by decide)
        · refine g_iconst hx dL_areClaims_41 (nx := 42) rfl (v := nI 0) (by decide) ?_
          refine g_istore_6 hx dL_areClaims_42 (nx := 44) rfl (by decide) rfl ?_
          refine g_iconst hx dL_areClaims_44 (nx := 45) rfl (v := nI 0) (by decide) ?_
          refine g_istore_7 hx dL_areClaims_45 (nx := 47) rfl (by decide) rfl ?_
          have loop2 : ∀ (r2 j : Nat) (w8 : Value), j + r2 = i → aG p l e rmL_areClaims s m args below meth c E io0 S 9 (vx_MQ below (aQc E io0 S Kr) (aXC E io0 S Kx) args s rmL_areClaims.cells rmL_areClaims.slots (aW E)) 47 [.ref 3, .ref 11, .ref 13, .ref 14, .int (nI 1), .int (nI i), .int (nI (pcn j w)), .int (nI j), w8] [] (S) (I') (L') (Rf) 7 45 := by
            intro r2
            induction r2 with
            | zero =>
              intro j w8 hj0
              have hji : i = j := by omega
              subst hji
              refine g_iloadG hx dL_areClaims_47 (nx := 49) rfl rfl ?_
              refine g_iloadG hx dL_areClaims_49 (nx := 51) rfl rfl ?_
              refine g_icmp_geN hx dL_areClaims_51 (tg := 134) (by decide) (nx := 54) rfl (by omega) (by omega) (fun c51 => ?_) (fun c51 => ?_)
              · refine g_iloadG hx dL_areClaims_134 (nx := 136) rfl rfl ?_
                refine g_if_eqN hx dL_areClaims_136 (tg := 289) (by decide) (nx := 139) rfl (by omega) (fun c136 => ?_) (fun c136 => ?_)
                · exact absurd c136 (by decide)
                · refine g_aloadG_n hx dL_areClaims_139 rfl (nx := 140) rfl rfl ?_
                  refine g_iloadG hx dL_areClaims_140 (nx := 142) rfl rfl ?_
                  refine g_iconst hx dL_areClaims_142 (nx := 143) rfl (v := nI 0) (by decide) ?_
                  refine g_callV_M hx [_, _] (k' := 7) (n' := 45) dL_areClaims_143 (nx := 146) rfl lk_L_36 (hX.1 0 _ rfl) (by decide) rfl rfl (Nat.le_of_ble_eq_true rfl) (Nat.le_of_ble_eq_true rfl) (Nat.le_of_ble_eq_true rfl) (Nat.le_of_ble_eq_true rfl) (Nat.le_of_ble_eq_true rfl) (Nat.le_of_ble_eq_true rfl) (Nat.le_of_ble_eq_true rfl) (s_X3_ofClaim0 hst hC' (show i < nc by omega) ?_)
                  rw [h0]
                  refine g_aloadG_n hx dL_areClaims_146 rfl (nx := 147) rfl rfl ?_
                  refine g_iloadG hx dL_areClaims_147 (nx := 149) rfl rfl ?_
                  refine g_ialoadN hx dL_areClaims_149 (nx := 150) rfl h13 (by decide) (by omega) (by decide) (v := nI (100000 * kd + 10000 * st + 1000 * sr + ln)) (h9) ?_
                  refine g_ldc hx dL_areClaims_150 (nx := 152) rfl (v := nI 100000) kc_L_104 ?_
                  refine g_idivN hx dL_areClaims_152 (nx := 153) rfl (by omega) (by omega) (by omega) ?_
                  refine g_bipush hx dL_areClaims_153 (nx := 155) rfl (v := nI 10) (by decide) ?_
                  refine g_iremN hx dL_areClaims_155 (nx := 156) rfl (by omega) (by omega) (by omega) ?_
                  refine g_icmp_neN hx dL_areClaims_156 (tg := 289) (by decide) (nx := 159) rfl (by omega) (by omega) (fun c156 => ?_) (fun c156 => ?_)
                  · exact absurd c156 (by omega)
                  · refine g_aloadG_n hx dL_areClaims_159 rfl (nx := 160) rfl rfl ?_
                    refine g_iloadG hx dL_areClaims_160 (nx := 162) rfl rfl ?_
                    refine g_iconst hx dL_areClaims_162 (nx := 163) rfl (v := nI 1) (by decide) ?_
                    refine g_callV_M hx [_, _] (k' := 7) (n' := 45) dL_areClaims_163 (nx := 166) rfl lk_L_36 (hX.1 0 _ rfl) (by decide) rfl rfl (Nat.le_of_ble_eq_true rfl) (Nat.le_of_ble_eq_true rfl) (Nat.le_of_ble_eq_true rfl) (Nat.le_of_ble_eq_true rfl) (Nat.le_of_ble_eq_true rfl) (Nat.le_of_ble_eq_true rfl) (Nat.le_of_ble_eq_true rfl) (s_X3_ofClaim1 hst hC' (show i < nc by omega) ?_)
                    rw [h1]
                    refine g_aloadG_n hx dL_areClaims_166 rfl (nx := 167) rfl rfl ?_
                    refine g_iloadG hx dL_areClaims_167 (nx := 169) rfl rfl ?_
                    refine g_ialoadN hx dL_areClaims_169 (nx := 170) rfl h13 (by decide) (by omega) (by decide) (v := nI (100000 * kd + 10000 * st + 1000 * sr + ln)) (h9) ?_
                    refine g_sipush hx dL_areClaims_170 (nx := 173) rfl (v := nI 1000) (by decide) ?_
                    refine g_idivN hx dL_areClaims_173 (nx := 174) rfl (by omega) (by omega) (by omega) ?_
                    refine g_bipush hx dL_areClaims_174 (nx := 176) rfl (v := nI 10) (by decide) ?_
                    refine g_iremN hx dL_areClaims_176 (nx := 177) rfl (by omega) (by omega) (by omega) ?_
                    refine g_icmp_neN hx dL_areClaims_177 (tg := 289) (by decide) (nx := 180) rfl (by omega) (by omega) (fun c177 => ?_) (fun c177 => ?_)
                    · exact absurd c177 (by omega)
                    · refine g_aloadG_n hx dL_areClaims_180 rfl (nx := 181) rfl rfl ?_
                      refine g_iloadG hx dL_areClaims_181 (nx := 183) rfl rfl ?_
                      refine g_iconst hx dL_areClaims_183 (nx := 184) rfl (v := nI 2) (by decide) ?_
                      refine g_callV_M hx [_, _] (k' := 7) (n' := 45) dL_areClaims_184 (nx := 187) rfl lk_L_36 (hX.1 0 _ rfl) (by decide) rfl rfl (Nat.le_of_ble_eq_true rfl) (Nat.le_of_ble_eq_true rfl) (Nat.le_of_ble_eq_true rfl) (Nat.le_of_ble_eq_true rfl) (Nat.le_of_ble_eq_true rfl) (Nat.le_of_ble_eq_true rfl) (Nat.le_of_ble_eq_true rfl) (s_X3_ofClaim2 hst hC' (show i < nc by omega) ?_)
                      rw [h2]
                      refine g_aloadG_n hx dL_areClaims_187 rfl (nx := 188) rfl rfl ?_
                      refine g_iloadG hx dL_areClaims_188 (nx := 190) rfl rfl ?_
                      refine g_ialoadN hx dL_areClaims_190 (nx := 191) rfl h13 (by decide) (by omega) (by decide) (v := nI (100000 * kd + 10000 * st + 1000 * sr + ln)) (h9) ?_
                      refine g_bipush hx dL_areClaims_191 (nx := 193) rfl (v := nI 100) (by decide) ?_
                      refine g_iremN hx dL_areClaims_193 (nx := 194) rfl (by omega) (by omega) (by omega) ?_
                      refine g_icmp_neN hx dL_areClaims_194 (tg := 289) (by decide) (nx := 197) rfl (by omega) (by omega) (fun c194 => ?_) (fun c194 => ?_)
                      · exact absurd c194 (by omega)
                      · refine g_aloadG_n hx dL_areClaims_197 rfl (nx := 198) rfl rfl ?_
                        refine g_iloadG hx dL_areClaims_198 (nx := 200) rfl rfl ?_
                        refine g_iconst hx dL_areClaims_200 (nx := 201) rfl (v := nI 4) (by decide) ?_
                        refine g_callV_M hx [_, _] (k' := 7) (n' := 45) dL_areClaims_201 (nx := 204) rfl lk_L_36 (hX.1 0 _ rfl) (by decide) rfl rfl (Nat.le_of_ble_eq_true rfl) (Nat.le_of_ble_eq_true rfl) (Nat.le_of_ble_eq_true rfl) (Nat.le_of_ble_eq_true rfl) (Nat.le_of_ble_eq_true rfl) (Nat.le_of_ble_eq_true rfl) (Nat.le_of_ble_eq_true rfl) (s_X3_ofClaim4 hst hC' (show i < nc by omega) ?_)
                        rw [st4 h8 b1]
                        refine g_aloadG_n hx dL_areClaims_204 rfl (nx := 205) rfl rfl ?_
                        refine g_iloadG hx dL_areClaims_205 (nx := 207) rfl rfl ?_
                        refine g_ialoadN hx dL_areClaims_207 (nx := 208) rfl h13 (by decide) (by omega) (by decide) (v := nI (100000 * kd + 10000 * st + 1000 * sr + ln)) (h9) ?_
                        refine g_sipush hx dL_areClaims_208 (nx := 211) rfl (v := nI 10000) (by decide) ?_
                        refine g_idivN hx dL_areClaims_211 (nx := 212) rfl (by omega) (by omega) (by omega) ?_
                        refine g_bipush hx dL_areClaims_212 (nx := 214) rfl (v := nI 10) (by decide) ?_
                        refine g_iremN hx dL_areClaims_214 (nx := 215) rfl (by omega) (by omega) (by omega) ?_
                        refine g_icmp_neN hx dL_areClaims_215 (tg := 289) (by decide) (nx := 218) rfl (by omega) (by omega) (fun c215 => ?_) (fun c215 => ?_)
                        · exact absurd c215 (by omega)
                        · refine g_aloadG_n hx dL_areClaims_218 rfl (nx := 219) rfl rfl ?_
                          refine g_iloadG hx dL_areClaims_219 (nx := 221) rfl rfl ?_
                          refine g_iconst hx dL_areClaims_221 (nx := 222) rfl (v := nI 5) (by decide) ?_
                          refine g_callV_M hx [_, _] (k' := 7) (n' := 45) dL_areClaims_222 (nx := 225) rfl lk_L_36 (hX.1 0 _ rfl) (by decide) rfl rfl (Nat.le_of_ble_eq_true rfl) (Nat.le_of_ble_eq_true rfl) (Nat.le_of_ble_eq_true rfl) (Nat.le_of_ble_eq_true rfl) (Nat.le_of_ble_eq_true rfl) (Nat.le_of_ble_eq_true rfl) (Nat.le_of_ble_eq_true rfl) (s_X3_ofClaim5 hst hC' (show i < nc by omega) ?_)
                          rw [hbc]
                          refine g_iloadG hx dL_areClaims_225 (nx := 227) rfl rfl ?_
                          refine g_icmp_neN hx dL_areClaims_227 (tg := 289) (by decide) (nx := 230) rfl (by omega) (by omega) (fun c227 => ?_) (fun c227 => ?_)
                          · exact absurd c227 (by omega)
                          · refine g_aloadG_n hx dL_areClaims_230 rfl (nx := 231) rfl rfl ?_
                            refine g_iloadG hx dL_areClaims_231 (nx := 233) rfl rfl ?_
                            refine g_iconst hx dL_areClaims_233 (nx := 234) rfl (v := nI 3) (by decide) ?_
                            refine g_callV_M hx [_, _] (k' := 7) (n' := 45) dL_areClaims_234 (nx := 237) rfl lk_L_36 (hX.1 0 _ rfl) (by decide) rfl rfl (Nat.le_of_ble_eq_true rfl) (Nat.le_of_ble_eq_true rfl) (Nat.le_of_ble_eq_true rfl) (Nat.le_of_ble_eq_true rfl) (Nat.le_of_ble_eq_true rfl) (Nat.le_of_ble_eq_true rfl) (Nat.le_of_ble_eq_true rfl) (s_X3_ofClaim3 hst hC' (show i < nc by omega) ?_)
                            refine g_iconst hx dL_areClaims_237 (nx := 238) rfl (v := (-1)) (by decide) ?_
                            refine g_icmp_ne hx dL_areClaims_238 (tg := 245) (by decide) (nx := 241) rfl (fun c238 => ?_) (fun c238 => ?_)
                            · refine g_iconst hx dL_areClaims_245 (nx := 246) rfl (v := nI 0) (by decide) ?_
                              refine g_aloadG_n hx dL_areClaims_246 rfl (nx := 247) rfl rfl ?_
                              refine g_iloadG hx dL_areClaims_247 (nx := 249) rfl rfl ?_
                              refine g_iconst hx dL_areClaims_249 (nx := 250) rfl (v := nI 0) (by decide) ?_
                              refine g_callV_M hx [_, _] (k' := 7) (n' := 45) dL_areClaims_250 (nx := 253) rfl lk_L_36 (hX.1 0 _ rfl) (by decide) rfl rfl (Nat.le_of_ble_eq_true rfl) (Nat.le_of_ble_eq_true rfl) (Nat.le_of_ble_eq_true rfl) (Nat.le_of_ble_eq_true rfl) (Nat.le_of_ble_eq_true rfl) (Nat.le_of_ble_eq_true rfl) (Nat.le_of_ble_eq_true rfl) (s_X3_ofClaim0 hst hC' (show i < nc by omega) ?_)
                              rw [h0]
                              refine g_iconst hx dL_areClaims_253 (nx := 254) rfl (v := nI 1) (by decide) ?_
                              refine g_icmp_eqN hx dL_areClaims_254 (tg := 261) (by decide) (nx := 257) rfl (by omega) (by omega) (fun c254 => ?_) (fun c254 => ?_)
                              · refine g_iconst hx dL_areClaims_261 (nx := 262) rfl (v := nI 0) (by decide) ?_
                                refine g_icmp_neN hx dL_areClaims_262 (tg := 289) (by decide) (nx := 265) rfl (by omega) (by omega) (fun c262 => ?_) (fun c262 => ?_)
                                · exact absurd c262 (by decide)
                                · refine g_aloadG_n hx dL_areClaims_265 rfl (nx := 266) rfl rfl ?_
                                  refine g_iloadG hx dL_areClaims_266 (nx := 268) rfl rfl ?_
                                  refine g_iconst hx dL_areClaims_268 (nx := 269) rfl (v := nI 0) (by decide) ?_
                                  refine g_callV_M hx [_, _] (k' := 7) (n' := 45) dL_areClaims_269 (nx := 272) rfl lk_L_36 (hX.1 0 _ rfl) (by decide) rfl rfl (Nat.le_of_ble_eq_true rfl) (Nat.le_of_ble_eq_true rfl) (Nat.le_of_ble_eq_true rfl) (Nat.le_of_ble_eq_true rfl) (Nat.le_of_ble_eq_true rfl) (Nat.le_of_ble_eq_true rfl) (Nat.le_of_ble_eq_true rfl) (s_X3_ofClaim0 hst hC' (show i < nc by omega) ?_)
                                  rw [h0]
                                  refine g_iconst hx dL_areClaims_272 (nx := 273) rfl (v := nI 1) (by decide) ?_
                                  refine g_icmp_neN hx dL_areClaims_273 (tg := 285) (by decide) (nx := 276) rfl (by omega) (by omega) (fun c273 => ?_) (fun c273 => ?_)
                                  · exact absurd c254 c273
                                  · refine g_aloadG_n hx dL_areClaims_276 rfl (nx := 277) rfl rfl ?_
                                    refine g_iloadG hx dL_areClaims_277 (nx := 279) rfl rfl ?_
                                    refine g_callV_M hx [_] (k' := 7) (n' := 45) dL_areClaims_279 (nx := 282) rfl lk_L_105 (hX.1 0 _ rfl) (by decide) rfl rfl (Nat.le_of_ble_eq_true rfl) (Nat.le_of_ble_eq_true rfl) (Nat.le_of_ble_eq_true rfl) (Nat.le_of_ble_eq_true rfl) (Nat.le_of_ble_eq_true rfl) (Nat.le_of_ble_eq_true rfl) (Nat.le_of_ble_eq_true rfl) (s_X3_isSoundk (oo := oI I') hst hC' (show i < nc by omega) hs' ho' b2 h1 h4 b4 (fun I2 L2 e1 e2 => ?_))
                                    rw [zI_t (show hlP I' L' (100 + i) (200 + 8 * sr) (min dc (oI I' sr)) from ⟨fun z => absurd (z.symm.trans h0) (by subst c273; decide), fun z => absurd (z.symm.trans h0) (by subst c273; decide)⟩)]
                                    refine g_if_eq hx dL_areClaims_282 (tg := 289) (by decide) (nx := 285) rfl (fun c282 => ?_) (fun c282 => ?_)
                                    · exact absurd c282 (by decide)
                                    · refine g_iconst hx dL_areClaims_285 (nx := 286) rfl (v := nI 1) (by decide) ?_
                                      refine g_goto hx dL_areClaims_286 (tg := 290) (by decide) ?_
                                      refine g_istore_4 hx dL_areClaims_290 (nx := 292) rfl (by decide) rfl ?_
                                      refine g_iincN_5 hx dL_areClaims_292 (nx := 295) rfl (by decide) (b := 1) (by decide) rfl ?_
                                      refine g_goto hx dL_areClaims_295 (tg := 28) (by decide) ?_
                                      exact ih (i + 1) I2 L2 _ _ _ (by omega) (e1.trans ex) (e2.trans ex2)
                              · exact absurd (hB c254) c238
                            · refine g_iconst hx dL_areClaims_241 (nx := 242) rfl (v := nI 1) (by decide) ?_
                              refine g_goto hx dL_areClaims_242 (tg := 246) (by decide) ?_
                              refine g_aloadG_n hx dL_areClaims_246 rfl (nx := 247) rfl rfl ?_
                              refine g_iloadG hx dL_areClaims_247 (nx := 249) rfl rfl ?_
                              refine g_iconst hx dL_areClaims_249 (nx := 250) rfl (v := nI 0) (by decide) ?_
                              refine g_callV_M hx [_, _] (k' := 7) (n' := 45) dL_areClaims_250 (nx := 253) rfl lk_L_36 (hX.1 0 _ rfl) (by decide) rfl rfl (Nat.le_of_ble_eq_true rfl) (Nat.le_of_ble_eq_true rfl) (Nat.le_of_ble_eq_true rfl) (Nat.le_of_ble_eq_true rfl) (Nat.le_of_ble_eq_true rfl) (Nat.le_of_ble_eq_true rfl) (Nat.le_of_ble_eq_true rfl) (s_X3_ofClaim0 hst hC' (show i < nc by omega) ?_)
                              rw [h0]
                              refine g_iconst hx dL_areClaims_253 (nx := 254) rfl (v := nI 1) (by decide) ?_
                              refine g_icmp_eqN hx dL_areClaims_254 (tg := 261) (by decide) (nx := 257) rfl (by omega) (by omega) (fun c254 => ?_) (fun c254 => ?_)
                              · obtain ⟨a9, ha9, hA9⟩ := hA c254
                                exact absurd (hA9.symm.trans c238) (nI_m1 (by omega))
                              · refine g_iconst hx dL_areClaims_257 (nx := 258) rfl (v := nI 1) (by decide) ?_
                                refine g_goto hx dL_areClaims_258 (tg := 262) (by decide) ?_
                                refine g_icmp_neN hx dL_areClaims_262 (tg := 289) (by decide) (nx := 265) rfl (by omega) (by omega) (fun c262 => ?_) (fun c262 => ?_)
                                · exact absurd c262 (by decide)
                                · refine g_aloadG_n hx dL_areClaims_265 rfl (nx := 266) rfl rfl ?_
                                  refine g_iloadG hx dL_areClaims_266 (nx := 268) rfl rfl ?_
                                  refine g_iconst hx dL_areClaims_268 (nx := 269) rfl (v := nI 0) (by decide) ?_
                                  refine g_callV_M hx [_, _] (k' := 7) (n' := 45) dL_areClaims_269 (nx := 272) rfl lk_L_36 (hX.1 0 _ rfl) (by decide) rfl rfl (Nat.le_of_ble_eq_true rfl) (Nat.le_of_ble_eq_true rfl) (Nat.le_of_ble_eq_true rfl) (Nat.le_of_ble_eq_true rfl) (Nat.le_of_ble_eq_true rfl) (Nat.le_of_ble_eq_true rfl) (Nat.le_of_ble_eq_true rfl) (s_X3_ofClaim0 hst hC' (show i < nc by omega) ?_)
                                  rw [h0]
                                  refine g_iconst hx dL_areClaims_272 (nx := 273) rfl (v := nI 1) (by decide) ?_
                                  refine g_icmp_neN hx dL_areClaims_273 (tg := 285) (by decide) (nx := 276) rfl (by omega) (by omega) (fun c273 => ?_) (fun c273 => ?_)
                                  · refine g_iconst hx dL_areClaims_285 (nx := 286) rfl (v := nI 1) (by decide) ?_
                                    refine g_goto hx dL_areClaims_286 (tg := 290) (by decide) ?_
                                    refine g_istore_4 hx dL_areClaims_290 (nx := 292) rfl (by decide) rfl ?_
                                    refine g_iincN_5 hx dL_areClaims_292 (nx := 295) rfl (by decide) (b := 1) (by decide) rfl ?_
                                    refine g_goto hx dL_areClaims_295 (tg := 28) (by decide) ?_
                                    exact ih (i + 1) I' L' _ _ _ (by omega) ex ex2
                                  · exact absurd c273 c254
              · exact absurd c51 (by omega)
            | succ r2 ih2 =>
              intro j w8 hj0
              refine g_iloadG hx dL_areClaims_47 (nx := 49) rfl rfl ?_
              refine g_iloadG hx dL_areClaims_49 (nx := 51) rfl rfl ?_
              refine g_icmp_geN hx dL_areClaims_51 (tg := 134) (by decide) (nx := 54) rfl (by omega) (by omega) (fun c51 => ?_) (fun c51 => ?_)
              · exact absurd c51 (by omega)
              · refine g_aloadG_n hx dL_areClaims_54 rfl (nx := 55) rfl rfl ?_
                refine g_iloadG hx dL_areClaims_55 (nx := 57) rfl rfl ?_
                refine g_laloadN hx dL_areClaims_57 (nx := 58) rfl h14 (by decide) (by omega) (by decide) (v := lN w) (q14) ?_
                refine g_iloadG hx dL_areClaims_58 (nx := 60) rfl rfl ?_
                refine g_lshr hx dL_areClaims_60 (nx := 61) rfl ?_
                refine g_lconst hx dL_areClaims_61 (nx := 62) rfl (v := lN 1) (by decide) ?_
                refine g_land hx dL_areClaims_62 (nx := 63) rfl ?_
                refine g_lconst hx dL_areClaims_63 (nx := 64) rfl (v := lN 1) (by decide) ?_
                refine g_lc_ne hx dL_areClaims_64 (p2 := 65) rfl dL_areClaims_65 (tg := 72) (by decide) (nx := 68) rfl (fun c64 => ?_) (fun c64 => ?_)
                · refine g_iconst hx dL_areClaims_72 (nx := 73) rfl (v := nI 0) (by decide) ?_
                  refine g_istore_8 hx dL_areClaims_73 (nx := 75) rfl (by decide) rfl ?_
                  refine g_iloadG hx dL_areClaims_75 (nx := 77) rfl rfl ?_
                  refine g_iloadG hx dL_areClaims_77 (nx := 79) rfl rfl ?_
                  refine g_if_eqN hx dL_areClaims_79 (tg := 86) (by decide) (nx := 82) rfl (by omega) (fun c79 => ?_) (fun c79 => ?_)
                  · refine g_iconst hx dL_areClaims_86 (nx := 87) rfl (v := nI 0) (by decide) ?_
                    refine g_iaddN hx dL_areClaims_87 (nx := 88) rfl  ?_
                    refine g_istore_6 hx dL_areClaims_88 (nx := 90) rfl (by decide) rfl ?_
                    refine g_iloadG hx dL_areClaims_90 (nx := 92) rfl rfl ?_
                    refine g_if_eqN hx dL_areClaims_92 (tg := 125) (by decide) (nx := 95) rfl (by omega) (fun c92 => ?_) (fun c92 => ?_)
                    · exact absurd c92 (by decide)
                    · refine g_iloadG hx dL_areClaims_95 (nx := 97) rfl rfl ?_
                      refine g_if_eqN hx dL_areClaims_97 (tg := 121) (by decide) (nx := 100) rfl (by omega) (fun c97 => ?_) (fun c97 => ?_)
                      · refine g_iconst hx dL_areClaims_121 (nx := 122) rfl (v := nI 1) (by decide) ?_
                        refine g_goto hx dL_areClaims_122 (tg := 126) (by decide) ?_
                        refine g_istore_4 hx dL_areClaims_126 (nx := 128) rfl (by decide) rfl ?_
                        refine g_iincN_7 hx dL_areClaims_128 (nx := 131) rfl (by decide) (b := 1) (by decide) rfl ?_
                        refine g_goto hx dL_areClaims_131 (tg := 47) (by decide) ?_
                        have K := ih2 (j + 1) (.int (nI 0)) (by omega)
                        rw [show pcn (j + 1) w = pcn j w + 0 from by rw [pcn_t]; have := mt (bqP_N (k := j) (n := w) (by omega) (by omega)).mpr c64; omega] at K
                        exact K
                      · exact absurd c97 (by decide)
                  · exact absurd c79 (by decide)
                · refine g_iconst hx dL_areClaims_68 (nx := 69) rfl (v := nI 1) (by decide) ?_
                  refine g_goto hx dL_areClaims_69 (tg := 73) (by decide) ?_
                  refine g_istore_8 hx dL_areClaims_73 (nx := 75) rfl (by decide) rfl ?_
                  refine g_iloadG hx dL_areClaims_75 (nx := 77) rfl rfl ?_
                  refine g_iloadG hx dL_areClaims_77 (nx := 79) rfl rfl ?_
                  refine g_if_eqN hx dL_areClaims_79 (tg := 86) (by decide) (nx := 82) rfl (by omega) (fun c79 => ?_) (fun c79 => ?_)
                  · exact absurd c79 (by decide)
                  · refine g_iconst hx dL_areClaims_82 (nx := 83) rfl (v := nI 1) (by decide) ?_
                    refine g_goto hx dL_areClaims_83 (tg := 87) (by decide) ?_
                    refine g_iaddN hx dL_areClaims_87 (nx := 88) rfl  ?_
                    refine g_istore_6 hx dL_areClaims_88 (nx := 90) rfl (by decide) rfl ?_
                    refine g_iloadG hx dL_areClaims_90 (nx := 92) rfl rfl ?_
                    refine g_if_eqN hx dL_areClaims_92 (tg := 125) (by decide) (nx := 95) rfl (by omega) (fun c92 => ?_) (fun c92 => ?_)
                    · exact absurd c92 (by decide)
                    · refine g_iloadG hx dL_areClaims_95 (nx := 97) rfl rfl ?_
                      refine g_if_eqN hx dL_areClaims_97 (tg := 121) (by decide) (nx := 100) rfl (by omega) (fun c97 => ?_) (fun c97 => ?_)
                      · exact absurd c97 (by decide)
                      · refine g_aloadG_n hx dL_areClaims_100 rfl (nx := 101) rfl rfl ?_
                        refine g_iloadG hx dL_areClaims_101 (nx := 103) rfl rfl ?_
                        refine g_iconst hx dL_areClaims_103 (nx := 104) rfl (v := nI 4) (by decide) ?_
                        refine g_callV_M hx [_, _] (k' := 7) (n' := 45) dL_areClaims_104 (nx := 107) rfl lk_L_36 (hX.1 0 _ rfl) (by decide) rfl rfl (Nat.le_of_ble_eq_true rfl) (Nat.le_of_ble_eq_true rfl) (Nat.le_of_ble_eq_true rfl) (Nat.le_of_ble_eq_true rfl) (Nat.le_of_ble_eq_true rfl) (Nat.le_of_ble_eq_true rfl) (Nat.le_of_ble_eq_true rfl) (s_X3_ofClaim4 hst hC' (show i < nc by omega) ?_)
                        rw [st4 h8 b1]
                        refine g_if_eqN hx dL_areClaims_107 (tg := 121) (by decide) (nx := 110) rfl (by omega) (fun c107 => ?_) (fun c107 => ?_)
                        · refine g_iconst hx dL_areClaims_121 (nx := 122) rfl (v := nI 1) (by decide) ?_
                          refine g_goto hx dL_areClaims_122 (tg := 126) (by decide) ?_
                          refine g_istore_4 hx dL_areClaims_126 (nx := 128) rfl (by decide) rfl ?_
                          refine g_iincN_7 hx dL_areClaims_128 (nx := 131) rfl (by decide) (b := 1) (by decide) rfl ?_
                          refine g_goto hx dL_areClaims_131 (tg := 47) (by decide) ?_
                          have K := ih2 (j + 1) (.int (nI 1)) (by omega)
                          rw [show pcn (j + 1) w = pcn j w + 1 from by rw [pcn_t, (bqP_N (by omega) (by omega)).mp c64]] at K
                          exact K
                        · have hst1 : st = 1 := by omega
                          have hbq : bqP (L' (100 + i) 7) j := by rw [hwe]; exact c64
                          obtain ⟨_, sj, _, _, _, ⟨_, jb1, _, _, _⟩, _, _, _, _, j8, _, _⟩ := (hG' j (by omega)).1
                          have hsj : sj = 1 := (st_ne j8 jb1).mp (hx9 ((st_ne h8 b1).mpr hst1) j (by omega) hbq)
                          refine g_aloadG_n hx dL_areClaims_110 rfl (nx := 111) rfl rfl ?_
                          refine g_iloadG hx dL_areClaims_111 (nx := 113) rfl rfl ?_
                          refine g_iconst hx dL_areClaims_113 (nx := 114) rfl (v := nI 4) (by decide) ?_
                          refine g_callV_M hx [_, _] (k' := 7) (n' := 45) dL_areClaims_114 (nx := 117) rfl lk_L_36 (hX.1 0 _ rfl) (by decide) rfl rfl (Nat.le_of_ble_eq_true rfl) (Nat.le_of_ble_eq_true rfl) (Nat.le_of_ble_eq_true rfl) (Nat.le_of_ble_eq_true rfl) (Nat.le_of_ble_eq_true rfl) (Nat.le_of_ble_eq_true rfl) (Nat.le_of_ble_eq_true rfl) (s_X3_ofClaim4 hst hC' (show j < nc by omega) ?_)
                          rw [st4 j8 jb1]
                          refine g_iconst hx dL_areClaims_117 (nx := 118) rfl (v := nI 1) (by decide) ?_
                          refine g_icmp_neN hx dL_areClaims_118 (tg := 125) (by decide) (nx := 121) rfl (by omega) (by omega) (fun c118 => ?_) (fun c118 => ?_)
                          · exact absurd (by omega) c118
                          · refine g_iconst hx dL_areClaims_121 (nx := 122) rfl (v := nI 1) (by decide) ?_
                            refine g_goto hx dL_areClaims_122 (tg := 126) (by decide) ?_
                            refine g_istore_4 hx dL_areClaims_126 (nx := 128) rfl (by decide) rfl ?_
                            refine g_iincN_7 hx dL_areClaims_128 (nx := 131) rfl (by decide) (b := 1) (by decide) rfl ?_
                            refine g_goto hx dL_areClaims_131 (tg := 47) (by decide) ?_
                            have K := ih2 (j + 1) (.int (nI 1)) (by omega)
                            rw [show pcn (j + 1) w = pcn j w + 1 from by rw [pcn_t, (bqP_N (by omega) (by omega)).mp c64]] at K
                            exact K
          exact loop2 i 0 _ (Nat.zero_add _)
  refine g_aloadG_n hx dL_areClaims_0 rfl (nx := 1) rfl rfl ?_
  refine g_bipush hx dL_areClaims_1 (nx := 3) rfl (v := nI 7) (by decide) ?_
  refine g_aloadG_n hx dL_areClaims_3 rfl (nx := 4) rfl rfl ?_
  refine g_iconst hx dL_areClaims_4 (nx := 5) rfl (v := nI 1) (by decide) ?_
  refine g_ialoadN hx dL_areClaims_5 (nx := 6) rfl h11 (by decide) (by omega) (by decide) (v := nI nc) (hc1) ?_
  refine g_iconst hx dL_areClaims_6 (nx := 7) rfl (v := nI 0) (by decide) ?_
  refine g_iconst hx dL_areClaims_7 (nx := 8) rfl (v := nI 0) (by decide) ?_
  refine g_callW hx [_, _, _, _, _] (k' := 7) (n' := 45) dL_areClaims_8 (nx := 11) rfl lk_L_95 rfl (Nat.le_of_ble_eq_true rfl) (Nat.le_of_ble_eq_true rfl) (Nat.le_of_ble_eq_true rfl) (Nat.le_of_ble_eq_true rfl) (Nat.le_of_ble_eq_true rfl) (Nat.le_of_ble_eq_true rfl) (Nat.le_of_ble_eq_true rfl) (s_asks_none hst hC ?_)
  refine g_ldc2 hx dL_areClaims_11 (nx := 14) rfl kl_L_44 ?_
  refine g_lc_ne hx dL_areClaims_14 (p2 := 15) rfl dL_areClaims_15 (tg := 22) (by decide) (nx := 18) rfl (fun c14 => ?_) (fun c14 => ?_)
  · exact absurd rfl c14
  · refine g_iconst hx dL_areClaims_18 (nx := 19) rfl (v := nI 1) (by decide) ?_
    refine g_goto hx dL_areClaims_19 (tg := 23) (by decide) ?_
    refine g_istore_4 hx dL_areClaims_23 (nx := 25) rfl (by decide) rfl ?_
    refine g_iconst hx dL_areClaims_25 (nx := 26) rfl (v := nI 0) (by decide) ?_
    refine g_istore_5 hx dL_areClaims_26 (nx := 28) rfl (by decide) rfl ?_
    exact loop1 nc 0 I L _ _ _ (Nat.zero_add _) (eqX.refl I) (eqX.refl L)

