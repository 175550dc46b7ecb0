/-! the law: what falls -/
/-- all but who stands, and the law's own numbers -/
def eqF (nc : Nat) (J I : aI) : Prop := ∀ a k, a ≠ 7 → a ≠ 8 → a ≠ 9 → a ≠ 13 → (k ≠ 8 ∨ a < 100 ∨ 100 + nc ≤ a) → J a k = I a k
theorem hlP_e {I J : aI} {L M : aL} {nc i k m : Nat} (h : eqF nc J I) (hL : eqX M L) (h40 : nc ≤ 40) : hlP J M (100 + i) (200 + 8 * k) m ↔ hlP I L (100 + i) (200 + 8 * k) m := by
  have e : ∀ a j, a ≠ 7 → a ≠ 8 → a ≠ 9 → a ≠ 13 → (j ≠ 8 ∨ a < 100 ∨ 100 + nc ≤ a) → J a j = I a j := h
  have hp : prs J (200 + 8 * k) = prs I (200 + 8 * k) := prs_e (fun t => e _ _ (by omega) (by omega) (by omega) (by omega) (by omega)) (fun t => e _ _ (by omega) (by omega) (by omega) (by omega) (by omega)) (fun t => e _ _ (by omega) (by omega) (by omega) (by omega) (by omega))
  have hl : ∀ x, laid J (200 + 8 * k) x m = laid I (200 + 8 * k) x m := fun x => laid_e (fun t => e _ _ (by omega) (by omega) (by omega) (by omega) (by omega)) (fun t => e _ _ (by omega) (by omega) (by omega) (by omega) (by omega)) (fun t => e _ _ (by omega) (by omega) (by omega) (by omega) (by omega)) (fun t => e _ _ (by omega) (by omega) (by omega) (by omega) (by omega)) x m
  have hn : ∀ x, nearS J (200 + 8 * k) x ↔ nearS I (200 + 8 * k) x := fun x => by
    simp only [nearS, rgS]
    rw [e (200 + 8 * k) 6 (by omega) (by omega) (by omega) (by omega) (by omega), e (200 + 8 * k) 7 (by omega) (by omega) (by omega) (by omega) (by omega), e (200 + 8 * k) 8 (by omega) (by omega) (by omega) (by omega) (by omega), e (200 + 8 * k) 9 (by omega) (by omega) (by omega) (by omega) (by omega)]
  unfold hlP
  rw [e (100 + i) 0 (by omega) (by omega) (by omega) (by omega) (by omega), e (100 + i) 2 (by omega) (by omega) (by omega) (by omega) (by omega), e (100 + i) 3 (by omega) (by omega) (by omega) (by omega) (by omega), hL (100 + i) 5 (by omega) (by omega) (by omega), hp, hl, hn]
theorem cN_F {c : Int64} {t s : Nat → Nat} : ∀ m, m ≤ 40 → (∀ k, k < m → (bqP c k ↔ t k = 1 ∧ s k = 0)) → cN (fun k => bqP c k) m = nI (cF t s m) := by
  intro m
  induction m with
  | zero => intro _ _; rfl
  | succ m ih =>
    intro hm h
    have hc := h m (by omega)
    rw [cN_s, ih (by omega) (fun k hk => h k (by omega)), cF]
    by_cases z : t m = 1 ∧ s m = 0
    · rw [zI_t (hc.mpr z), if_pos z]; exact nI_add _ 1
    · rw [zI_f (fun w => z (hc.mp w)), if_neg z]; exact nI_add _ 0
theorem cF_same (t : Nat → Nat) : ∀ m, cF t t m = 0 := by
  intro m
  induction m with
  | zero => rfl
  | succ m ih => rw [cF, ih, if_neg (by omega)]
theorem cF_pos {t s : Nat → Nat} {j : Nat} (h : t j = 1 ∧ s j = 0) : ∀ m, j < m → 0 < cF t s m := by
  intro m
  induction m with
  | zero => intro z; omega
  | succ m ih =>
    intro z
    rw [cF]
    by_cases e : j = m
    · subst e; rw [if_pos h]; omega
    · have := ih (by omega); omega
/-- what a call that lets claims fall leaves -/
theorem fell {I I1 : aI} {L : aL} {n nc : Nat} {nm : Int64} (h40 : nc ≤ 40) (hG : gC I L n nc) (f1 : eqF nc I1 I) (f2 : ∀ j, j < nc → I1 (100 + j) 8 = if I (100 + j) 8 ≠ 0 ∧ goP nm (fun k => L (100 + k) 7) (gnS nm (fun k => L (100 + k) 7) (fun k => I (100 + k) 8) j) j then 0 else I (100 + j) 8) :
    (∀ j, j < nc → sv I j ≤ 1 ∧ sv I1 j ≤ sv I j) ∧ gC I1 L n nc ∧ bcnt (gnS nm (fun k => L (100 + k) 7) (fun k => I (100 + k) 8) nc) = nI (cF (sv I) (sv I1) nc) := by
  have hb := gn_bt (nm := nm) (ci := fun k => L (100 + k) 7) (sd := fun k => I (100 + k) 8)
  have key : ∀ j, j < nc → sv I j ≤ 1 ∧ sv I1 j ≤ sv I j ∧ I1 (100 + j) 8 = nI (sv I1 j) ∧ I (100 + j) 8 = nI (sv I j) ∧ ((sv I j = 1 ∧ sv I1 j = 0) ↔ (I (100 + j) 8 ≠ 0 ∧ goP nm (fun k => L (100 + k) 7) (gnS nm (fun k => L (100 + k) 7) (fun k => I (100 + k) 8) j) j)) := by
    intro j hj
    obtain ⟨⟨kd, st, sr, ln, dc, ⟨b0, b1, b2, b3, b4⟩, h0, h1, h2, h4, h8, hA, hB⟩, -, -⟩ := hG j hj
    have e1 := sv_of h8 b1
    have e2 := f2 j hj
    have e3 := st_ne h8 b1
    split at e2
    · rename_i z
      have e4 : sv I1 j = 0 := by unfold sv; rw [e2]; rfl
      have e5 := e3.mp z.1
      refine ⟨by omega, by omega, by rw [e4, e2]; rfl, by rw [e1]; exact h8, fun _ => z, fun _ => by omega⟩
    · rename_i z
      have e4 : sv I1 j = sv I j := by unfold sv; rw [e2]
      refine ⟨by omega, by omega, by rw [e4, e2, e1]; exact h8, by rw [e1]; exact h8, fun w => by omega, fun w => absurd w z⟩
  refine ⟨fun j hj => ⟨(key j hj).1, (key j hj).2.1⟩, fun i hi => ?_, ?_⟩
  · obtain ⟨⟨kd, st, sr, ln, dc, ⟨b0, b1, b2, b3, b4⟩, h0, h1, h2, h4, h8, hA, hB⟩, hq, hx⟩ := hG i hi
    obtain ⟨k1, k2, k3, k4, k5⟩ := key i hi
    have e : ∀ k, k ≠ 8 → I1 (100 + i) k = I (100 + i) k := fun k hk => f1 _ _ (by omega) (by omega) (by omega) (by omega) (Or.inl hk)
    refine ⟨⟨kd, sv I1 i, sr, ln, dc, ⟨b0, by omega, b2, b3, b4⟩, (e _ (by decide)).trans h0, (e _ (by decide)).trans h1, (e _ (by decide)).trans h2, (e _ (by decide)).trans h4, k3, fun z => by rw [e _ (by decide)]; exact hA z, fun z => (e _ (by decide)).trans (hB z)⟩, hq, fun z j hj hbq => ?_⟩
    have s1 : sv I1 i = 1 := (st_ne k3 (by omega)).mp z
    have s0 : sv I i = 1 := by omega
    have s2 : I (100 + i) 8 ≠ 0 := (st_ne k4 k1).mpr s0
    obtain ⟨m1, m2, m3, m4, m5⟩ := key j (by omega)
    have s3 := (st_ne m4 m1).mp (hx s2 j hj hbq)
    refine (st_ne m3 (by omega)).mpr ?_
    rcases Nat.eq_zero_or_pos (sv I1 j) with w | w
    · have w2 := m5.mp ⟨s3, w⟩
      have w3 : bt (gnS nm (fun k => L (100 + k) 7) (fun k => I (100 + k) 8) i) j := ((hb i (by omega)).2 j).mpr ⟨hj, w2.1, w2.2⟩
      have w4 : L (100 + i) 7 &&& gnS nm (fun k => L (100 + k) 7) (fun k => I (100 + k) 8) i ≠ 0 := and_bt.mpr ⟨j, (bqP_bt (by omega)).mp hbq, w3⟩
      have w5 := k5.mpr ⟨s2, Or.inr w4⟩
      omega
    · omega
  · rw [bc_ct h40 (hb nc h40).1, ctM_c]
    refine cN_F nc h40 (fun k hk => ?_)
    obtain ⟨k1, k2, k3, k4, k5⟩ := key k hk
    rw [bqP_bt (by omega), (hb nc h40).2 k, k5]
    exact ⟨fun z => ⟨z.2.1, z.2.2⟩, fun z => ⟨hk, z.1, z.2⟩⟩
theorem gn0 {nm : Int64} {ci : Nat → Int64} {sd : Nat → Int32} {nc : Nat} (h40 : nc ≤ 40) (h : ∀ k, k < nc → sd k ≠ 0 → ¬ bt nm k) : ∀ k, k ≤ nc → gnS nm ci sd k = 0 := by
  intro k
  induction k with
  | zero => intro _; rfl
  | succ k ih =>
    intro hk
    rw [gnS, ih (by omega), if_neg]
    rintro ⟨z, w | w⟩
    · rw [bit_and (by omega)] at w
      exact h k (by omega) z w
    · apply w
      apply Int64.toBitVec_inj.mp
      show (ci k).toBitVec &&& 0#64 = 0#64
      simp
theorem gH_s {I : aI} {nc : Nat} (h : ∀ k, k < nc → clH I k (sv I k)) : gH I nc (sv I) := h
abbrev rmL_audits : Room := { frames := 9, cells := 7, slots := 45, locals := 192 }
set_option maxHeartbeats 4000000 in
set_option maxRecDepth 100000 in
theorem s_L_audits {l : Launch} {E : aE} {S : aS} {I : aI} {L : aL} {Rf : aR} {Kr : aK} {Kx : aX} (hst : l.stackTraces = false) {n nc x : Nat} (hC : lyC S Rf I n nc) (hnc0 : 0 < nc) (h11 : S 11 = some (.inl (.int, 6))) (h13 : S 13 = some (.inl (.int, 40))) (hc1 : I 11 1 = nI nc) (hsi : gSI I n) (hoo : gOO I n) (hG : gC I L n nc) (hH : gH I nc (sv I)) (hx9 : x < 2 ^ 30) (hk : ∀ I' L', eqF nc I' I → gC I' L' n nc → gH I' nc (sv I') → Kr (some (.int (nI 1))) S I' L' Rf) : aMet l E yL_audits cL_audits 8 (some .boolean) rmL_audits [.ref 3, .int (nI x), .ref 11, .ref 13] S I L Rf Kr Kx := by
  refine aMet.of (lv0 := [.ref 3, .int (nI x), .ref 11, .ref 13, aU, aU, aU, aU]) (z := 4) (by decide +kernel) hst rfl (Nat.le_of_ble_eq_true rfl) ?_
  intro p e s m args below meth c io0 hx hin hno
  have hx : aCx p l s m args meth c RL cL_audits 8 (some .boolean) E := hx
  have hX := hC.1
  have hn6 := hC.2.1
  have hc40 := hC.2.2.1
  refine g_iloadG_n hx dL_audits_0 rfl (nx := 1) rfl rfl ?_
  refine g_iconst hx dL_audits_1 (nx := 2) rfl (v := nI 2) (by decide) ?_
  refine g_iremN hx dL_audits_2 (nx := 3) rfl (by omega) (by omega) (by omega) ?_
  refine g_if_neN hx dL_audits_3 (tg := 116) (by decide) (nx := 6) rfl (by omega) (fun c3 => ?_) (fun c3 => ?_)
  · have hcf : ∀ j, j < nc → (fun j => (I (100 + j) 1).toNatClampNeg) j < n ∧ I (100 + j) 1 = nI ((fun j => (I (100 + j) 1).toNatClampNeg) j) ∧ I (100 + j) 4 = nI ((fun j => (I (100 + j) 4).toNatClampNeg) j) ∧ (fun j => (I (100 + j) 4).toNatClampNeg) j ≤ 6 := fun j hj => by
      obtain ⟨⟨_, _, sr, _, dc, ⟨_, _, y2, _, y4⟩, _, y1, _, y5, _, _, _⟩, -, -⟩ := hG j hj
      have z1 : (fun j => (I (100 + j) 1).toNatClampNeg) j = sr := by show (I (100 + j) 1).toNatClampNeg = sr; rw [y1]; exact nI_clamp (by omega)
      have z2 : (fun j => (I (100 + j) 4).toNatClampNeg) j = dc := by show (I (100 + j) 4).toNatClampNeg = dc; rw [y5]; exact nI_clamp (by omega)
      rw [z1, z2]
      exact ⟨y2, y1, y5, y4⟩
    refine g_aloadG_n hx dL_audits_116 rfl (nx := 117) rfl rfl ?_
    refine g_callV_M hx [] (k' := 0) (n' := 0) dL_audits_117 (nx := 120) rfl lk_L_118 (hX.1 0 _ rfl) (by decide) rfl rfl (Nat.le_of_ble_eq_true rfl) (Nat.le_of_ble_eq_true rfl) (Nat.le_of_ble_eq_true rfl) (Nat.le_of_ble_eq_true rfl) (Nat.le_of_ble_eq_true rfl) (Nat.le_of_ble_eq_true rfl) (Nat.le_of_ble_eq_true rfl) (s_X3_audit (oo := oI I) (sc := (fun j => (I (100 + j) 1).toNatClampNeg)) (dc := (fun j => (I (100 + j) 4).toNatClampNeg)) hst hC hsi hoo hcf (fun I1 L1 e8 e7 f2 => ?_))
    have f1 : eqF nc I1 I := fun a k h1 h2 h3 _ h => e8 a k h1 h2 h3 h
    have hF := fell hc40 hG f1 f2
    obtain ⟨g1, g2, g3⟩ := hF
    rw [g3]
    have h131 : ∀ k, I1 13 k = I 13 k := fun k => e8 _ _ (by omega) (by omega) (by omega) (by omega)
    have hC1 : lyC S Rf I1 n nc := hC.I (f1 _ _ (by decide) (by decide) (by decide) (by decide) (by omega)) (f1 _ _ (by decide) (by decide) (by decide) (by decide) (by omega))
    have hc11 : I1 11 1 = nI nc := (f1 _ _ (by decide) (by decide) (by decide) (by decide) (by omega)).trans hc1
    have hH1 : gH I1 nc (sv I) := fun i hi => by
      have w := hH i hi
      unfold clH at w ⊢
      rw [h131, f1 (100 + i) 0 (by omega) (by omega) (by omega) (by omega) (by omega), f1 (100 + i) 1 (by omega) (by omega) (by omega) (by omega) (by omega), f1 (100 + i) 2 (by omega) (by omega) (by omega) (by omega) (by omega)]
      exact w
    have hcl := cF_le (sv I) (sv I1) nc
    refine g_istore_4 hx dL_audits_120 (nx := 122) rfl (by decide) rfl ?_
    refine g_iloadG hx dL_audits_122 (nx := 124) rfl rfl ?_
    refine g_aloadG_n hx dL_audits_124 rfl (nx := 125) rfl rfl ?_
    refine g_aloadG_n hx dL_audits_125 rfl (nx := 126) rfl rfl ?_
    refine g_aloadG_n hx dL_audits_126 rfl (nx := 127) rfl rfl ?_
    refine g_callS_M hx [_, _, _] (k' := 0) (n' := 0) dL_audits_127 (nx := 130) rfl lk_L_114 rfl (Nat.le_of_ble_eq_true rfl) (Nat.le_of_ble_eq_true rfl) (Nat.le_of_ble_eq_true rfl) (Nat.le_of_ble_eq_true rfl) (Nat.le_of_ble_eq_true rfl) (Nat.le_of_ble_eq_true rfl) (Nat.le_of_ble_eq_true rfl) (s_L_falls (n := n) (nc := nc) (t9 := sv I) hst hC1 h11 h13 hc11 (fun i hi => (g2 i hi).1) hH1 (fun i hi => g1 i hi) (fun I2 q1 q2 => ?_))
    refine g_icmp_neN hx dL_audits_130 (tg := 144) (by decide) (nx := 133) rfl (by omega) (by omega) (fun c130 => ?_) (fun c130 => ?_)
    · exact absurd c130 (by omega)
    · have gg2 := g2
      have hG2 : gC I2 L1 n nc := fun i hi => by
        obtain ⟨w1, w2, w3⟩ := (g2.x (eqX.refl I1) e7) i hi
        refine ⟨w1.x (fun k => q1 _ _ (by omega)), w2, fun z j hj hb => ?_⟩
        rw [q1 _ _ (by omega)] at z ⊢
        exact w3 z j hj hb
      have hH2 : gH I2 nc (sv I2) := fun i hi => by
        rw [show sv I2 i = sv I1 i from by unfold sv; rw [q1 _ _ (by omega)]]
        exact q2 i hi
      have f3 : eqF nc I2 I := fun a k k1 k2 k3 k4 k5 => (q1 a k k4).trans (f1 a k k1 k2 k3 k4 k5)
      have hC2 : lyC S Rf I2 n nc := hC1.I (q1 _ _ (by decide)) (q1 _ _ (by decide))
      have hs2 : gSI I2 n := fun k hk t ht => by rw [f3 _ _ (by omega) (by omega) (by omega) (by omega) (by omega)]; exact hsi k hk t ht
      have ho2 : gOO I2 n := fun k hk => by
        have h9 := hoo k hk
        unfold oI at h9 ⊢
        rw [f3 _ _ (by omega) (by omega) (by omega) (by omega) (by omega)]; exact h9
      have hcf2 : ∀ j, j < nc → (fun j => (I (100 + j) 1).toNatClampNeg) j < n ∧ I2 (100 + j) 1 = nI ((fun j => (I (100 + j) 1).toNatClampNeg) j) ∧ I2 (100 + j) 4 = nI ((fun j => (I (100 + j) 4).toNatClampNeg) j) ∧ (fun j => (I (100 + j) 4).toNatClampNeg) j ≤ 6 := fun j hj => by rw [f3 _ _ (by omega) (by omega) (by omega) (by omega) (by omega), f3 _ _ (by omega) (by omega) (by omega) (by omega) (by omega)]; exact hcf j hj
      have hoe : ∀ k, k < n → oI I2 k = oI I k := fun k hk => by unfold oI; rw [f3 _ _ (by omega) (by omega) (by omega) (by omega) (by omega)]
      have hsd : ∀ j, j < nc → I2 (100 + j) 8 ≠ 0 → hlP I2 L1 (100 + j) (200 + 8 * (fun j => (I (100 + j) 1).toNatClampNeg) j) (min ((fun j => (I (100 + j) 4).toNatClampNeg) j) (oI I2 ((fun j => (I (100 + j) 1).toNatClampNeg) j))) := fun j hj z => by
        rw [q1 _ _ (by omega), f2 j hj] at z
        rw [hoe _ (hcf j hj).1, hlP_e f3 e7 hc40]
        split at z
        · exact absurd rfl z
        · rename_i w
          refine Classical.byContradiction fun y => w ⟨z, Or.inl ((bit_and (by omega)).mpr ?_)⟩
          exact (us_bt nc hc40 j).mpr ⟨hj, z, y⟩
      refine g_aloadG_n hx dL_audits_133 rfl (nx := 134) rfl rfl ?_
      refine g_callV_M hx [] (k' := 0) (n' := 0) dL_audits_134 (nx := 137) rfl lk_L_118 (hX.1 0 _ rfl) (by decide) rfl rfl (Nat.le_of_ble_eq_true rfl) (Nat.le_of_ble_eq_true rfl) (Nat.le_of_ble_eq_true rfl) (Nat.le_of_ble_eq_true rfl) (Nat.le_of_ble_eq_true rfl) (Nat.le_of_ble_eq_true rfl) (Nat.le_of_ble_eq_true rfl) (s_X3_audit (oo := oI I2) (sc := (fun j => (I (100 + j) 1).toNatClampNeg)) (dc := (fun j => (I (100 + j) 4).toNatClampNeg)) hst hC2 hs2 ho2 hcf2 (fun I3 L3 u8 u7 u2 => ?_))
      have hg0 : ∀ k, k ≤ nc → gnS (usS (fun j => hlP I2 L1 (100 + j) (200 + 8 * (fun j => (I (100 + j) 1).toNatClampNeg) j) (min ((fun j => (I (100 + j) 4).toNatClampNeg) j) (oI I2 ((fun j => (I (100 + j) 1).toNatClampNeg) j)))) (fun j => I2 (100 + j) 8) nc) (fun k => L1 (100 + k) 7) (fun k => I2 (100 + k) 8) k = 0 := gn0 hc40 (fun k hk z w => absurd (hsd k hk z) ((us_bt nc hc40 k).mp w).2.2)
      rw [hg0 nc (Nat.le_refl _), show bcnt 0 = nI 0 from by decide +kernel]
      have e32 : eqX I3 I2 := fun a k k1 k2 k3 => by
        by_cases w : k ≠ 8 ∨ a < 100 ∨ 100 + nc ≤ a
        · exact u8 a k k1 k2 k3 w
        · have wk : k = 8 := by omega
          obtain ⟨j, hj⟩ : ∃ j, a = 100 + j := ⟨a - 100, by omega⟩
          subst hj; subst wk
          rw [u2 j (by omega), if_neg]
          rintro ⟨z, y⟩
          rw [hg0 j (by omega)] at y
          rcases y with y | y
          · rw [bit_and (by omega)] at y
            exact absurd (hsd j (by omega) z) ((us_bt nc hc40 j).mp y).2.2
          · apply y
            apply Int64.toBitVec_inj.mp
            show (L1 (100 + j) 7).toBitVec &&& 0#64 = 0#64
            simp
      refine g_if_neN hx dL_audits_137 (tg := 144) (by decide) (nx := 140) rfl (by omega) (fun c137 => ?_) (fun c137 => ?_)
      · exact absurd c137 (by decide)
      · refine g_iconst hx dL_audits_140 (nx := 141) rfl (v := nI 1) (by decide) ?_
        refine g_goto hx dL_audits_141 (tg := 145) (by decide) ?_
        refine g_istore_5 hx dL_audits_145 (nx := 147) rfl (by decide) rfl ?_
        refine g_iconst hx dL_audits_147 (nx := 148) rfl (v := nI 0) (by decide) ?_
        refine g_istore_6 hx dL_audits_148 (nx := 150) rfl (by decide) rfl ?_
        have loop1 : ∀ (r i : Nat) (I4 : aI) (L4 : aL), i + r = nc → eqX I4 I2 → eqX L4 L1 → aG p l e rmL_audits s m args below meth c E io0 S 8 (vx_MQ below (aQc E io0 S Kr) (aXC E io0 S Kx) args s rmL_audits.cells rmL_audits.slots (aW E)) 150 [.ref 3, .int (nI x), .ref 11, .ref 13, .int (nI (cF (sv I) (sv I1) nc)), .int (nI 1), .int (nI i), aU] [] (S) (I4) (L4) (Rf) 0 0 := by
          intro r
          induction r with
          | zero =>
            intro i I4 L4 hi0 x1 x2
            have hi : i = nc := by omega
            refine g_iloadG hx dL_audits_150 (nx := 152) rfl rfl ?_
            refine g_aloadG_n hx dL_audits_152 rfl (nx := 153) rfl rfl ?_
            refine g_iconst hx dL_audits_153 (nx := 154) rfl (v := nI 1) (by decide) ?_
            refine g_ialoadN hx dL_audits_154 (nx := 155) rfl h11 (by decide) (by omega) (by decide) (v := nI nc) ((x1 _ _ (by decide) (by decide) (by decide)).trans ((q1 _ _ (by decide)).trans hc11)) ?_
            refine g_icmp_geN hx dL_audits_155 (tg := 195) (by decide) (nx := 158) rfl (by omega) (by omega) (fun c155 => ?_) (fun c155 => ?_)
            · refine g_iloadG hx dL_audits_195 (nx := 197) rfl rfl ?_
              refine g_iret hx dL_audits_197 rfl (by first | rfl | decide) (Nat.le_of_ble_eq_true rfl) (Nat.le_of_ble_eq_true rfl) ?_
              exact hk I4 L4 (fun a k k1 k2 k3 k4 k5 => (x1 a k k1 k2 k3).trans (f3 a k k1 k2 k3 k4 k5)) (hG2.x x1 x2) (hH2.xs x1)
            · exact absurd c155 (by omega)
          | succ r ih =>
            intro i I4 L4 hi0 x1 x2
            have hC4 : lyC S Rf I4 n nc := hC2.I (x1 _ _ (by decide) (by decide) (by decide)) (x1 _ _ (by decide) (by decide) (by decide))
            obtain ⟨⟨kd, st, sr, ln, dc, ⟨b0, b1, b2, b3, b4⟩, h0, h1, h2, h4, h8, hA, hB⟩, -, -⟩ := (hG2.x x1 x2) i (by omega)
            refine g_iloadG hx dL_audits_150 (nx := 152) rfl rfl ?_
            refine g_aloadG_n hx dL_audits_152 rfl (nx := 153) rfl rfl ?_
            refine g_iconst hx dL_audits_153 (nx := 154) rfl (v := nI 1) (by decide) ?_
            refine g_ialoadN hx dL_audits_154 (nx := 155) rfl h11 (by decide) (by omega) (by decide) (v := nI nc) ((x1 _ _ (by decide) (by decide) (by decide)).trans ((q1 _ _ (by decide)).trans hc11)) ?_
            refine g_icmp_geN hx dL_audits_155 (tg := 195) (by decide) (nx := 158) rfl (by omega) (by omega) (fun c155 => ?_) (fun c155 => ?_)
            · exact absurd c155 (by omega)
            · refine g_iloadG hx dL_audits_158 (nx := 160) rfl rfl ?_
              refine g_if_eqN hx dL_audits_160 (tg := 195) (by decide) (nx := 163) rfl (by omega) (fun c160 => ?_) (fun c160 => ?_)
              · exact absurd c160 (by decide)
              · refine g_aloadG_n hx dL_audits_163 rfl (nx := 164) rfl rfl ?_
                refine g_iloadG hx dL_audits_164 (nx := 166) rfl rfl ?_
                refine g_iconst hx dL_audits_166 (nx := 167) rfl (v := nI 4) (by decide) ?_
                refine g_callV_M hx [_, _] (k' := 0) (n' := 0) dL_audits_167 (nx := 170) rfl lk_L_36 (hX.1 0 _ rfl) (by decide) rfl rfl (Nat.le_of_ble_eq_true rfl) (Nat.le_of_ble_eq_true rfl) (Nat.le_of_ble_eq_true rfl) (Nat.le_of_ble_eq_true rfl) (Nat.le_of_ble_eq_true rfl) (Nat.le_of_ble_eq_true rfl) (Nat.le_of_ble_eq_true rfl) (s_X3_ofClaim4 hst hC4 (show i < nc by omega) ?_)
                rw [st4 h8 b1]
                refine g_if_eqN hx dL_audits_170 (tg := 182) (by decide) (nx := 173) rfl (by omega) (fun c170 => ?_) (fun c170 => ?_)
                · refine g_iconst hx dL_audits_182 (nx := 183) rfl (v := nI 1) (by decide) ?_
                  refine g_goto hx dL_audits_183 (tg := 187) (by decide) ?_
                  refine g_istore_5 hx dL_audits_187 (nx := 189) rfl (by decide) rfl ?_
                  refine g_iincN_6 hx dL_audits_189 (nx := 192) rfl (by decide) (b := 1) (by decide) rfl ?_
                  refine g_goto hx dL_audits_192 (tg := 150) (by decide) ?_
                  exact ih (i + 1) I4 L4 (by omega) x1 x2
                · refine g_aloadG_n hx dL_audits_173 rfl (nx := 174) rfl rfl ?_
                  refine g_iloadG hx dL_audits_174 (nx := 176) rfl rfl ?_
                  refine g_callV_M hx [_] (k' := 0) (n' := 0) dL_audits_176 (nx := 179) rfl lk_L_105 (hX.1 0 _ rfl) (by decide) rfl rfl (Nat.le_of_ble_eq_true rfl) (Nat.le_of_ble_eq_true rfl) (Nat.le_of_ble_eq_true rfl) (Nat.le_of_ble_eq_true rfl) (Nat.le_of_ble_eq_true rfl) (Nat.le_of_ble_eq_true rfl) (Nat.le_of_ble_eq_true rfl) (s_X3_isSoundk (oo := oI I4) hst hC4 (show i < nc by omega) (hs2.x x1) (ho2.x x1) b2 h1 h4 b4 (fun I5 L5 y1 y2 => ?_))
                  have z8 : I2 (100 + i) 8 ≠ 0 := by rw [← x1 _ _ (by omega) (by omega) (by omega)]; exact (st_ne h8 b1).mpr (by omega)
                  have z9 := hsd i (by omega) z8
                  rw [show (fun j => (I (100 + j) 1).toNatClampNeg) i = sr from by show (I (100 + i) 1).toNatClampNeg = sr; rw [← f3 _ _ (by omega) (by omega) (by omega) (by omega) (by omega), ← x1 _ _ (by omega) (by omega) (by omega), h1]; exact nI_clamp (by omega), show (fun j => (I (100 + j) 4).toNatClampNeg) i = dc from by show (I (100 + i) 4).toNatClampNeg = dc; rw [← f3 _ _ (by omega) (by omega) (by omega) (by omega) (by omega), ← x1 _ _ (by omega) (by omega) (by omega), h4]; exact nI_clamp (by omega)] at z9
                  rw [show oI I4 sr = oI I2 sr from by unfold oI; rw [x1 _ _ (by omega) (by omega) (by omega)], zI_t ((hlP_x x1 x2 (by omega) (by omega)).mpr z9)]
                  refine g_if_eq hx dL_audits_179 (tg := 186) (by decide) (nx := 182) rfl (fun c179 => ?_) (fun c179 => ?_)
                  · exact absurd c179 (by decide)
                  · refine g_iconst hx dL_audits_182 (nx := 183) rfl (v := nI 1) (by decide) ?_
                    refine g_goto hx dL_audits_183 (tg := 187) (by decide) ?_
                    refine g_istore_5 hx dL_audits_187 (nx := 189) rfl (by decide) rfl ?_
                    refine g_iincN_6 hx dL_audits_189 (nx := 192) rfl (by decide) (b := 1) (by decide) rfl ?_
                    refine g_goto hx dL_audits_192 (tg := 150) (by decide) ?_
                    exact ih (i + 1) I5 L5 (by omega) (y1.trans x1) (y2.trans x2)
        exact loop1 nc 0 I3 L3 (Nat.zero_add _) e32 u7
  · obtain ⟨aa, haa⟩ : ∃ k, k = x / 2 % nc := ⟨_, rfl⟩
    have ha9 : aa < nc := by rw [haa]; exact Nat.mod_lt _ hnc0
    obtain ⟨⟨ka, sa, ra, la, da, ⟨b0a, b1a, b2a, b3a, b4a⟩, ha0, ha1, ha2, ha4, ha8, hAa, hBa⟩, ⟨q1a, q2a⟩, hxa⟩ := hG aa ha9
    have h9a := (hH aa ha9).n ha0 ha1 ha2 b0a (by omega) b3a
    have hsa := sv_of ha8 b1a
    rw [hsa] at h9a
    refine g_iloadG_n hx dL_audits_6 rfl (nx := 7) rfl rfl ?_
    refine g_iconst hx dL_audits_7 (nx := 8) rfl (v := nI 2) (by decide) ?_
    refine g_idivN hx dL_audits_8 (nx := 9) rfl (by omega) (by omega) (by omega) ?_
    refine g_aloadG_n hx dL_audits_9 rfl (nx := 10) rfl rfl ?_
    refine g_iconst hx dL_audits_10 (nx := 11) rfl (v := nI 1) (by decide) ?_
    refine g_ialoadN hx dL_audits_11 (nx := 12) rfl h11 (by decide) (by omega) (by decide) (v := nI nc) (hc1) ?_
    refine g_iremN hx dL_audits_12 (nx := 13) rfl (by omega) (by omega) (by omega) ?_
    rw [← haa]
    refine g_istore_4 hx dL_audits_13 (nx := 15) rfl (by decide) rfl ?_
    refine g_aloadG_n hx dL_audits_15 rfl (nx := 16) rfl rfl ?_
    refine g_iloadG hx dL_audits_16 (nx := 18) rfl rfl ?_
    refine g_ialoadN hx dL_audits_18 (nx := 19) rfl h13 (by decide) (by omega) (by decide) (v := nI (100000 * ka + 10000 * sa + 1000 * ra + la)) (h9a) ?_
    refine g_sipush hx dL_audits_19 (nx := 22) rfl (v := nI 10000) (by decide) ?_
    refine g_idivN hx dL_audits_22 (nx := 23) rfl (by omega) (by omega) (by omega) ?_
    refine g_bipush hx dL_audits_23 (nx := 25) rfl (v := nI 10) (by decide) ?_
    refine g_iremN hx dL_audits_25 (nx := 26) rfl (by omega) (by omega) (by omega) ?_
    refine g_iconst hx dL_audits_26 (nx := 27) rfl (v := nI 1) (by decide) ?_
    refine g_icmp_neN hx dL_audits_27 (tg := 34) (by decide) (nx := 30) rfl (by omega) (by omega) (fun c27 => ?_) (fun c27 => ?_)
    · refine g_iconst hx dL_audits_34 (nx := 35) rfl (v := nI 0) (by decide) ?_
      refine g_istore_5 hx dL_audits_35 (nx := 37) rfl (by decide) rfl ?_
      refine g_aloadG_n hx dL_audits_37 rfl (nx := 38) rfl rfl ?_
      refine g_bipush hx dL_audits_38 (nx := 40) rfl (v := nI 6) (by decide) ?_
      refine g_iloadG hx dL_audits_40 (nx := 42) rfl rfl ?_
      refine g_iconst hx dL_audits_42 (nx := 43) rfl (v := nI 0) (by decide) ?_
      refine g_iconst hx dL_audits_43 (nx := 44) rfl (v := nI 0) (by decide) ?_
      refine g_callW hx [_, _, _, _, _] (k' := 7) (n' := 45) dL_audits_44 (nx := 47) rfl lk_L_95 rfl (Nat.le_of_ble_eq_true rfl) (Nat.le_of_ble_eq_true rfl) (Nat.le_of_ble_eq_true rfl) (Nat.le_of_ble_eq_true rfl) (Nat.le_of_ble_eq_true rfl) (Nat.le_of_ble_eq_true rfl) (Nat.le_of_ble_eq_true rfl) (s_asks_withdraw hst hC ha9 (fun e9 => ?_) (fun e9 I1 e8 f2 => ?_))
      · refine g_lstore_6 hx dL_audits_47 (nx := 49) rfl (by decide) rfl ?_
        refine g_iloadG hx dL_audits_49 (nx := 51) rfl rfl ?_
        refine g_if_eqN hx dL_audits_51 (tg := 92) (by decide) (nx := 54) rfl (by omega) (fun c51 => ?_) (fun c51 => ?_)
        · refine g_lloadG hx dL_audits_92 (nx := 94) rfl rfl ?_
          refine g_ldc2 hx dL_audits_94 (nx := 97) rfl kl_L_52 ?_
          refine g_lc_ne hx dL_audits_97 (p2 := 98) rfl dL_audits_98 (tg := 114) (by decide) (nx := 101) rfl (fun c97 => ?_) (fun c97 => ?_)
          · exact absurd rfl c97
          · refine g_aloadG_n hx dL_audits_101 rfl (nx := 102) rfl rfl ?_
            refine g_aloadG_n hx dL_audits_102 rfl (nx := 103) rfl rfl ?_
            refine g_aloadG_n hx dL_audits_103 rfl (nx := 104) rfl rfl ?_
            refine g_callS_M hx [_, _, _] (k' := 7) (n' := 45) dL_audits_104 (nx := 107) rfl lk_L_114 rfl (Nat.le_of_ble_eq_true rfl) (Nat.le_of_ble_eq_true rfl) (Nat.le_of_ble_eq_true rfl) (Nat.le_of_ble_eq_true rfl) (Nat.le_of_ble_eq_true rfl) (Nat.le_of_ble_eq_true rfl) (Nat.le_of_ble_eq_true rfl) (s_L_falls (n := n) (nc := nc) (t9 := sv I) hst hC h11 h13 hc1 (fun i hi => (hG i hi).1) hH (fun i hi => by
                obtain ⟨⟨_, st9, _, _, _, ⟨_, y1, _, _, _⟩, _, _, _, _, y8, _, _⟩, -, -⟩ := hG i hi
                have := sv_of y8 y1
                exact ⟨by omega, Nat.le_refl _⟩) (fun I2 q1 q2 => ?_))
            rw [cF_same]
            refine g_if_neN hx dL_audits_107 (tg := 114) (by decide) (nx := 110) rfl (by omega) (fun c107 => ?_) (fun c107 => ?_)
            · exact absurd c107 (by decide)
            · refine g_iconst hx dL_audits_110 (nx := 111) rfl (v := nI 1) (by decide) ?_
              refine g_goto hx dL_audits_111 (tg := 115) (by decide) ?_
              refine g_iret hx dL_audits_115 rfl (by first | rfl | decide) (Nat.le_of_ble_eq_true rfl) (Nat.le_of_ble_eq_true rfl) ?_
              refine hk I2 L (fun a k k1 k2 k3 k4 k5 => q1 a k k4) ?_ ?_
              · intro i hi
                obtain ⟨w1, w2, w3⟩ := hG i hi
                refine ⟨w1.x (fun k => q1 _ _ (by omega)), w2, fun z j hj hb => ?_⟩
                rw [q1 _ _ (by omega)] at z ⊢
                exact w3 z j hj hb
              · intro i hi
                rw [show sv I2 i = sv I i from by unfold sv; rw [q1 _ _ (by omega)]]
                exact q2 i hi
        · exact absurd c51 (by decide)
      · exact absurd ((st_ne ha8 b1a).mp e9) (by omega)
    · refine g_iconst hx dL_audits_30 (nx := 31) rfl (v := nI 1) (by decide) ?_
      refine g_goto hx dL_audits_31 (tg := 35) (by decide) ?_
      refine g_istore_5 hx dL_audits_35 (nx := 37) rfl (by decide) rfl ?_
      refine g_aloadG_n hx dL_audits_37 rfl (nx := 38) rfl rfl ?_
      refine g_bipush hx dL_audits_38 (nx := 40) rfl (v := nI 6) (by decide) ?_
      refine g_iloadG hx dL_audits_40 (nx := 42) rfl rfl ?_
      refine g_iconst hx dL_audits_42 (nx := 43) rfl (v := nI 0) (by decide) ?_
      refine g_iconst hx dL_audits_43 (nx := 44) rfl (v := nI 0) (by decide) ?_
      refine g_callW hx [_, _, _, _, _] (k' := 7) (n' := 45) dL_audits_44 (nx := 47) rfl lk_L_95 rfl (Nat.le_of_ble_eq_true rfl) (Nat.le_of_ble_eq_true rfl) (Nat.le_of_ble_eq_true rfl) (Nat.le_of_ble_eq_true rfl) (Nat.le_of_ble_eq_true rfl) (Nat.le_of_ble_eq_true rfl) (Nat.le_of_ble_eq_true rfl) (s_asks_withdraw hst hC ha9 (fun e9 => ?_) (fun e9 I1 e8 f2 => ?_))
      · exact absurd e9 ((st_ne ha8 b1a).mpr (by omega))
      · have f1 : eqF nc I1 I := fun a k _ _ _ _ h => e8 a k h
        have hF := fell hc40 hG f1 f2
        obtain ⟨g1, g2, g3⟩ := hF
        rw [g3, nI_l (by have := cF_le (sv I) (sv I1) nc; omega)]
        refine g_lstore_6 hx dL_audits_47 (nx := 49) rfl (by decide) rfl ?_
        refine g_iloadG hx dL_audits_49 (nx := 51) rfl rfl ?_
        refine g_if_eqN hx dL_audits_51 (tg := 92) (by decide) (nx := 54) rfl (by omega) (fun c51 => ?_) (fun c51 => ?_)
        · exact absurd c51 (by decide)
        · have h131 : ∀ k, I1 13 k = I 13 k := fun k => e8 _ _ (by omega)
          have hC1 : lyC S Rf I1 n nc := hC.I (f1 _ _ (by decide) (by decide) (by decide) (by decide) (by omega)) (f1 _ _ (by decide) (by decide) (by decide) (by decide) (by omega))
          have hc11 : I1 11 1 = nI nc := (f1 _ _ (by decide) (by decide) (by decide) (by decide) (by omega)).trans hc1
          have hH1 : gH I1 nc (sv I) := fun i hi => by
            have w := hH i hi
            unfold clH at w ⊢
            rw [h131, f1 (100 + i) 0 (by omega) (by omega) (by omega) (by omega) (by omega), f1 (100 + i) 1 (by omega) (by omega) (by omega) (by omega) (by omega), f1 (100 + i) 2 (by omega) (by omega) (by omega) (by omega) (by omega)]
            exact w
          have hcl := cF_le (sv I) (sv I1) nc
          have hgo : goP (bitL (nI aa)) (fun k => L (100 + k) 7) (gnS (bitL (nI aa)) (fun k => L (100 + k) 7) (fun k => I (100 + k) 8) aa) aa := Or.inl ((bit_and (by omega)).mpr ((bit_bt (k := aa) (j := aa) (by omega)).mpr rfl))
          have hf0 : I1 (100 + aa) 8 = 0 := by rw [f2 aa ha9, if_pos ⟨e9, hgo⟩]
          have hps := cF_pos (t := sv I) (s := sv I1) (j := aa) ⟨by omega, by unfold sv; rw [hf0]; rfl⟩ nc ha9
          refine g_lloadG hx dL_audits_54 (nx := 56) rfl rfl ?_
          refine g_aloadG_n hx dL_audits_56 rfl (nx := 57) rfl rfl ?_
          refine g_aloadG_n hx dL_audits_57 rfl (nx := 58) rfl rfl ?_
          refine g_aloadG_n hx dL_audits_58 rfl (nx := 59) rfl rfl ?_
          refine g_callS_M hx [_, _, _] (k' := 7) (n' := 45) dL_audits_59 (nx := 62) rfl lk_L_114 rfl (Nat.le_of_ble_eq_true rfl) (Nat.le_of_ble_eq_true rfl) (Nat.le_of_ble_eq_true rfl) (Nat.le_of_ble_eq_true rfl) (Nat.le_of_ble_eq_true rfl) (Nat.le_of_ble_eq_true rfl) (Nat.le_of_ble_eq_true rfl) (s_L_falls (n := n) (nc := nc) (t9 := sv I) hst hC1 h11 h13 hc11 (fun i hi => (g2 i hi).1) hH1 (fun i hi => g1 i hi) (fun I2 q1 q2 => ?_))
          refine g_i2lN hx dL_audits_62 (nx := 63) rfl (by omega) ?_
          refine g_lc_ne hx dL_audits_63 (p2 := 64) rfl dL_audits_64 (tg := 88) (by decide) (nx := 67) rfl (fun c63 => ?_) (fun c63 => ?_)
          · exact absurd rfl c63
          · refine g_lloadG hx dL_audits_67 (nx := 69) rfl rfl ?_
            refine g_lconst hx dL_audits_69 (nx := 70) rfl (v := lN 0) (by decide) ?_
            refine g_lc_le hx dL_audits_70 (p2 := 71) rfl dL_audits_71 (tg := 88) (by decide) (nx := 74) rfl (fun c70 => ?_) (fun c70 => ?_)
            · exact absurd ((lN_le (by omega) (by decide)).mp c70) (by omega)
            · refine g_aloadG_n hx dL_audits_74 rfl (nx := 75) rfl rfl ?_
              refine g_iloadG hx dL_audits_75 (nx := 77) rfl rfl ?_
              refine g_iconst hx dL_audits_77 (nx := 78) rfl (v := nI 4) (by decide) ?_
              refine g_callV_M hx [_, _] (k' := 7) (n' := 45) dL_audits_78 (nx := 81) rfl lk_L_36 (hX.1 0 _ rfl) (by decide) rfl rfl (Nat.le_of_ble_eq_true rfl) (Nat.le_of_ble_eq_true rfl) (Nat.le_of_ble_eq_true rfl) (Nat.le_of_ble_eq_true rfl) (Nat.le_of_ble_eq_true rfl) (Nat.le_of_ble_eq_true rfl) (Nat.le_of_ble_eq_true rfl) (s_X3_ofClaim4 hst (hC1.I (q1 _ _ (by decide)) (q1 _ _ (by decide))) ha9 ?_)
              rw [st4 (st := 0) ((q1 _ _ (by omega)).trans hf0) (by decide)]
              refine g_if_neN hx dL_audits_81 (tg := 88) (by decide) (nx := 84) rfl (by omega) (fun c81 => ?_) (fun c81 => ?_)
              · exact absurd c81 (by decide)
              · refine g_iconst hx dL_audits_84 (nx := 85) rfl (v := nI 1) (by decide) ?_
                refine g_goto hx dL_audits_85 (tg := 115) (by decide) ?_
                refine g_iret hx dL_audits_115 rfl (by first | rfl | decide) (Nat.le_of_ble_eq_true rfl) (Nat.le_of_ble_eq_true rfl) ?_
                have hG2 : gC I2 L n nc := fun i hi => by
                  obtain ⟨w1, w2, w3⟩ := g2 i hi
                  refine ⟨w1.x (fun k => q1 _ _ (by omega)), w2, fun z j hj hb => ?_⟩
                  rw [q1 _ _ (by omega)] at z ⊢
                  exact w3 z j hj hb
                have hH2 : gH I2 nc (sv I2) := fun i hi => by
                  rw [show sv I2 i = sv I1 i from by unfold sv; rw [q1 _ _ (by omega)]]
                  exact q2 i hi
                exact hk I2 L (fun a k k1 k2 k3 k4 k5 => (q1 a k k4).trans (f1 a k k1 k2 k3 k4 k5)) hG2 hH2

