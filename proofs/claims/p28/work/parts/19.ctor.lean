/-! the class: constructors, star -/
abbrev rmX1_init : Room := { frames := 1, cells := 2, slots := 512, locals := 24 }
set_option maxHeartbeats 4000000 in
set_option maxRecDepth 100000 in
theorem s_X1_init {l : Launch} {E : aE} {S : aS} {I : aI} {L : aL} {Rf : aR} {Kr : aK} {Kx : aX} (hst : l.stackTraces = false) (h7 : S 7 = some (.inr 1)) (h8 : S 8 = none) (h9 : S 9 = none) (hk : ∀ S' I' L' R', (∀ a, a ≠ 8 → a ≠ 9 → S' a = S a) → S' 8 = some (.inl (.int, 256)) → S' 9 = some (.inl (.long, 256)) → (∀ a k, a ≠ 8 → a ≠ 9 → I' a k = I a k ∧ L' a k = L a k) → R' 7 0 = some 8 → R' 7 1 = some 9 → (∀ a k, a ≠ 7 → a ≠ 8 → a ≠ 9 → R' a k = Rf a k) → Kr none S' I' L' R') : aMet l E yX1_init cX1_init 1 none rmX1_init [.ref 7] (S) (I) (L) (Rf) Kr Kx := by
  refine aMet.of (lv0 := [.ref 7]) (z := 0) (by decide +kernel) hst rfl (Nat.le_of_ble_eq_true rfl) ?_
  intro p e s m args below meth c io0 hx hin hno
  have hx : aCx p l s m args meth c RX1 cX1_init 1 none E := hx
  refine g_aloadG_n hx dX1_init_0 rfl (nx := 1) rfl rfl ?_
  refine g_objInit hx dX1_init_1 (nx := 4) rfl oi_X1 oi_i oi_c (Nat.le_of_ble_eq_true rfl) (Nat.le_of_ble_eq_true rfl) ?_
  refine g_aloadG_n hx dX1_init_4 rfl (nx := 5) rfl rfl ?_
  refine g_sipush hx dX1_init_5 (nx := 8) rfl (v := 256) (by decide) ?_
  refine g_newarrayint hx dX1_init_8 (nx := 10) rfl ac_i (by decide) (N := 256) (by decide) (by decide) (q := 8) h8 (by decide) (k' := 1) rfl (n' := 256) rfl (Nat.le_of_ble_eq_true rfl) (Nat.le_of_ble_eq_true rfl) ?_
  refine g_putff_r hx dX1_init_10 (nx := 13) rfl fa_X1_9 rfl (fun r h => by cases h; exact ⟨rfl, rfl⟩) hin (by simp [au1, h7]) (by decide) ?_
  refine g_aloadG_n hx dX1_init_13 rfl (nx := 14) rfl rfl ?_
  refine g_sipush hx dX1_init_14 (nx := 17) rfl (v := 256) (by decide) ?_
  refine g_newarraylong hx dX1_init_17 (nx := 19) rfl ac_l (by decide) (N := 256) (by decide) (by decide) (q := 9) (by simp [au1, h9]) (by decide) (k' := 2) rfl (n' := 512) rfl (Nat.le_of_ble_eq_true rfl) (Nat.le_of_ble_eq_true rfl) ?_
  refine g_putff_r hx dX1_init_19 (nx := 22) rfl fa_X1_15 rfl (fun r h => by cases h; exact ⟨rfl, rfl⟩) hin (by simp [au1, h7]) (by decide) ?_
  refine g_vret hx dX1_init_22 rfl (Nat.le_of_ble_eq_true rfl) (Nat.le_of_ble_eq_true rfl) ?_
  refine hk _ _ _ _ (fun a h1 h2 => ?_) ?_ ?_ (fun a k h1 h2 => ⟨?_, ?_⟩) ?_ ?_ (fun a k h1 h2 h3 => ?_)
  · simp [au1, h1, h2]
  · simp [au1]
  · simp [au1]
  · simp [azr, h1, h2]
  · simp [azr, h1, h2]
  · simp [au2, azr]
  · simp [au2, azr]
  · simp [au2, azr, h1, h2, h3]

abbrev rmX3_init : Room := { frames := 2, cells := 13, slots := 1123, locals := 44 }
set_option maxHeartbeats 4000000 in
set_option maxRecDepth 100000 in
theorem s_X3_init {l : Launch} {E : aE} {S : aS} {I : aI} {L : aL} {Rf : aR} {Kr : aK} {Kx : aX} (hst : l.stackTraces = false) (h2 : S 2 = some (.inl (.float, 64))) (h3 : S 3 = some (.inr 3)) (hz : ∀ k, I 3 k = 0) (hn : ∀ a, 4 ≤ a → a ≤ 9 → S a = none) (hn2 : ∀ j, j ≤ 6 → S (200 + j) = none) (hn3 : ∀ a, 207 ≤ a → S a = none) (hn4 : ∀ k, k < 100 → S (100 + k) = none) (hk : ∀ S' I' L' R', lyC S' R' I' 0 0 → (∀ a, (a < 4 ∨ 9 < a) → (a < 200 ∨ 206 < a) → S' a = S a) → (∀ a k, (a < 3 ∨ 9 < a) → (a < 200 ∨ 206 < a) → I' a k = I a k ∧ L' a k = L a k ∧ R' a k = Rf a k) → I' 3 4 = 1000 → (∀ j, j < 4 → I' 5 j = 0) → I' 200 3 = 0 → I' 200 13 = 0 → (∀ t, t < 256 → I' 204 t = -1) → (∀ t, I' 205 t = 0) → Kr none S' I' L' R') : aMet l E yX3_init cX3_init 1 none rmX3_init [.ref 3] (S) (I) (L) (Rf) Kr Kx := by
  refine aMet.of (lv0 := [.ref 3]) (z := 0) (by decide +kernel) hst rfl (Nat.le_of_ble_eq_true rfl) ?_
  intro p e s m args below meth c io0 hx hin hno
  have hx : aCx p l s m args meth c RX3 cX3_init 1 none E := hx
  refine g_aloadG_n hx dX3_init_0 rfl (nx := 1) rfl rfl ?_
  refine g_objInit hx dX3_init_1 (nx := 4) rfl oi_X3 oi_i oi_c (Nat.le_of_ble_eq_true rfl) (Nat.le_of_ble_eq_true rfl) ?_
  refine g_aloadG_n hx dX3_init_4 rfl (nx := 5) rfl rfl ?_
  refine g_bipush hx dX3_init_5 (nx := 7) rfl (v := 6) (by decide) ?_
  refine g_anewarrayStar hx dX3_init_7 (nx := 10) rfl an_X3_9 (by decide) (N := 6) (by decide) (by decide) (q := 4) (hn 4 (by decide) (by decide)) (by decide) (k' := 1) rfl (n' := 6) rfl (Nat.le_of_ble_eq_true rfl) (Nat.le_of_ble_eq_true rfl) ?_
  refine g_putff_r hx dX3_init_10 (nx := 13) rfl fa_X3_11 rfl (fun r h => by cases h; exact ⟨rfl, rfl⟩) hin (by simp [au1, h3]) (by decide) ?_
  refine g_aloadG_n hx dX3_init_13 rfl (nx := 14) rfl rfl ?_
  refine g_new hx dX3_init_14 (nx := 17) rfl (ci := 2) rfl nw_X3_9.1 nw_X3_9.2.1 nw_X3_9.2.2.1 nw_X3_9.2.2.2 (q := 200) (by simp [au1]; exact hn2 0 (by decide)) (by decide) (k' := 2) rfl (n' := 20) rfl (Nat.le_of_ble_eq_true rfl) (Nat.le_of_ble_eq_true rfl) ?_
  refine g_dup hx dX3_init_17 (nx := 18) rfl rfl ?_
  refine g_callNI_M hx [] (k' := 8) (n' := 562) dX3_init_18 (nx := 21) rfl lk_X3_15 rfl (Nat.le_of_ble_eq_true rfl) (Nat.le_of_ble_eq_true rfl) (Nat.le_of_ble_eq_true rfl) (Nat.le_of_ble_eq_true rfl) (Nat.le_of_ble_eq_true rfl) (Nat.le_of_ble_eq_true rfl) (Nat.le_of_ble_eq_true rfl) (s_X2_init hst (b := 200) (by decide) (by simp [au1]) (fun j h1 h2 => by rw [au1_n (by omega), au1_n (by omega)]; exact hn2 j h2) (fun S2 I2 L2 R2 hS2 hlS hI2 hb2 hc2 hd2 => ?_))
  have h3b : S2 3 = some (.inr 3) := by rw [hS2 3 (by omega)]; simp [au1, h3]
  have h4b : S2 4 = some (.inl (.object "AsteroTone$Star", 6)) := by rw [hS2 4 (by omega)]; simp [au1]
  have hnb : ∀ a, 5 ≤ a → a ≤ 9 → S2 a = none := fun a h1 h2 => by rw [hS2 a (by omega)]; simp [au1, show a ≠ 4 by omega, show a ≠ 200 by omega]; exact hn a (by omega) h2
  refine g_putfo_r hx dX3_init_21 (nx := 24) rfl fa_X3_16 rfl (fun r h => by cases h; rfl) (by simp [au1, h3b]) (by decide) ?_
  refine g_aloadG_n hx dX3_init_24 rfl (nx := 25) rfl rfl ?_
  refine g_iconst hx dX3_init_25 (nx := 26) rfl (v := 4) (by decide) ?_
  refine g_newarrayboolean hx dX3_init_26 (nx := 28) rfl ac_z (by decide) (N := 4) (by decide) (by decide) (q := 5) (hnb 5 (by decide) (by decide)) (by decide) (k' := 9) rfl (n' := 566) rfl (Nat.le_of_ble_eq_true rfl) (Nat.le_of_ble_eq_true rfl) ?_
  refine g_putff_r hx dX3_init_28 (nx := 31) rfl fa_X3_20 rfl (fun r h => by cases h; exact ⟨rfl, rfl⟩) hin (by simp [au1, h3b]) (by decide) ?_
  refine g_aloadG_n hx dX3_init_31 rfl (nx := 32) rfl rfl ?_
  refine g_sipush hx dX3_init_32 (nx := 35) rfl (v := 1000) (by decide) ?_
  refine g_putfo_i hx dX3_init_35 (nx := 38) rfl fa_X3_24 rfl rfl rfl (fun r h => by cases h; rfl) (by simp [au1, h3b]) (by decide) ?_
  refine g_aloadG_n hx dX3_init_38 rfl (nx := 39) rfl rfl ?_
  refine g_bipush hx dX3_init_39 (nx := 41) rfl (v := 40) (by decide) ?_
  refine g_anewarrayClaim hx dX3_init_41 (nx := 44) rfl an_X3_28 (by decide) (N := 40) (by decide) (by decide) (q := 6) (by simp [au1]; exact hnb 6 (by decide) (by decide)) (by decide) (k' := 10) rfl (n' := 606) rfl (Nat.le_of_ble_eq_true rfl) (Nat.le_of_ble_eq_true rfl) ?_
  refine g_putff_r hx dX3_init_44 (nx := 47) rfl fa_X3_30 rfl (fun r h => by cases h; exact ⟨rfl, rfl⟩) hin (by simp [au1, h3b]) (by decide) ?_
  refine g_aloadG_n hx dX3_init_47 rfl (nx := 48) rfl rfl ?_
  refine g_new hx dX3_init_48 (nx := 51) rfl (ci := 1) rfl nw_X3_34.1 nw_X3_34.2.1 nw_X3_34.2.2.1 nw_X3_34.2.2.2 (q := 7) (by simp [au1]; exact hnb 7 (by decide) (by decide)) (by decide) (k' := 11) rfl (n' := 611) rfl (Nat.le_of_ble_eq_true rfl) (Nat.le_of_ble_eq_true rfl) ?_
  refine g_dup hx dX3_init_51 (nx := 52) rfl rfl ?_
  refine g_callNI_M hx [] (k' := 13) (n' := 1123) dX3_init_52 (nx := 55) rfl lk_X3_36 rfl (Nat.le_of_ble_eq_true rfl) (Nat.le_of_ble_eq_true rfl) (Nat.le_of_ble_eq_true rfl) (Nat.le_of_ble_eq_true rfl) (Nat.le_of_ble_eq_true rfl) (Nat.le_of_ble_eq_true rfl) (Nat.le_of_ble_eq_true rfl) (s_X1_init hst (by simp [au1]) (by simp [au1]; exact hnb 8 (by decide) (by decide)) (by simp [au1]; exact hnb 9 (by decide) (by decide)) (fun S3 I3 L3 R3 hS3 h83 h93 hI3 hr0 hr1 hR3 => ?_))
  have h3c : S3 3 = some (.inr 3) := by rw [hS3 3 (by decide) (by decide)]; simp [au1, h3b]
  refine g_putff_r hx dX3_init_55 (nx := 58) rfl fa_X3_37 rfl (fun r h => by cases h; exact ⟨rfl, rfl⟩) hin (by simp [au1, h3c]) (by decide) ?_
  refine g_vret hx dX3_init_58 rfl (Nat.le_of_ble_eq_true rfl) (Nat.le_of_ble_eq_true rfl) ?_
  refine hk _ _ _ _ ?_ (fun a h1 h2 => ?_) (fun a k h1 h2 => ?_) ?_ (fun j hj => ?_) ?_ ?_ ?_ ?_
  · refine ⟨⟨fun j x hj => ?_, ?_, ?_, ?_, ?_, ?_, ?_, ?_⟩, by decide, by decide, ?_, ?_, ?_, fun k hk => ?_, fun k hk => absurd hk (Nat.not_lt_zero _), fun k hk => absurd hk (Nat.not_lt_zero _), fun a ha => ?_, fun k h1 h2 => ?_⟩
    · match j, hj with
      | 0, hj => cases hj; exact h3c
      | 1, hj => cases hj; rw [hS3 _ (by decide) (by decide)]; simp [au1, h4b]
      | 2, hj => cases hj; rw [hS3 _ (by decide) (by decide)]; simp [au1]
      | 3, hj => cases hj; rw [hS3 _ (by decide) (by decide)]; simp [au1]
      | 4, hj => cases hj; rw [hS3 _ (by decide) (by decide)]; simp [au1]
      | 5, hj => cases hj; exact h83
      | 6, hj => cases hj; exact h93
      | n + 7, hj => cases hj
    · rw [au2_n (by omega), hR3 _ _ (by decide) (by decide) (by decide)]; simp [au2, azr]; rw [(hI2 3 0 (by omega)).2.2]; simp [au2, azr]
    · rw [au2_n (by omega), hR3 _ _ (by decide) (by decide) (by decide)]; simp [au2, azr]
    · rw [au2_n (by omega), hR3 _ _ (by decide) (by decide) (by decide)]; simp [au2, azr]
    · simp [au2]
    · rw [au2_n (by omega)]; exact hr0
    · rw [au2_n (by omega)]; exact hr1
    · rw [hS3 2 (by decide) (by decide)]; simp [au1]; rw [hS2 2 (by omega)]; simp [au1, h2]
    · rw [(hI3 3 1 (by decide) (by decide)).1]; simp [au2, azr]; rw [(hI2 3 1 (by omega)).1]; simp [azr]; exact hz 1
    · rw [(hI3 3 6 (by decide) (by decide)).1]; simp [au2, azr]; rw [(hI2 3 6 (by omega)).1]; simp [azr]; exact hz 6
    · rw [au2_n (by omega), hR3 _ _ (by decide) (by decide) (by decide)]; simp [au2, azr]
    · have e : k = 0 := by omega
      subst e
      refine ⟨fun j x hj => ?_, fun q j hj => ?_, by decide⟩
      · have hj7 : j ≤ 6 := Nat.not_lt.mp fun z => by
          match j, z, hj with
          | j + 7, _, hj => cases hj
        rw [hS3 _ (by omega) (by omega)]; simp [au1, show 200 + j ≠ 7 by omega, show 200 + j ≠ 6 by omega, show 200 + j ≠ 5 by omega]; exact hlS.1 j x hj
      · rw [au2_n (by omega), hR3 _ _ (by omega) (by omega) (by omega)]; simp [au2, azr]; exact hlS.2.1 q j hj
    · rw [hS3 _ (by omega) (by omega)]; simp [au1, show a ≠ 7 by omega, show a ≠ 6 by omega, show a ≠ 5 by omega]; rw [hS2 a (by omega)]; simp [au1, show a ≠ 4 by omega, show a ≠ 200 by omega]; exact hn3 a (by omega)
    · rw [hS3 _ (by omega) (by omega)]; simp [au1, show 100 + k ≠ 7 by omega, show 100 + k ≠ 6 by omega, show 100 + k ≠ 5 by omega]; rw [hS2 _ (by omega)]; simp [au1, show 100 + k ≠ 4 by omega, show 100 + k ≠ 200 by omega]; exact hn4 k h2
  · rw [hS3 _ (by omega) (by omega)]; simp [au1, show a ≠ 7 by omega, show a ≠ 6 by omega, show a ≠ 5 by omega]; rw [hS2 _ (by omega)]; simp [au1, show a ≠ 4 by omega, show a ≠ 200 by omega]
  · rw [(hI3 a k (by omega) (by omega)).1, (hI3 a k (by omega) (by omega)).2, au2_n (by omega), hR3 _ _ (by omega) (by omega) (by omega)]
    simp [au2, azr, show a ≠ 7 by omega, show a ≠ 6 by omega, show a ≠ 5 by omega, show a ≠ 3 by omega]
    rw [(hI2 a k (by omega)).1, (hI2 a k (by omega)).2.1, (hI2 a k (by omega)).2.2]
    simp [au2, azr, show a ≠ 4 by omega, show a ≠ 200 by omega, show a ≠ 3 by omega]
  · rw [(hI3 3 4 (by decide) (by decide)).1]; simp [au2, azr]
  · rw [(hI3 5 j (by decide) (by decide)).1]; simp [au2, azr]
  · rw [(hI3 200 3 (by decide) (by decide)).1]; simp [au2, azr]; rw [hb2]; simp [azr]
  · rw [(hI3 200 13 (by decide) (by decide)).1]; simp [au2, azr]; rw [hb2]; simp [azr]
  · intro t ht; rw [(hI3 204 t (by decide) (by decide)).1]; simp [au2, azr]; exact hc2 t ht
  · intro t; rw [(hI3 205 t (by decide) (by decide)).1]; simp [au2, azr]; exact hd2 t

abbrev rmX3_star : Room := { frames := 6, cells := 9, slots := 568, locals := 90 }
set_option maxHeartbeats 4000000 in
set_option maxRecDepth 100000 in
theorem s_X3_star {l : Launch} {E : aE} {S : aS} {I : aI} {L : aL} {Rf : aR} {Kr : aK} {Kx : aX} (hst : l.stackTraces = false) {n nc sh : Nat} {x : Int32} (hC : lyC S Rf I n nc) (hsh : I (200 + 8 * n) 3 = nI sh) (h8 : sh ≤ 8) (hsp : ∀ i, i < sh → ¬ I (200 + 8 * n + 2) i ≤ 0) (hcr : 0 < sh → ¬ crS (fun i => I (200 + 8 * n + 1) i) (fun i => I (200 + 8 * n + 2) i) sh ≤ 0) (hwt : 0 < sh → ¬ wtS (fun i => I (200 + 8 * n + 1) i) sh ≤ 0) (hx1 : ¬ rgN x 0 99 → Kx eIA S I L Rf) (hx2 : rgN x 0 99 → (sh = 0 ∨ n = 6) → Kx eIS S I L Rf) (hk : ∀ x1 : Nat, x1 < 100 → x = nI x1 → n < 6 → 0 < sh → ∀ S' I' L' R', lyC S' R' I' (n + 1) nc → (I' (200 + 8 * n) 4 = nI x1 ∧ I' (200 + 8 * n) 5 = crS (fun i => I (200 + 8 * n + 1) i) (fun i => I (200 + 8 * n + 2) i) sh ∧ I' (200 + 8 * n) 6 = 10000000 / crS (fun i => I (200 + 8 * n + 1) i) (fun i => I (200 + 8 * n + 2) i) sh ∧ I' (200 + 8 * n) 7 = slS (fun i => I (200 + 8 * n + 2) i) sh ∧ I' (200 + 8 * n) 8 = spS (fun i => I (200 + 8 * n + 1) i) (fun i => I (200 + 8 * n + 3) i) sh / wtS (fun i => I (200 + 8 * n + 1) i) sh ∧ I' (200 + 8 * n) 9 = 3 * (10000000 / crS (fun i => I (200 + 8 * n + 1) i) (fun i => I (200 + 8 * n + 2) i) sh) + 100 * I (200 + 8 * n + 2) 0) → (∀ a k, ¬ (a = 200 + 8 * n ∧ 4 ≤ k ∧ k ≤ 9) → ¬ (a = 3 ∧ k = 1) → (a < 200 + 8 * (n + 1) ∨ 200 + 8 * (n + 1) + 6 < a) → I' a k = I a k) → (∀ a k, (a < 200 + 8 * (n + 1) ∨ 200 + 8 * (n + 1) + 6 < a) → L' a k = L a k) → I' (200 + 8 * (n + 1)) 3 = 0 → I' (200 + 8 * (n + 1)) 13 = 0 → (∀ t, t < 256 → I' (200 + 8 * (n + 1) + 4) t = -1) → (∀ t, I' (200 + 8 * (n + 1) + 5) t = 0) → (∀ a, (a < 200 + 8 * (n + 1) ∨ 200 + 8 * (n + 1) + 6 < a) → S' a = S a) → (∀ a k, (a < 200 + 8 * (n + 1) ∨ 200 + 8 * (n + 1) + 6 < a) → ¬ (a = 3 ∧ k = 2) → ¬ (a = 4 ∧ k = n) → True → R' a k = Rf a k) → Kr (some (.int (nI n))) S' I' L' R') : aMet l E yX3_star cX3_star 2 (some .int) rmX3_star [.ref 3, .int x] (S) (I) (L) (Rf) Kr Kx := by
  refine aMet.of (lv0 := [.ref 3, .int x]) (z := 0) (by decide +kernel) hst rfl (Nat.le_of_ble_eq_true rfl) ?_
  intro p e s m args below meth c io0 hx hin hno
  have hx : aCx p l s m args meth c RX3 cX3_star 2 (some .int) E := hx
  obtain ⟨b, hbe⟩ : ∃ b, b = 200 + 8 * n := ⟨_, rfl⟩
  have hB : lyS S Rf b := by rw [hbe]; exact hC.star (Nat.le_refl n)
  have hb := hB.2.2
  have hbu : Rf 3 2 = some b := by rw [hbe]; exact hC.2.2.2.2.2.1
  have hX := hC.1
  rw [← hbe] at hsh
  have hn6 := hC.2.1
  obtain ⟨d, hde⟩ : ∃ d, d = 200 + 8 * (n + 1) := ⟨_, rfl⟩
  refine g_iloadG_n hx dX3_star_0 rfl (nx := 1) rfl rfl ?_
  refine g_iconst hx dX3_star_1 (nx := 2) rfl (v := 0) (by decide) ?_
  refine g_bipush hx dX3_star_2 (nx := 4) rfl (v := 99) (by decide) ?_
  refine g_callS_X hx [_, _, _] (k' := 0) (n' := 0) dX3_star_4 (nx := 7) rfl lk_X3_41 rfl (Nat.le_of_ble_eq_true rfl) (Nat.le_of_ble_eq_true rfl) (Nat.le_of_ble_eq_true rfl) (Nat.le_of_ble_eq_true rfl) (Nat.le_of_ble_eq_true rfl) (Nat.le_of_ble_eq_true rfl) (Nat.le_of_ble_eq_true rfl) hno (Nat.le_of_ble_eq_true rfl) (Nat.le_of_ble_eq_true rfl) (s_X3_isOutside hst ?_)
  refine g_if_eq hx dX3_star_7 (tg := 20) (by decide) (nx := 10) rfl (fun c7 => ?_) (fun c7 => ?_)
  · refine g_aloadG_n hx dX3_star_20 rfl (nx := 21) rfl rfl ?_
    refine g_getfo_R hx dX3_star_21 (nx := 24) rfl fa_X3_16 rfl (r9 := b) hbu (hX.1 0 _ rfl) (by decide) ?_
    refine g_getfn_i hx dX3_star_24 (nx := 27) rfl fa_X3_52 rfl (lyS.ob hB) (by omega) ?_
    refine g_if_eq hx dX3_star_27 (tg := 39) (by decide) (nx := 30) rfl (fun c27 => ?_) (fun c27 => ?_)
    · refine g_throw hx th_X3_55_69_59 dX3_star_39 dX3_star_42 dX3_star_43 dX3_star_45 dX3_star_48 hno (Nat.le_of_ble_eq_true rfl) (Nat.le_of_ble_eq_true rfl) (Nat.le_of_ble_eq_true rfl) (Nat.le_of_ble_eq_true rfl) (Nat.le_of_ble_eq_true rfl) (Nat.le_of_ble_eq_true rfl) ?_
      first
        | exact hx2 ((iout_z (x := x) (lo := 0) (hi := 99) (by decide) (by decide)).mp c7) (Or.inl (by
            rw [hsh] at c27
            exact (nI_eq (b := 0) (by omega) (by decide)).mp c27))
        | exact hx2 ((iout_z (x := x) (lo := 0) (hi := 99) (by decide) (by decide)).mp c7) (Or.inr (Nat.le_antisymm hn6 (Nat.not_lt.mp (fun q => c36 (by rw [hC.i1]; exact nI_lt (b := 6) q (by decide))))))
    · refine g_aloadG_n hx dX3_star_30 rfl (nx := 31) rfl rfl ?_
      refine g_getfo_i hx dX3_star_31 (nx := 34) rfl fa_X3_66 rfl (hX.1 0 _ rfl) (by decide) ?_
      refine g_bipush hx dX3_star_34 (nx := 36) rfl (v := 6) (by decide) ?_
      refine g_icmp_lt hx dX3_star_36 (tg := 49) (by decide) (nx := 39) rfl (fun c36 => ?_) (fun c36 => ?_)
      · have hsh0 : 0 < sh := Nat.pos_of_ne_zero (fun z => c27 (by rw [hsh, z]; rfl))
        have hlt : n < 6 := by
          rw [hC.i1] at c36
          exact (nI_ltI (by omega) (by decide : 6 < 2 ^ 31)).mp c36
        refine g_aloadG_n hx dX3_star_49 rfl (nx := 50) rfl rfl ?_
        refine g_getfo_R hx dX3_star_50 (nx := 53) rfl fa_X3_16 rfl (r9 := b) hbu (hX.1 0 _ rfl) (by decide) ?_
        refine g_iloadG_n hx dX3_star_53 rfl (nx := 54) rfl rfl ?_
        refine g_callNV_M hx [_] (k' := 0) (n' := 0) dX3_star_54 (nx := 57) rfl lk_X3_71 (lyS.ob hB) (by omega) rfl rfl (Nat.le_of_ble_eq_true rfl) (Nat.le_of_ble_eq_true rfl) (Nat.le_of_ble_eq_true rfl) (Nat.le_of_ble_eq_true rfl) (Nat.le_of_ble_eq_true rfl) (Nat.le_of_ble_eq_true rfl) (Nat.le_of_ble_eq_true rfl) (s_X2_settle (n := sh) hst hB hsh (by omega) h8 (fun i hi => by rw [hbe]; exact hsp i hi) (by rw [hbe]; exact hcr hsh0) (by rw [hbe]; exact hwt hsh0) (fun I2 f0 f4 f5 f6 f7 f8 f9 => ?_))
        have k31 : I2 3 1 = nI n := (f0 _ _ (by omega)).trans hC.i1
        refine g_aloadG_n hx dX3_star_57 rfl (nx := 58) rfl rfl ?_
        refine g_getfo_R hx dX3_star_58 (nx := 61) rfl fa_X3_11 rfl (r9 := 4) hX.2.1 (hX.1 0 _ rfl) (by decide) ?_
        refine g_aloadG_n hx dX3_star_61 rfl (nx := 62) rfl rfl ?_
        refine g_getfo_i hx dX3_star_62 (nx := 65) rfl fa_X3_66 rfl (hX.1 0 _ rfl) (by decide) ?_
        refine g_aloadG_n hx dX3_star_65 rfl (nx := 66) rfl rfl ?_
        refine g_getfo_R hx dX3_star_66 (nx := 69) rfl fa_X3_16 rfl (r9 := b) hbu (hX.1 0 _ rfl) (by decide) ?_
        refine g_aastoreStar hx dX3_star_69 (nx := 70) rfl (hX.1 1 _ rfl) (by decide) (by rw [k31]; exact vp_in_nI hlt (by decide)) (lyS.ob hB) (by omega) ?_
        refine g_aloadG_n hx dX3_star_70 rfl (nx := 71) rfl rfl ?_
        refine g_new hx dX3_star_71 (nx := 74) rfl (ci := 2) rfl nw_X3_9.1 nw_X3_9.2.1 nw_X3_9.2.2.1 nw_X3_9.2.2.2 (q := d) (by rw [hde]; exact hC.2.2.2.2.2.2.2.2.2.1 _ (Nat.le_refl _)) (by omega) (k' := 1) rfl (n' := 14) rfl (Nat.le_of_ble_eq_true rfl) (Nat.le_of_ble_eq_true rfl) ?_
        refine g_dup hx dX3_star_74 (nx := 75) rfl rfl ?_
        refine g_callNI_M hx [] (k' := 7) (n' := 556) dX3_star_75 (nx := 78) rfl lk_X3_15 rfl (Nat.le_of_ble_eq_true rfl) (Nat.le_of_ble_eq_true rfl) (Nat.le_of_ble_eq_true rfl) (Nat.le_of_ble_eq_true rfl) (Nat.le_of_ble_eq_true rfl) (Nat.le_of_ble_eq_true rfl) (Nat.le_of_ble_eq_true rfl) (s_X2_init hst (b := d) (by omega) (au1_s _ _ _) (fun j h1 h2 => by rw [au1_n (by omega), hde]; exact hC.2.2.2.2.2.2.2.2.2.1 _ (by omega)) (fun S3 I3 L3 R3 hS3 hlS hI3 hb3 hc3 hd3 => ?_))
        have h3c : S3 3 = some (.inr 3) := by rw [hS3 3 (by omega), au1_n (by omega)]; exact hX.1 0 _ rfl
        refine g_putfo_r hx dX3_star_78 (nx := 81) rfl fa_X3_16 rfl (fun r h => by cases h; rfl) h3c (by decide) ?_
        refine g_aloadG_n hx dX3_star_81 rfl (nx := 82) rfl rfl ?_
        refine g_dup hx dX3_star_82 (nx := 83) rfl rfl ?_
        refine g_getfo_i hx dX3_star_83 (nx := 86) rfl fa_X3_66 rfl h3c (by decide) ?_
        refine g_iconst hx dX3_star_86 (nx := 87) rfl (v := 1) (by decide) ?_
        refine g_iadd hx dX3_star_87 (nx := 88) rfl ?_
        refine g_putfo_i hx dX3_star_88 (nx := 91) rfl fa_X3_66 rfl rfl rfl (fun r h => by cases h; rfl) h3c (by decide) ?_
        refine g_aloadG_n hx dX3_star_91 rfl (nx := 92) rfl rfl ?_
        refine g_getfo_i hx dX3_star_92 (nx := 95) rfl fa_X3_66 rfl h3c (by decide) ?_
        refine g_iconst hx dX3_star_95 (nx := 96) rfl (v := 1) (by decide) ?_
        refine g_isub hx dX3_star_96 (nx := 97) rfl ?_
        refine g_iret hx dX3_star_97 rfl rfl (Nat.le_of_ble_eq_true rfl) (Nat.le_of_ble_eq_true rfl) ?_
        have k31c : I3 3 1 = nI n := by rw [(hI3 3 1 (by omega)).1, azr_n (by omega)]; exact k31
        have hnn : (nI n).toNatClampNeg = n := nI_clamp (by omega)
        rw [au2_s, k31c, ← nI_succ, nI_pred]
        obtain ⟨x1, hx9, rfl⟩ := rgN_in.mp ((iout_z (x := x) (lo := 0) (hi := 99) (by decide) (by decide)).mp c7)
        refine hk x1 hx9 rfl hlt hsh0 _ _ _ _ ?_ ?_ (fun a k h1 h2 h3 => ?_) (fun a k h1 => ?_) ?_ ?_ (fun t ht => ?_) (fun t => ?_) (fun a h => ?_) (fun a k h1 h2 h3 h4 => ?_)
        · obtain ⟨a1, a2, a3, a4, a5, a6, a7, a8, a9, a10, a11⟩ := hC
          have hSn : ∀ a, a < d → S3 a = S a := fun a h => by rw [hS3 a (by omega), au1_n (by omega)]
          have hRn : ∀ a k, a < d → ¬ (a = 3 ∧ k = 2) → ¬ (a = 4 ∧ k = n) → au2 R3 3 2 (some d) a k = Rf a k := fun a k h h1 h2 => by rw [au2_n h1, (hI3 a k (by omega)).2.2, azr_n (by omega), k31, hnn, au2_n h2]
          refine ⟨⟨fun j x hj => ?_, ?_, ?_, ?_, ?_, ?_, ?_, ?_⟩, hlt, a3, au2_s _ _ _ _, ?_, ?_, fun k hk => ?_, fun k hk => ?_, fun k hk => ⟨?_, ?_⟩, fun a ha => ?_, fun k h1 h2 => ?_⟩
          · have hj7 : j ≤ 6 := Nat.not_lt.mp fun z => by
              match j, z, hj with
              | j + 7, _, hj => cases hj
            rw [hSn _ (by omega)]; exact a1.1 j x hj
          · rw [hRn _ _ (by omega) (by omega) (by omega)]; exact a1.2.1
          · rw [hRn _ _ (by omega) (by omega) (by omega)]; exact a1.2.2.1
          · rw [hRn _ _ (by omega) (by omega) (by omega)]; exact a1.2.2.2.1
          · rw [hRn _ _ (by omega) (by omega) (by omega)]; exact a1.2.2.2.2.1
          · rw [hRn _ _ (by omega) (by omega) (by omega)]; exact a1.2.2.2.2.2.1
          · rw [hRn _ _ (by omega) (by omega) (by omega)]; exact a1.2.2.2.2.2.2.1
          · rw [hSn _ (by omega)]; exact a1.2.2.2.2.2.2.2
          · rw [au2_n (by omega), (hI3 3 6 (by omega)).1, azr_n (by omega), f0 _ _ (by omega)]; exact a5
          · rw [au2_s, hde]
          · by_cases e : k = n + 1
            · rw [e, ← hde]; exact ⟨hlS.1, fun q j hj => by rw [au2_n (by omega)]; exact hlS.2.1 q j hj, hlS.2.2⟩
            · have := a7 k (by omega)
              refine ⟨fun j x hj => ?_, fun q j hj => ?_, this.2.2⟩
              · have hj7 : j ≤ 6 := Nat.not_lt.mp fun z => by
                  match j, z, hj with
                  | j + 7, _, hj => cases hj
                rw [hSn _ (by omega)]; exact this.1 j x hj
              · rw [hRn _ _ (by omega) (by omega) (by omega)]; exact this.2.1 q j hj
          · by_cases e : k = n
            · rw [e, au2_n (by omega), (hI3 4 n (by omega)).2.2, azr_n (by omega), k31, hnn, au2_s, hbe]
            · rw [hRn _ _ (by omega) (by omega) (by omega)]; exact a8 k (by omega)
          · rw [hSn _ (by omega)]; exact (a9 k hk).1
          · rw [hRn _ _ (by omega) (by omega) (by omega)]; exact (a9 k hk).2
          · rw [hS3 a (by omega), au1_n (by omega)]; exact a10 a (by omega)
          · rw [hSn _ (by omega)]; exact a11 k h1 h2
        · have e1 : ∀ k, k ≠ 1 ∨ True → au2 I3 3 1 (nI (n + 1)) b k = I2 b k := fun k _ => by rw [au2_n (by omega), (hI3 b k (by omega)).1, azr_n (by omega)]
          subst hbe
          refine ⟨?_, ?_, ?_, ?_, ?_, ?_⟩
          · rw [e1 _ (Or.inr trivial)]; exact f4
          · rw [e1 _ (Or.inr trivial)]; exact f5
          · rw [e1 _ (Or.inr trivial)]; exact f6
          · rw [e1 _ (Or.inr trivial)]; exact f7
          · rw [e1 _ (Or.inr trivial)]; exact f8
          · rw [e1 _ (Or.inr trivial)]; exact f9
        · rw [au2_n h2, (hI3 a k (by omega)).1, azr_n (by omega)]; exact f0 a k (by omega)
        · rw [(hI3 a k (by omega)).2.1, azr_n (by omega)]
        · rw [← hde, au2_n (by omega), hb3, azr_s]
        · rw [← hde, au2_n (by omega), hb3, azr_s]
        · rw [← hde, au2_n (by omega)]; exact hc3 t ht
        · rw [← hde, au2_n (by omega)]; exact hd3 t
        · rw [hS3 a (by omega), au1_n (by omega)]
        · rw [au2_n h2, (hI3 a k (by omega)).2.2, azr_n (by omega), k31, hnn, au2_n h3]
      · refine g_throw hx th_X3_55_69_59 dX3_star_39 dX3_star_42 dX3_star_43 dX3_star_45 dX3_star_48 hno (Nat.le_of_ble_eq_true rfl) (Nat.le_of_ble_eq_true rfl) (Nat.le_of_ble_eq_true rfl) (Nat.le_of_ble_eq_true rfl) (Nat.le_of_ble_eq_true rfl) (Nat.le_of_ble_eq_true rfl) ?_
        first
          | exact hx2 ((iout_z (x := x) (lo := 0) (hi := 99) (by decide) (by decide)).mp c7) (Or.inl (by
              rw [hsh] at c27
              exact (nI_eq (b := 0) (by omega) (by decide)).mp c27))
          | exact hx2 ((iout_z (x := x) (lo := 0) (hi := 99) (by decide) (by decide)).mp c7) (Or.inr (Nat.le_antisymm hn6 (Nat.not_lt.mp (fun q => c36 (by rw [hC.i1]; exact nI_lt (b := 6) q (by decide))))))
  · refine g_throw hx th_X3_45_64_49 dX3_star_10 dX3_star_13 dX3_star_14 dX3_star_16 dX3_star_19 hno (Nat.le_of_ble_eq_true rfl) (Nat.le_of_ble_eq_true rfl) (Nat.le_of_ble_eq_true rfl) (Nat.le_of_ble_eq_true rfl) (Nat.le_of_ble_eq_true rfl) (Nat.le_of_ble_eq_true rfl) ?_
    exact hx1 (fun q => c7 ((iout_z (x := x) (lo := 0) (hi := 99) (by decide) (by decide)).mpr q))

