/-! the law: isLight -/
theorem msk {mk s : Nat} (hm : mk < 2 ^ 31) (hs : s < 4) : nI mk >>> (nI s &&& 31) &&& nI 1 = nI (mk / 2 ^ s % 2) := by
  have h : ∀ s : Fin 4, ((nI s.val &&& 31).toBitVec.smod 32).toNat = s.val := by decide +kernel
  have hd : mk / 2 ^ s ≤ mk := Nat.div_le_self _ _
  rw [pk_shrN hm (nI s &&& 31) s (h ⟨s, hs⟩), pk_andN (by omega) 1 (by decide)]
theorem fsT_c {q : Nat → Bool} : ∀ n, n ≤ 256 → fsT q n = -1 ∨ ∃ t, t < n ∧ fsT q n = nI t := by
  intro n hn
  have h := fs_ls (q := q) n hn
  by_cases e : tl q n = []
  · exact Or.inl (h.1 e).1
  · obtain ⟨⟨t, -, h2, h3⟩, -⟩ := h.2 e
    exact Or.inr ⟨t, h2, h3⟩
theorem stP_x {I J : aI} {b o : Nat} {x y w : Int32} (h : eqX J I) (hb : 100 ≤ b) : stP J b x o y w ↔ stP I b x o y w := by
  unfold stP
  rw [prs_x h hb, laid_x h hb]
/-- the base of a look at the star 0 -/
def lB (S : aS) (Rf : aR) (I1 : aI) (n nc : Nat) : Prop := lyC S Rf I1 n nc ∧ 0 < n ∧ (∀ t, t < 256 → vp_in (I1 205 t) 4) ∧ I1 200 13 = nI 0
section LB
variable {l : Launch} {E : aE} {S : aS} {I1 J : aI} {L M : aL} {Rf : aR} {Kr : aK} {Kx : aX} {n nc : Nat}
theorem lB.C (hB : lB S Rf I1 n nc) (hJ : eqX J I1) : lyC S Rf J n nc := hB.1.I (hJ _ _ (by decide) (by decide) (by decide)) (hJ _ _ (by decide) (by decide) (by decide))
theorem lB.s (hB : lB S Rf I1 n nc) (hJ : eqX J I1) : ∀ t, t < 256 → vp_in (J (200 + 8 * 0 + 5) t) 4 := fun t ht => by
  have h := hB.2.2.1 t ht
  rw [← hJ _ _ (by decide) (by decide) (by decide)] at h; exact h
theorem lB.o (hB : lB S Rf I1 n nc) (hJ : eqX J I1) : J (200 + 8 * 0) 13 = nI 0 := (hJ _ _ (by decide) (by decide) (by decide)).trans hB.2.2.2
theorem lb_value (hst : l.stackTraces = false) (hB : lB S Rf I1 n nc) (hJ : eqX J I1) (hM : eqX M L) {j t : Nat} (hj : j < 3) (ht : t < 256) (hk : ∀ J' M', eqX J' I1 → eqX M' L → Kr (some (.int (if prs I1 200 t = true then laid I1 200 (nI j) 0 t else 0).toInt32)) S J' M' Rf) : aMet l E yX3_value cX3_value 5 (some .int) rmX3_valuek [.ref 3, .int (nI 0), .int (nI j), .int (nI t)] S J M Rf Kr Kx := by
  refine s_X3_valuek (k := 0) (oo := 0) hst (hB.C hJ) hB.2.1 hj ht (hB.s hJ) (hB.o hJ) (by decide) (fun J' M' e1 e2 => ?_)
  rw [prs_x hJ (by decide), laid_x hJ (by decide)]
  exact hk J' M' (e1.trans hJ) (e2.trans hM)
theorem lb_power (hst : l.stackTraces = false) (hB : lB S Rf I1 n nc) (hJ : eqX J I1) (hM : eqX M L) {j t : Nat} (hj : j < 3) (ht : t < 32) (hk : ∀ J' M', eqX J' I1 → eqX M' L → Kr (some (.long (pw (prs I1 200) (laid I1 200 (nI j) 0) (nI t)))) S J' M' Rf) : aMet l E yX3_power cX3_power 5 (some .long) rmX3_powerk [.ref 3, .int (nI 0), .int (nI j), .int (nI t)] S J M Rf Kr Kx := by
  refine s_X3_powerk (k := 0) (oo := 0) hst (hB.C hJ) hB.2.1 hj ht (hB.s hJ) (hB.o hJ) (by decide) (fun J' M' e1 e2 => ?_)
  have e : laid J (200 + 8 * 0) (nI j) 0 = laid I1 (200 + 8 * 0) (nI j) 0 := funext fun t => by rw [laid_x hJ (by decide)]
  rw [prs_x hJ (by decide), e]
  exact hk J' M' (e1.trans hJ) (e2.trans hM)
theorem lb_window (hst : l.stackTraces = false) (hB : lB S Rf I1 n nc) (hJ : eqX J I1) (hM : eqX M L) {t : Nat} (ht : t < 32) (hk : ∀ J' M', eqX J' I1 → eqX M' L → Kr (some (.long (pw (prs I1 200) (fun _ => 1) (nI t)))) S J' M' Rf) : aMet l E yX3_window cX3_window 4 (some .long) rmX3_windowk [.ref 3, .int (nI 0), .int (nI t)] S J M Rf Kr Kx := by
  refine s_X3_windowk (k := 0) hst (hB.C hJ) hB.2.1 ht (hB.s hJ) (fun J' M' e1 e2 => ?_)
  rw [prs_x hJ (by decide)]
  exact hk J' M' (e1.trans hJ) (e2.trans hM)
theorem lb_frames (hst : l.stackTraces = false) (hB : lB S Rf I1 n nc) (hJ : eqX J I1) (hM : eqX M L)  (hk : ∀ J' M', eqX J' I1 → eqX M' L → Kr (some (.int (nI (aT (prs I1 200)).length))) S J' M' Rf) : aMet l E yX3_frames cX3_frames 2 (some .int) rmX3_framesk [.ref 3, .int (nI 0)] S J M Rf Kr Kx := by
  refine s_X3_framesk (k := 0) hst (hB.C hJ) hB.2.1 (hB.s hJ) (fun J' M' e1 e2 => ?_)
  rw [prs_x hJ (by decide)]
  exact hk J' M' (e1.trans hJ) (e2.trans hM)
theorem lb_seen (hst : l.stackTraces = false) (hB : lB S Rf I1 n nc) (hJ : eqX J I1) (hM : eqX M L) {j t u : Nat} (hj : j < 3) (ht : t < 32) (hu : u < 32) (htu : t ≠ u) (hk1 : stP I1 200 (nI j) 0 (nI t) (nI u) → ∀ J' M', eqX J' I1 → eqX M' L → Kr (some (.int (nI 1))) S J' M' Rf) (hk0 : ¬ stP I1 200 (nI j) 0 (nI t) (nI u) → ∀ J' M', eqX J' I1 → eqX M' L → Kr (some (.int (nI 0))) S J' M' Rf) : aMet l E yX3_isSeenThrough cX3_isSeenThrough 8 (some .boolean) rmX3_isSeenThroughk [.ref 3, .int (nI 0), .int (nI j), .int (nI t), .int (nI u)] S J M Rf Kr Kx := by
  refine s_X3_isSeenThroughk (k := 0) (oo := 0) hst (hB.C hJ) hB.2.1 hj ht hu htu (hB.s hJ) (hB.o hJ) (by decide) (fun r hr J' M' e1 e2 => ?_)
  rcases hr with ⟨h1, h2⟩ | ⟨h1, h2⟩
  · subst h1; exact hk1 ((stP_x hJ (by decide)).mp h2) J' M' (e1.trans hJ) (e2.trans hM)
  · subst h1; exact hk0 (fun z => h2 ((stP_x hJ (by decide)).mpr z)) J' M' (e1.trans hJ) (e2.trans hM)
theorem lb_peak (hst : l.stackTraces = false) (hB : lB S Rf I1 n nc) (hJ : eqX J I1) (hM : eqX M L) {j : Nat} {w : Int32} (hj : j < 3) (hk1 : rgN w 1 30 → pkP I1 200 (nI j) 0 w → ∀ J' M', eqX J' I1 → eqX M' L → Kr (some (.int (nI 1))) S J' M' Rf) (hk0 : ¬ (rgN w 1 30 ∧ pkP I1 200 (nI j) 0 w) → ∀ J' M', eqX J' I1 → eqX M' L → Kr (some (.int (nI 0))) S J' M' Rf) : aMet l E yX3_isPeak cX3_isPeak 5 (some .boolean) rmX3_isPeakk [.ref 3, .int (nI 0), .int (nI j), .int w] S J M Rf Kr Kx := by
  refine s_X3_isPeakk (k := 0) (oo := 0) hst (hB.C hJ) hB.2.1 hj (hB.s hJ) (hB.o hJ) (by decide) (fun r hr J' M' e1 e2 => ?_)
  rcases hr with ⟨h1, h2, h3⟩ | ⟨h1, h2⟩
  · subst h1; exact hk1 h2 ((pkP_x hJ (by decide)).mp h3) J' M' (e1.trans hJ) (e2.trans hM)
  · subst h1; exact hk0 (fun z => h2 ⟨z.1, (pkP_x hJ (by decide)).mpr z.2⟩) J' M' (e1.trans hJ) (e2.trans hM)
end LB
abbrev rmL_isLight : Room := { frames := 8, cells := 0, slots := 0, locals := 166 }
set_option maxHeartbeats 4000000 in
set_option maxRecDepth 100000 in
theorem s_L_isLight {l : Launch} {E : aE} {S : aS} {I : aI} {L : aL} {Rf : aR} {Kr : aK} {Kx : aX} (hst : l.stackTraces = false) {n nc x mk th o0 : Nat} (hC : lyC S Rf I n nc) (hn0 : 0 < n) (h11 : S 11 = some (.inl (.int, 6))) (h12 : S 12 = some (.inl (.int, 64))) (hF : lF I) (hM : mK I mk) (hc3 : I 11 3 = nI mk) (hc2 : I 11 2 = nI th) (hth : I 3 4 = nI th) (hth2 : th ≤ 2000000) (ho0 : I 200 13 = nI o0) (ho6 : o0 ≤ 6) (hx9 : x < 2 ^ 30) (hk : ∀ I' L', (∀ a k, a ≠ 7 → a ≠ 8 → a ≠ 9 → ¬ (a = 200 ∧ k = 13) → I' a k = I a k) → I' 200 13 = 0 → eqX L' L → Kr (some (.int (nI 1))) S I' L' Rf) : aMet l E yL_isLight cL_isLight 20 (some .boolean) rmL_isLight [.ref 3, .int (nI 0), .int (nI x), .ref 11, .ref 12] S I L Rf Kr Kx := by
  refine aMet.of (lv0 := [.ref 3, .int (nI 0), .int (nI x), .ref 11, .ref 12, aU, aU, aU, aU, aU, aU, aU, aU, aU, aU, aU, aU, aU, aU, aU]) (z := 15) (by decide +kernel) hst rfl (Nat.le_of_ble_eq_true rfl) ?_
  intro p e s m args below meth c io0 hx hin hno
  have hx : aCx p l s m args meth c RL cL_isLight 20 (some .boolean) E := hx
  have hX := hC.1
  have hn6 := hC.2.1
  have hc40 := hC.2.2.1
  refine g_iconst hx dL_isLight_0 (nx := 1) rfl (v := nI 0) (by decide) ?_
  refine g_istore_5 hx dL_isLight_1 (nx := 3) rfl (by decide) rfl ?_
  refine g_aloadG_n hx dL_isLight_3 rfl (nx := 4) rfl rfl ?_
  refine g_iloadG_n hx dL_isLight_4 rfl (nx := 5) rfl rfl ?_
  refine g_callV_M hx [_] (k' := 0) (n' := 0) dL_isLight_5 (nx := 8) rfl lk_L_71 (hX.1 0 _ rfl) (by decide) rfl rfl (Nat.le_of_ble_eq_true rfl) (Nat.le_of_ble_eq_true rfl) (Nat.le_of_ble_eq_true rfl) (Nat.le_of_ble_eq_true rfl) (Nat.le_of_ble_eq_true rfl) (Nat.le_of_ble_eq_true rfl) (Nat.le_of_ble_eq_true rfl) (s_X3_putBackk (k := 0) hst hC hn0 ?_)
  rw [show I (200 + 8 * 0) 13 = nI o0 from ho0]
  obtain ⟨I1, hI1⟩ : ∃ I1, I1 = au2 I 200 13 0 := ⟨_, rfl⟩
  rw [show au2 I (200 + 8 * 0) 13 0 = I1 from hI1.symm]
  refine g_istore_6 hx dL_isLight_8 (nx := 10) rfl (by decide) rfl ?_
  refine g_lconst hx dL_isLight_10 (nx := 11) rfl (v := lN 0) (by decide) ?_
  refine g_lstore_7 hx dL_isLight_11 (nx := 13) rfl (by decide) rfl ?_
  refine g_iconst hx dL_isLight_13 (nx := 14) rfl (v := (-1)) (by decide) ?_
  refine g_istore_9 hx dL_isLight_14 (nx := 16) rfl (by decide) rfl ?_
  refine g_iconst hx dL_isLight_16 (nx := 17) rfl (v := (-1)) (by decide) ?_
  refine g_istore_10 hx dL_isLight_17 (nx := 19) rfl (by decide) rfl ?_
  refine g_iloadG hx dL_isLight_19 (nx := 21) rfl rfl ?_
  refine g_if_ltN hx dL_isLight_21 (tg := 28) (by decide) (nx := 24) rfl (by omega) (fun c21 => ?_) (fun c21 => ?_)
  · exact absurd c21 (by omega)
  · refine g_iconst hx dL_isLight_24 (nx := 25) rfl (v := nI 1) (by decide) ?_
    refine g_goto hx dL_isLight_25 (tg := 29) (by decide) ?_
    refine g_istore_11 hx dL_isLight_29 (nx := 31) rfl (by decide) rfl ?_
    refine g_iconst hx dL_isLight_31 (nx := 32) rfl (v := nI 0) (by decide) ?_
    refine g_istore_12 hx dL_isLight_32 (nx := 34) rfl (by decide) rfl ?_
    have hJ1 : ∀ a k, ¬ (a = 200 ∧ k = 13) → I1 a k = I a k := fun a k h => by rw [hI1]; exact au2_n h
    have hF1 : lF I1 := lF_c hF (fun a k h => hJ1 a k (by omega))
    have hM1 : mK I1 mk := ⟨hM.1, fun s hs => by rw [hJ1 _ _ (by omega)]; exact hM.2 s hs⟩
    have hB : lB S Rf I1 n nc := ⟨hC.I (hJ1 _ _ (by omega)) (hJ1 _ _ (by omega)), hn0, fun t ht => by
      rw [hJ1 _ _ (by omega)]
      obtain ⟨s, hs, e⟩ := hF.2.2.2 t ht
      rw [e]; exact vp_in_nI hs (by decide), by rw [hI1]; exact au2_s _ _ _ _⟩
    obtain ⟨len, hlen⟩ : ∃ k, k = (aT (prs I1 200)).length := ⟨_, rfl⟩
    have hl256 := aT_len (prs I1 200)
    have hms := mean_sum hF1
    rw [← hlen] at hl256 hms
    obtain ⟨na, hna⟩ : ∃ k, k = x % 32 := ⟨_, rfl⟩
    obtain ⟨nb, hnb⟩ : ∃ k, k = (na + 1 + x / 32 % 31) % 32 := ⟨_, rfl⟩
    obtain ⟨fl, hfl⟩ : ∃ k, k = x / 1000 % 3 := ⟨_, rfl⟩
    have hna2 : na < 32 := by omega
    have hnb2 : nb < 32 := by omega
    have hab : na ≠ nb := by omega
    have hfl3 : fl < 3 := by omega
    obtain ⟨fr, hfr⟩ : ∃ k, k = (if nb < na then na - nb else nb - na) := ⟨_, rfl⟩
    have hfr2 : fr < 32 := by rw [hfr]; split <;> omega
    have hia : iabs (nI na - nI nb) = nI fr := by rw [hfr]; exact iabs_f hna2 hnb2
    have hone : ∀ y, 0 ≤ pw (prs I1 200) (laid I1 200 (nI fl) 0) y := fun y => pw_nn (fun t ht h => laid_b hF1 hfl3 ht h)
    have J595 : ∀ (J : aI) (M : aL) , eqX J I1 → eqX M L → aG p l e rmL_isLight s m args below meth c E io0 S 20 (vx_MQ below (aQc E io0 S Kr) (aXC E io0 S Kx) args s rmL_isLight.cells rmL_isLight.slots (aW E)) 595 [.ref 3, .int (nI 0), .int (nI x), .ref 11, .ref 12, .int (nI len), .int (nI o0), .long (lsum (aT (prs I1 200)) (mnV (prs I1 200) (cts I1 200))), aU, .int (fsT (prs I1 200) 256), .int (lsT (prs I1 200) 256), .int (nI 1), .int (nI na), .int (nI nb), .int (nI fl), .long (pw (prs I1 200) (laid I1 200 (nI fl) 0) (nI na)), aU, .long (pw (prs I1 200) (laid I1 200 (nI fl) 0) (nI nb)), aU, .int (nI fr)] [] (S) (J) (M) (Rf) 0 0 := by
      intro J M eJ eM
      refine g_iloadG hx dL_isLight_595 (nx := 597) rfl rfl ?_
      refine g_if_eqN hx dL_isLight_597 (tg := 635) (by decide) (nx := 600) rfl (by omega) (fun c597 => ?_) (fun c597 => ?_)
      · exact absurd c597 (by decide)
      · refine g_aloadG_n hx dL_isLight_600 rfl (nx := 601) rfl rfl ?_
        refine g_iloadG_n hx dL_isLight_601 rfl (nx := 602) rfl rfl ?_
        refine g_iloadG hx dL_isLight_602 (nx := 604) rfl rfl ?_
        refine g_iconst hx dL_isLight_604 (nx := 605) rfl (v := (-1)) (by decide) ?_
        refine g_callV_M hx [_, _, _] (k' := 0) (n' := 0) dL_isLight_605 (nx := 608) rfl lk_L_91 (hX.1 0 _ rfl) (by decide) rfl rfl (Nat.le_of_ble_eq_true rfl) (Nat.le_of_ble_eq_true rfl) (Nat.le_of_ble_eq_true rfl) (Nat.le_of_ble_eq_true rfl) (Nat.le_of_ble_eq_true rfl) (Nat.le_of_ble_eq_true rfl) (Nat.le_of_ble_eq_true rfl) (lb_peak hst hB eJ eM hfl3 (fun h9 _ J605 M605 e605 f605 => ?_) (fun _ J605 M605 e605 f605 => ?_))
        · obtain ⟨k9, _, z2, z3⟩ := h9
          exact absurd z3.symm (nI_m1 (by omega))
        · refine g_if_neN hx dL_isLight_608 (tg := 635) (by decide) (nx := 611) rfl (by omega) (fun c608 => ?_) (fun c608 => ?_)
          · exact absurd c608 (by omega)
          · refine g_aloadG_n hx dL_isLight_611 rfl (nx := 612) rfl rfl ?_
            refine g_iloadG_n hx dL_isLight_612 rfl (nx := 613) rfl rfl ?_
            refine g_iloadG hx dL_isLight_613 (nx := 615) rfl rfl ?_
            refine g_ldc hx dL_isLight_615 (nx := 617) rfl (v := nI 2147483647) kc_L_9 ?_
            refine g_callV_M hx [_, _, _] (k' := 0) (n' := 0) dL_isLight_617 (nx := 620) rfl lk_L_91 (hX.1 0 _ rfl) (by decide) rfl rfl (Nat.le_of_ble_eq_true rfl) (Nat.le_of_ble_eq_true rfl) (Nat.le_of_ble_eq_true rfl) (Nat.le_of_ble_eq_true rfl) (Nat.le_of_ble_eq_true rfl) (Nat.le_of_ble_eq_true rfl) (Nat.le_of_ble_eq_true rfl) (lb_peak hst hB e605 f605 hfl3 (fun h9 _ J617 M617 e617 f617 => ?_) (fun _ J617 M617 e617 f617 => ?_))
            · obtain ⟨k9, _, z2, z3⟩ := h9
              have := nI_inj (by decide) (by omega) z3
              omega
            · refine g_if_neN hx dL_isLight_620 (tg := 635) (by decide) (nx := 623) rfl (by omega) (fun c620 => ?_) (fun c620 => ?_)
              · exact absurd c620 (by omega)
              · refine g_aloadG_n hx dL_isLight_623 rfl (nx := 624) rfl rfl ?_
                refine g_iloadG_n hx dL_isLight_624 rfl (nx := 625) rfl rfl ?_
                refine g_callV_M hx [_] (k' := 0) (n' := 0) dL_isLight_625 (nx := 628) rfl lk_L_71 (hX.1 0 _ rfl) (by decide) rfl rfl (Nat.le_of_ble_eq_true rfl) (Nat.le_of_ble_eq_true rfl) (Nat.le_of_ble_eq_true rfl) (Nat.le_of_ble_eq_true rfl) (Nat.le_of_ble_eq_true rfl) (Nat.le_of_ble_eq_true rfl) (Nat.le_of_ble_eq_true rfl) (s_X3_putBackk (k := 0) hst (hB.C e617) hn0 ?_)
                rw [hB.o e617]
                refine g_if_neN hx dL_isLight_628 (tg := 635) (by decide) (nx := 631) rfl (by omega) (fun c628 => ?_) (fun c628 => ?_)
                · exact absurd c628 (by omega)
                · refine g_iconst hx dL_isLight_631 (nx := 632) rfl (v := nI 1) (by decide) ?_
                  refine g_goto hx dL_isLight_632 (tg := 636) (by decide) ?_
                  refine g_iret hx dL_isLight_636 rfl (by first | rfl | decide) (Nat.le_of_ble_eq_true rfl) (Nat.le_of_ble_eq_true rfl) ?_
                  refine hk _ M617 (fun a k a1 a2 a3 a4 => ?_) (au2_s _ _ _ _) f617
                  exact (au2_n (by omega)).trans ((e617 a k a1 a2 a3).trans (hJ1 a k a4))
    have J489 : ∀ (J : aI) (M : aL) , eqX J I1 → eqX M L → aG p l e rmL_isLight s m args below meth c E io0 S 20 (vx_MQ below (aQc E io0 S Kr) (aXC E io0 S Kx) args s rmL_isLight.cells rmL_isLight.slots (aW E)) 489 [.ref 3, .int (nI 0), .int (nI x), .ref 11, .ref 12, .int (nI len), .int (nI o0), .long (lsum (aT (prs I1 200)) (mnV (prs I1 200) (cts I1 200))), aU, .int (fsT (prs I1 200) 256), .int (lsT (prs I1 200) 256), .int (nI 1), .int (nI na), .int (nI nb), .int (nI fl), .long (pw (prs I1 200) (laid I1 200 (nI fl) 0) (nI na)), aU, .long (pw (prs I1 200) (laid I1 200 (nI fl) 0) (nI nb)), aU, .int (nI fr)] [] (S) (J) (M) (Rf) 0 0 := by
      intro J M eJ eM
      refine g_iloadG hx dL_isLight_489 (nx := 491) rfl rfl ?_
      refine g_if_eqN hx dL_isLight_491 (tg := 592) (by decide) (nx := 494) rfl (by omega) (fun c491 => ?_) (fun c491 => ?_)
      · exact absurd c491 (by decide)
      · refine g_aloadG_n hx dL_isLight_494 rfl (nx := 495) rfl rfl ?_
        refine g_iloadG_n hx dL_isLight_495 rfl (nx := 496) rfl rfl ?_
        refine g_iloadG hx dL_isLight_496 (nx := 498) rfl rfl ?_
        refine g_iloadG hx dL_isLight_498 (nx := 500) rfl rfl ?_
        refine g_callV_M hx [_, _, _] (k' := 0) (n' := 0) dL_isLight_500 (nx := 503) rfl lk_L_91 (hX.1 0 _ rfl) (by decide) rfl rfl (Nat.le_of_ble_eq_true rfl) (Nat.le_of_ble_eq_true rfl) (Nat.le_of_ble_eq_true rfl) (Nat.le_of_ble_eq_true rfl) (Nat.le_of_ble_eq_true rfl) (Nat.le_of_ble_eq_true rfl) (Nat.le_of_ble_eq_true rfl) (lb_peak hst hB eJ eM hfl3 (fun hp1 hp2 J500 M500 e500 f500 => ?_) (fun hp0 J500 M500 e500 f500 => ?_))
        · refine g_iloadG hx dL_isLight_503 (nx := 505) rfl rfl ?_
          obtain ⟨k9, z1, z2, z3⟩ := hp1
          have hk9 := nI_inj (by omega) (by omega) z3
          obtain ⟨hp3, hp4, hp5⟩ := hp2
          rw [show I1 3 4 = nI th from (hJ1 3 4 (by omega)).trans hth, nI_l (by omega)] at hp3
          rw [(show nI na - 1 = nI (na - 1) from pk_sub (a := na) (b := 1) (by omega))] at hp4
          rw [(show nI na + 1 = nI (na + 1) from nI_add na 1)] at hp5
          refine g_if_leN hx dL_isLight_505 (tg := 584) (by decide) (nx := 508) rfl (by omega) (fun c505 => ?_) (fun c505 => ?_)
          · exact absurd c505 (by omega)
          · refine g_iloadG hx dL_isLight_508 (nx := 510) rfl rfl ?_
            refine g_bipush hx dL_isLight_510 (nx := 512) rfl (v := nI 31) (by decide) ?_
            refine g_icmp_geN hx dL_isLight_512 (tg := 584) (by decide) (nx := 515) rfl (by omega) (by omega) (fun c512 => ?_) (fun c512 => ?_)
            · exact absurd c512 (by omega)
            · refine g_lloadG hx dL_isLight_515 (nx := 517) rfl rfl ?_
              refine g_aloadG_n hx dL_isLight_517 rfl (nx := 518) rfl rfl ?_
              refine g_iconst hx dL_isLight_518 (nx := 519) rfl (v := nI 2) (by decide) ?_
              refine g_ialoadN hx dL_isLight_519 (nx := 520) rfl h11 (by decide) (by omega) (by decide) (v := nI th) ((e500 _ _ (by decide) (by decide) (by decide)).trans ((hJ1 11 2 (by omega)).trans hc2)) ?_
              refine g_i2lN hx dL_isLight_520 (nx := 521) rfl (by omega) ?_
              refine g_lc_lt hx dL_isLight_521 (p2 := 522) rfl dL_isLight_522 (tg := 584) (by decide) (nx := 525) rfl (fun c521 => ?_) (fun c521 => ?_)
              · exact absurd c521 (Int64.not_lt.mpr hp3)
              · refine g_lloadG hx dL_isLight_525 (nx := 527) rfl rfl ?_
                refine g_aloadG_n hx dL_isLight_527 rfl (nx := 528) rfl rfl ?_
                refine g_iloadG_n hx dL_isLight_528 rfl (nx := 529) rfl rfl ?_
                refine g_iloadG hx dL_isLight_529 (nx := 531) rfl rfl ?_
                refine g_iloadG hx dL_isLight_531 (nx := 533) rfl rfl ?_
                refine g_if_neN hx dL_isLight_533 (tg := 540) (by decide) (nx := 536) rfl (by omega) (fun c533 => ?_) (fun c533 => ?_)
                · refine g_iloadG hx dL_isLight_540 (nx := 542) rfl rfl ?_
                  refine g_iconst hx dL_isLight_542 (nx := 543) rfl (v := nI 1) (by decide) ?_
                  refine g_isubN hx dL_isLight_543 (nx := 544) rfl (by omega) ?_
                  refine g_callV_M hx [_, _, _] (k' := 0) (n' := 0) dL_isLight_544 (nx := 547) rfl lk_L_77 (hX.1 0 _ rfl) (by decide) rfl rfl (Nat.le_of_ble_eq_true rfl) (Nat.le_of_ble_eq_true rfl) (Nat.le_of_ble_eq_true rfl) (Nat.le_of_ble_eq_true rfl) (Nat.le_of_ble_eq_true rfl) (Nat.le_of_ble_eq_true rfl) (Nat.le_of_ble_eq_true rfl) (lb_power hst hB e500 f500 hfl3 (by omega) (fun J544 M544 e544 f544 => ?_))
                  refine g_lc_le hx dL_isLight_547 (p2 := 548) rfl dL_isLight_548 (tg := 584) (by decide) (nx := 551) rfl (fun c547 => ?_) (fun c547 => ?_)
                  · exact absurd c547 (Int64.not_le.mpr hp4)
                  · refine g_lloadG hx dL_isLight_551 (nx := 553) rfl rfl ?_
                    refine g_aloadG_n hx dL_isLight_553 rfl (nx := 554) rfl rfl ?_
                    refine g_iloadG_n hx dL_isLight_554 rfl (nx := 555) rfl rfl ?_
                    refine g_iloadG hx dL_isLight_555 (nx := 557) rfl rfl ?_
                    refine g_iloadG hx dL_isLight_557 (nx := 559) rfl rfl ?_
                    refine g_bipush hx dL_isLight_559 (nx := 561) rfl (v := nI 31) (by decide) ?_
                    refine g_icmp_neN hx dL_isLight_561 (tg := 569) (by decide) (nx := 564) rfl (by omega) (by omega) (fun c561 => ?_) (fun c561 => ?_)
                    · refine g_iloadG hx dL_isLight_569 (nx := 571) rfl rfl ?_
                      refine g_iconst hx dL_isLight_571 (nx := 572) rfl (v := nI 1) (by decide) ?_
                      refine g_iaddN hx dL_isLight_572 (nx := 573) rfl  ?_
                      refine g_callV_M hx [_, _, _] (k' := 0) (n' := 0) dL_isLight_573 (nx := 576) rfl lk_L_77 (hX.1 0 _ rfl) (by decide) rfl rfl (Nat.le_of_ble_eq_true rfl) (Nat.le_of_ble_eq_true rfl) (Nat.le_of_ble_eq_true rfl) (Nat.le_of_ble_eq_true rfl) (Nat.le_of_ble_eq_true rfl) (Nat.le_of_ble_eq_true rfl) (Nat.le_of_ble_eq_true rfl) (lb_power hst hB e544 f544 hfl3 (by omega) (fun J573 M573 e573 f573 => ?_))
                      refine g_lc_le hx dL_isLight_576 (p2 := 577) rfl dL_isLight_577 (tg := 584) (by decide) (nx := 580) rfl (fun c576 => ?_) (fun c576 => ?_)
                      · exact absurd c576 (Int64.not_le.mpr hp5)
                      · refine g_iconst hx dL_isLight_580 (nx := 581) rfl (v := nI 1) (by decide) ?_
                        refine g_goto hx dL_isLight_581 (tg := 585) (by decide) ?_
                        refine g_icmp_neN hx dL_isLight_585 (tg := 592) (by decide) (nx := 588) rfl (by omega) (by omega) (fun c585 => ?_) (fun c585 => ?_)
                        · exact absurd c585 (by decide)
                        · refine g_iconst hx dL_isLight_588 (nx := 589) rfl (v := nI 1) (by decide) ?_
                          refine g_goto hx dL_isLight_589 (tg := 593) (by decide) ?_
                          refine g_istore_11 hx dL_isLight_593 (nx := 595) rfl (by decide) rfl ?_
                          exact J595 J573 M573 e573 f573
                    · exact absurd c561 (by omega)
                · exact absurd c533 (by omega)
        · refine g_iloadG hx dL_isLight_503 (nx := 505) rfl rfl ?_
          refine g_if_leN hx dL_isLight_505 (tg := 584) (by decide) (nx := 508) rfl (by omega) (fun c505 => ?_) (fun c505 => ?_)
          · refine g_iconst hx dL_isLight_584 (nx := 585) rfl (v := nI 0) (by decide) ?_
            refine g_icmp_neN hx dL_isLight_585 (tg := 592) (by decide) (nx := 588) rfl (by omega) (by omega) (fun c585 => ?_) (fun c585 => ?_)
            · exact absurd c585 (by decide)
            · refine g_iconst hx dL_isLight_588 (nx := 589) rfl (v := nI 1) (by decide) ?_
              refine g_goto hx dL_isLight_589 (tg := 593) (by decide) ?_
              refine g_istore_11 hx dL_isLight_593 (nx := 595) rfl (by decide) rfl ?_
              exact J595 J500 M500 e500 f500
          · refine g_iloadG hx dL_isLight_508 (nx := 510) rfl rfl ?_
            refine g_bipush hx dL_isLight_510 (nx := 512) rfl (v := nI 31) (by decide) ?_
            refine g_icmp_geN hx dL_isLight_512 (tg := 584) (by decide) (nx := 515) rfl (by omega) (by omega) (fun c512 => ?_) (fun c512 => ?_)
            · refine g_iconst hx dL_isLight_584 (nx := 585) rfl (v := nI 0) (by decide) ?_
              refine g_icmp_neN hx dL_isLight_585 (tg := 592) (by decide) (nx := 588) rfl (by omega) (by omega) (fun c585 => ?_) (fun c585 => ?_)
              · exact absurd c585 (by decide)
              · refine g_iconst hx dL_isLight_588 (nx := 589) rfl (v := nI 1) (by decide) ?_
                refine g_goto hx dL_isLight_589 (tg := 593) (by decide) ?_
                refine g_istore_11 hx dL_isLight_593 (nx := 595) rfl (by decide) rfl ?_
                exact J595 J500 M500 e500 f500
            · refine g_lloadG hx dL_isLight_515 (nx := 517) rfl rfl ?_
              refine g_aloadG_n hx dL_isLight_517 rfl (nx := 518) rfl rfl ?_
              refine g_iconst hx dL_isLight_518 (nx := 519) rfl (v := nI 2) (by decide) ?_
              refine g_ialoadN hx dL_isLight_519 (nx := 520) rfl h11 (by decide) (by omega) (by decide) (v := nI th) ((e500 _ _ (by decide) (by decide) (by decide)).trans ((hJ1 11 2 (by omega)).trans hc2)) ?_
              refine g_i2lN hx dL_isLight_520 (nx := 521) rfl (by omega) ?_
              refine g_lc_lt hx dL_isLight_521 (p2 := 522) rfl dL_isLight_522 (tg := 584) (by decide) (nx := 525) rfl (fun c521 => ?_) (fun c521 => ?_)
              · refine g_iconst hx dL_isLight_584 (nx := 585) rfl (v := nI 0) (by decide) ?_
                refine g_icmp_neN hx dL_isLight_585 (tg := 592) (by decide) (nx := 588) rfl (by omega) (by omega) (fun c585 => ?_) (fun c585 => ?_)
                · exact absurd c585 (by decide)
                · refine g_iconst hx dL_isLight_588 (nx := 589) rfl (v := nI 1) (by decide) ?_
                  refine g_goto hx dL_isLight_589 (tg := 593) (by decide) ?_
                  refine g_istore_11 hx dL_isLight_593 (nx := 595) rfl (by decide) rfl ?_
                  exact J595 J500 M500 e500 f500
              · refine g_lloadG hx dL_isLight_525 (nx := 527) rfl rfl ?_
                refine g_aloadG_n hx dL_isLight_527 rfl (nx := 528) rfl rfl ?_
                refine g_iloadG_n hx dL_isLight_528 rfl (nx := 529) rfl rfl ?_
                refine g_iloadG hx dL_isLight_529 (nx := 531) rfl rfl ?_
                refine g_iloadG hx dL_isLight_531 (nx := 533) rfl rfl ?_
                refine g_if_neN hx dL_isLight_533 (tg := 540) (by decide) (nx := 536) rfl (by omega) (fun c533 => ?_) (fun c533 => ?_)
                · refine g_iloadG hx dL_isLight_540 (nx := 542) rfl rfl ?_
                  refine g_iconst hx dL_isLight_542 (nx := 543) rfl (v := nI 1) (by decide) ?_
                  refine g_isubN hx dL_isLight_543 (nx := 544) rfl (by omega) ?_
                  refine g_callV_M hx [_, _, _] (k' := 0) (n' := 0) dL_isLight_544 (nx := 547) rfl lk_L_77 (hX.1 0 _ rfl) (by decide) rfl rfl (Nat.le_of_ble_eq_true rfl) (Nat.le_of_ble_eq_true rfl) (Nat.le_of_ble_eq_true rfl) (Nat.le_of_ble_eq_true rfl) (Nat.le_of_ble_eq_true rfl) (Nat.le_of_ble_eq_true rfl) (Nat.le_of_ble_eq_true rfl) (lb_power hst hB e500 f500 hfl3 (by omega) (fun J544 M544 e544 f544 => ?_))
                  refine g_lc_le hx dL_isLight_547 (p2 := 548) rfl dL_isLight_548 (tg := 584) (by decide) (nx := 551) rfl (fun c547 => ?_) (fun c547 => ?_)
                  · refine g_iconst hx dL_isLight_584 (nx := 585) rfl (v := nI 0) (by decide) ?_
                    refine g_icmp_neN hx dL_isLight_585 (tg := 592) (by decide) (nx := 588) rfl (by omega) (by omega) (fun c585 => ?_) (fun c585 => ?_)
                    · exact absurd c585 (by decide)
                    · refine g_iconst hx dL_isLight_588 (nx := 589) rfl (v := nI 1) (by decide) ?_
                      refine g_goto hx dL_isLight_589 (tg := 593) (by decide) ?_
                      refine g_istore_11 hx dL_isLight_593 (nx := 595) rfl (by decide) rfl ?_
                      exact J595 J544 M544 e544 f544
                  · refine g_lloadG hx dL_isLight_551 (nx := 553) rfl rfl ?_
                    refine g_aloadG_n hx dL_isLight_553 rfl (nx := 554) rfl rfl ?_
                    refine g_iloadG_n hx dL_isLight_554 rfl (nx := 555) rfl rfl ?_
                    refine g_iloadG hx dL_isLight_555 (nx := 557) rfl rfl ?_
                    refine g_iloadG hx dL_isLight_557 (nx := 559) rfl rfl ?_
                    refine g_bipush hx dL_isLight_559 (nx := 561) rfl (v := nI 31) (by decide) ?_
                    refine g_icmp_neN hx dL_isLight_561 (tg := 569) (by decide) (nx := 564) rfl (by omega) (by omega) (fun c561 => ?_) (fun c561 => ?_)
                    · refine g_iloadG hx dL_isLight_569 (nx := 571) rfl rfl ?_
                      refine g_iconst hx dL_isLight_571 (nx := 572) rfl (v := nI 1) (by decide) ?_
                      refine g_iaddN hx dL_isLight_572 (nx := 573) rfl  ?_
                      refine g_callV_M hx [_, _, _] (k' := 0) (n' := 0) dL_isLight_573 (nx := 576) rfl lk_L_77 (hX.1 0 _ rfl) (by decide) rfl rfl (Nat.le_of_ble_eq_true rfl) (Nat.le_of_ble_eq_true rfl) (Nat.le_of_ble_eq_true rfl) (Nat.le_of_ble_eq_true rfl) (Nat.le_of_ble_eq_true rfl) (Nat.le_of_ble_eq_true rfl) (Nat.le_of_ble_eq_true rfl) (lb_power hst hB e544 f544 hfl3 (by omega) (fun J573 M573 e573 f573 => ?_))
                      refine g_lc_le hx dL_isLight_576 (p2 := 577) rfl dL_isLight_577 (tg := 584) (by decide) (nx := 580) rfl (fun c576 => ?_) (fun c576 => ?_)
                      · refine g_iconst hx dL_isLight_584 (nx := 585) rfl (v := nI 0) (by decide) ?_
                        refine g_icmp_neN hx dL_isLight_585 (tg := 592) (by decide) (nx := 588) rfl (by omega) (by omega) (fun c585 => ?_) (fun c585 => ?_)
                        · exact absurd c585 (by decide)
                        · refine g_iconst hx dL_isLight_588 (nx := 589) rfl (v := nI 1) (by decide) ?_
                          refine g_goto hx dL_isLight_589 (tg := 593) (by decide) ?_
                          refine g_istore_11 hx dL_isLight_593 (nx := 595) rfl (by decide) rfl ?_
                          exact J595 J573 M573 e573 f573
                      · refine absurd ⟨⟨na, by omega, by omega, rfl⟩, ?_, ?_, ?_⟩ hp0
                        · rw [show I1 3 4 = nI th from (hJ1 3 4 (by omega)).trans hth, nI_l (by omega)]; exact Int64.not_lt.mp c521
                        · rw [(show nI na - 1 = nI (na - 1) from pk_sub (a := na) (b := 1) (by omega))]; exact Int64.not_le.mp c547
                        · rw [(show nI na + 1 = nI (na + 1) from nI_add na 1)]; exact Int64.not_le.mp c576
                    · exact absurd c561 (by omega)
                · exact absurd c533 (by omega)
    have J390 : ∀ (J : aI) (M : aL) , eqX J I1 → eqX M L → aG p l e rmL_isLight s m args below meth c E io0 S 20 (vx_MQ below (aQc E io0 S Kr) (aXC E io0 S Kx) args s rmL_isLight.cells rmL_isLight.slots (aW E)) 390 [.ref 3, .int (nI 0), .int (nI x), .ref 11, .ref 12, .int (nI len), .int (nI o0), .long (lsum (aT (prs I1 200)) (mnV (prs I1 200) (cts I1 200))), aU, .int (fsT (prs I1 200) 256), .int (lsT (prs I1 200) 256), .int (nI 1), .int (nI na), .int (nI nb), .int (nI fl), .long (pw (prs I1 200) (laid I1 200 (nI fl) 0) (nI na)), aU, .long (pw (prs I1 200) (laid I1 200 (nI fl) 0) (nI nb)), aU, .int (nI fr)] [] (S) (J) (M) (Rf) 0 0 := by
      intro J M eJ eM
      refine g_aloadG_n hx dL_isLight_390 rfl (nx := 391) rfl rfl ?_
      refine g_iloadG_n hx dL_isLight_391 rfl (nx := 392) rfl rfl ?_
      refine g_iconst hx dL_isLight_392 (nx := 393) rfl (v := nI 0) (by decide) ?_
      refine g_callV_M hx [_, _] (k' := 0) (n' := 0) dL_isLight_393 (nx := 396) rfl lk_L_81 (hX.1 0 _ rfl) (by decide) rfl rfl (Nat.le_of_ble_eq_true rfl) (Nat.le_of_ble_eq_true rfl) (Nat.le_of_ble_eq_true rfl) (Nat.le_of_ble_eq_true rfl) (Nat.le_of_ble_eq_true rfl) (Nat.le_of_ble_eq_true rfl) (Nat.le_of_ble_eq_true rfl) (lb_window hst hB eJ eM (by decide) (fun J393 M393 e393 f393 => ?_))
      rw [pw_w0, ← hlen]
      refine g_iloadG hx dL_isLight_396 (nx := 398) rfl rfl ?_
      refine g_i2lN hx dL_isLight_398 (nx := 399) rfl (by omega) ?_
      refine g_iloadG hx dL_isLight_399 (nx := 401) rfl rfl ?_
      refine g_i2lN hx dL_isLight_401 (nx := 402) rfl (by omega) ?_
      refine g_lmul hx dL_isLight_402 (nx := 403) rfl ?_
      refine g_lc_ne hx dL_isLight_403 (p2 := 404) rfl dL_isLight_404 (tg := 425) (by decide) (nx := 407) rfl (fun c403 => ?_) (fun c403 => ?_)
      · exact absurd rfl c403
      · refine g_lloadG hx dL_isLight_407 (nx := 409) rfl rfl ?_
        refine g_lconst hx dL_isLight_409 (nx := 410) rfl (v := lN 0) (by decide) ?_
        refine g_lc_lt hx dL_isLight_410 (p2 := 411) rfl dL_isLight_411 (tg := 425) (by decide) (nx := 414) rfl (fun c410 => ?_) (fun c410 => ?_)
        · exact absurd c410 (Int64.not_lt.mpr (hone _))
        · refine g_lloadG hx dL_isLight_414 (nx := 416) rfl rfl ?_
          refine g_lconst hx dL_isLight_416 (nx := 417) rfl (v := lN 0) (by decide) ?_
          refine g_lc_lt hx dL_isLight_417 (p2 := 418) rfl dL_isLight_418 (tg := 425) (by decide) (nx := 421) rfl (fun c417 => ?_) (fun c417 => ?_)
          · exact absurd c417 (Int64.not_lt.mpr (hone _))
          · refine g_iconst hx dL_isLight_421 (nx := 422) rfl (v := nI 1) (by decide) ?_
            refine g_goto hx dL_isLight_422 (tg := 426) (by decide) ?_
            refine g_istore_11 hx dL_isLight_426 (nx := 428) rfl (by decide) rfl ?_
            refine g_iloadG hx dL_isLight_428 (nx := 430) rfl rfl ?_
            refine g_if_eqN hx dL_isLight_430 (tg := 486) (by decide) (nx := 433) rfl (by omega) (fun c430 => ?_) (fun c430 => ?_)
            · exact absurd c430 (by decide)
            · refine g_aloadG_n hx dL_isLight_433 rfl (nx := 434) rfl rfl ?_
              refine g_iloadG_n hx dL_isLight_434 rfl (nx := 435) rfl rfl ?_
              refine g_iloadG hx dL_isLight_435 (nx := 437) rfl rfl ?_
              refine g_iloadG hx dL_isLight_437 (nx := 439) rfl rfl ?_
              refine g_iloadG hx dL_isLight_439 (nx := 441) rfl rfl ?_
              refine g_callV_M hx [_, _, _, _] (k' := 0) (n' := 0) dL_isLight_441 (nx := 444) rfl lk_L_85 (hX.1 0 _ rfl) (by decide) rfl rfl (Nat.le_of_ble_eq_true rfl) (Nat.le_of_ble_eq_true rfl) (Nat.le_of_ble_eq_true rfl) (Nat.le_of_ble_eq_true rfl) (Nat.le_of_ble_eq_true rfl) (Nat.le_of_ble_eq_true rfl) (Nat.le_of_ble_eq_true rfl) (lb_seen hst hB e393 f393 hfl3 hna2 hnb2 hab (fun hs1 J441 M441 e441 f441 => ?_) (fun hs0 J441 M441 e441 f441 => ?_))
              · obtain ⟨hs2, hs3⟩ := hs1
                rw [hia, (show (nI (aT (prs I1 200)).length).toInt64 = lN len from by rw [← hlen]; exact nI_l (by omega))] at hs3
                refine g_lloadG hx dL_isLight_444 (nx := 446) rfl rfl ?_
                refine g_lloadG hx dL_isLight_446 (nx := 448) rfl rfl ?_
                refine g_lc_le hx dL_isLight_448 (p2 := 449) rfl dL_isLight_449 (tg := 478) (by decide) (nx := 452) rfl (fun c448 => ?_) (fun c448 => ?_)
                · exact absurd c448 (Int64.not_le.mpr hs2)
                · refine g_ldc2 hx dL_isLight_452 (nx := 455) rfl kl_L_89 ?_
                  refine g_aloadG_n hx dL_isLight_455 rfl (nx := 456) rfl rfl ?_
                  refine g_iloadG_n hx dL_isLight_456 rfl (nx := 457) rfl rfl ?_
                  refine g_iloadG hx dL_isLight_457 (nx := 459) rfl rfl ?_
                  refine g_callV_M hx [_, _] (k' := 0) (n' := 0) dL_isLight_459 (nx := 462) rfl lk_L_81 (hX.1 0 _ rfl) (by decide) rfl rfl (Nat.le_of_ble_eq_true rfl) (Nat.le_of_ble_eq_true rfl) (Nat.le_of_ble_eq_true rfl) (Nat.le_of_ble_eq_true rfl) (Nat.le_of_ble_eq_true rfl) (Nat.le_of_ble_eq_true rfl) (Nat.le_of_ble_eq_true rfl) (lb_window hst hB e441 f441 hfr2 (fun J459 M459 e459 f459 => ?_))
                  refine g_lmul hx dL_isLight_462 (nx := 463) rfl ?_
                  refine g_iloadG hx dL_isLight_463 (nx := 465) rfl rfl ?_
                  refine g_i2lN hx dL_isLight_465 (nx := 466) rfl (by omega) ?_
                  refine g_iloadG hx dL_isLight_466 (nx := 468) rfl rfl ?_
                  refine g_i2lN hx dL_isLight_468 (nx := 469) rfl (by omega) ?_
                  refine g_lmul hx dL_isLight_469 (nx := 470) rfl ?_
                  refine g_lc_lt hx dL_isLight_470 (p2 := 471) rfl dL_isLight_471 (tg := 478) (by decide) (nx := 474) rfl (fun c470 => ?_) (fun c470 => ?_)
                  · exact absurd c470 (Int64.not_lt.mpr hs3)
                  · refine g_iconst hx dL_isLight_474 (nx := 475) rfl (v := nI 1) (by decide) ?_
                    refine g_goto hx dL_isLight_475 (tg := 479) (by decide) ?_
                    refine g_icmp_neN hx dL_isLight_479 (tg := 486) (by decide) (nx := 482) rfl (by omega) (by omega) (fun c479 => ?_) (fun c479 => ?_)
                    · exact absurd c479 (by decide)
                    · refine g_iconst hx dL_isLight_482 (nx := 483) rfl (v := nI 1) (by decide) ?_
                      refine g_goto hx dL_isLight_483 (tg := 487) (by decide) ?_
                      refine g_istore_11 hx dL_isLight_487 (nx := 489) rfl (by decide) rfl ?_
                      exact J489 J459 M459 e459 f459
              · refine g_lloadG hx dL_isLight_444 (nx := 446) rfl rfl ?_
                refine g_lloadG hx dL_isLight_446 (nx := 448) rfl rfl ?_
                refine g_lc_le hx dL_isLight_448 (p2 := 449) rfl dL_isLight_449 (tg := 478) (by decide) (nx := 452) rfl (fun c448 => ?_) (fun c448 => ?_)
                · refine g_iconst hx dL_isLight_478 (nx := 479) rfl (v := nI 0) (by decide) ?_
                  refine g_icmp_neN hx dL_isLight_479 (tg := 486) (by decide) (nx := 482) rfl (by omega) (by omega) (fun c479 => ?_) (fun c479 => ?_)
                  · exact absurd c479 (by decide)
                  · refine g_iconst hx dL_isLight_482 (nx := 483) rfl (v := nI 1) (by decide) ?_
                    refine g_goto hx dL_isLight_483 (tg := 487) (by decide) ?_
                    refine g_istore_11 hx dL_isLight_487 (nx := 489) rfl (by decide) rfl ?_
                    exact J489 J441 M441 e441 f441
                · refine g_ldc2 hx dL_isLight_452 (nx := 455) rfl kl_L_89 ?_
                  refine g_aloadG_n hx dL_isLight_455 rfl (nx := 456) rfl rfl ?_
                  refine g_iloadG_n hx dL_isLight_456 rfl (nx := 457) rfl rfl ?_
                  refine g_iloadG hx dL_isLight_457 (nx := 459) rfl rfl ?_
                  refine g_callV_M hx [_, _] (k' := 0) (n' := 0) dL_isLight_459 (nx := 462) rfl lk_L_81 (hX.1 0 _ rfl) (by decide) rfl rfl (Nat.le_of_ble_eq_true rfl) (Nat.le_of_ble_eq_true rfl) (Nat.le_of_ble_eq_true rfl) (Nat.le_of_ble_eq_true rfl) (Nat.le_of_ble_eq_true rfl) (Nat.le_of_ble_eq_true rfl) (Nat.le_of_ble_eq_true rfl) (lb_window hst hB e441 f441 hfr2 (fun J459 M459 e459 f459 => ?_))
                  refine g_lmul hx dL_isLight_462 (nx := 463) rfl ?_
                  refine g_iloadG hx dL_isLight_463 (nx := 465) rfl rfl ?_
                  refine g_i2lN hx dL_isLight_465 (nx := 466) rfl (by omega) ?_
                  refine g_iloadG hx dL_isLight_466 (nx := 468) rfl rfl ?_
                  refine g_i2lN hx dL_isLight_468 (nx := 469) rfl (by omega) ?_
                  refine g_lmul hx dL_isLight_469 (nx := 470) rfl ?_
                  refine g_lc_lt hx dL_isLight_470 (p2 := 471) rfl dL_isLight_471 (tg := 478) (by decide) (nx := 474) rfl (fun c470 => ?_) (fun c470 => ?_)
                  · refine g_iconst hx dL_isLight_478 (nx := 479) rfl (v := nI 0) (by decide) ?_
                    refine g_icmp_neN hx dL_isLight_479 (tg := 486) (by decide) (nx := 482) rfl (by omega) (by omega) (fun c479 => ?_) (fun c479 => ?_)
                    · exact absurd c479 (by decide)
                    · refine g_iconst hx dL_isLight_482 (nx := 483) rfl (v := nI 1) (by decide) ?_
                      refine g_goto hx dL_isLight_483 (tg := 487) (by decide) ?_
                      refine g_istore_11 hx dL_isLight_487 (nx := 489) rfl (by decide) rfl ?_
                      exact J489 J459 M459 e459 f459
                  · refine absurd ⟨Int64.not_le.mp c448, ?_⟩ hs0
                    rw [hia, (show (nI (aT (prs I1 200)).length).toInt64 = lN len from by rw [← hlen]; exact nI_l (by omega))]; exact Int64.not_lt.mp c470
    have J327 : ∀ (J : aI) (M : aL) , eqX J I1 → eqX M L → aG p l e rmL_isLight s m args below meth c E io0 S 20 (vx_MQ below (aQc E io0 S Kr) (aXC E io0 S Kx) args s rmL_isLight.cells rmL_isLight.slots (aW E)) 327 [.ref 3, .int (nI 0), .int (nI x), .ref 11, .ref 12, .int (nI len), .int (nI o0), .long (lsum (aT (prs I1 200)) (mnV (prs I1 200) (cts I1 200))), aU, .int (fsT (prs I1 200) 256), .int (lsT (prs I1 200) 256), .int (nI 1), .int (nI na), .int (nI nb), .int (nI fl), .long (pw (prs I1 200) (laid I1 200 (nI fl) 0) (nI na)), aU, .long (pw (prs I1 200) (laid I1 200 (nI fl) 0) (nI nb)), aU, .int (nI fr)] [] (S) (J) (M) (Rf) 0 0 := by
      intro J M eJ eM
      refine g_iloadG hx dL_isLight_327 (nx := 329) rfl rfl ?_
      refine g_if_eqN hx dL_isLight_329 (tg := 425) (by decide) (nx := 332) rfl (by omega) (fun c329 => ?_) (fun c329 => ?_)
      · exact absurd c329 (by decide)
      · refine g_aloadG_n hx dL_isLight_332 rfl (nx := 333) rfl rfl ?_
        refine g_iloadG_n hx dL_isLight_333 rfl (nx := 334) rfl rfl ?_
        refine g_callV_M hx [_] (k' := 0) (n' := 0) dL_isLight_334 (nx := 337) rfl lk_L_68 (hX.1 0 _ rfl) (by decide) rfl rfl (Nat.le_of_ble_eq_true rfl) (Nat.le_of_ble_eq_true rfl) (Nat.le_of_ble_eq_true rfl) (Nat.le_of_ble_eq_true rfl) (Nat.le_of_ble_eq_true rfl) (Nat.le_of_ble_eq_true rfl) (Nat.le_of_ble_eq_true rfl) (lb_frames hst hB eJ eM  (fun J334 M334 e334 f334 => ?_))
        rw [← hlen]
        refine g_iloadG hx dL_isLight_337 (nx := 339) rfl rfl ?_
        refine g_icmp_neN hx dL_isLight_339 (tg := 425) (by decide) (nx := 342) rfl (by omega) (by omega) (fun c339 => ?_) (fun c339 => ?_)
        · exact absurd c339 (by omega)
        · refine g_lloadG hx dL_isLight_342 (nx := 344) rfl rfl ?_
          refine g_lconst hx dL_isLight_344 (nx := 345) rfl (v := lN 0) (by decide) ?_
          refine g_lc_lt hx dL_isLight_345 (p2 := 346) rfl dL_isLight_346 (tg := 425) (by decide) (nx := 349) rfl (fun c345 => ?_) (fun c345 => ?_)
          · exact absurd ((Int64.lt_iff_toInt_lt).mp c345) (by have := hms.1; rw [show (lN 0).toInt = 0 from by decide]; omega)
          · refine g_iloadG hx dL_isLight_349 (nx := 351) rfl rfl ?_
            refine g_if_eqN hx dL_isLight_351 (tg := 363) (by decide) (nx := 354) rfl (by omega) (fun c351 => ?_) (fun c351 => ?_)
            · refine g_iloadG hx dL_isLight_363 (nx := 365) rfl rfl ?_
              refine g_if_eqN hx dL_isLight_365 (tg := 390) (by decide) (nx := 368) rfl (by omega) (fun c365 => ?_) (fun c365 => ?_)
              · exact J390 J334 M334 e334 f334
              · exact absurd c351 c365
            · refine g_lloadG hx dL_isLight_354 (nx := 356) rfl rfl ?_
              refine g_iloadG hx dL_isLight_356 (nx := 358) rfl rfl ?_
              refine g_i2lN hx dL_isLight_358 (nx := 359) rfl (by omega) ?_
              refine g_lc_ge hx dL_isLight_359 (p2 := 360) rfl dL_isLight_360 (tg := 425) (by decide) (nx := 363) rfl (fun c359 => ?_) (fun c359 => ?_)
              · exact absurd ((Int64.le_iff_toInt_le).mp c359) (by have := hms.2 c351; rw [lN_toInt (by omega)]; omega)
              · obtain ⟨hf1, hf2, ht1, ht2, hp1, hp2⟩ := fs_tF (q := prs I1 200) (by rw [← hlen]; exact c351)
                have hz := drV_ends hF1 (by rw [← hlen]; exact c351)
                refine g_iloadG hx dL_isLight_363 (nx := 365) rfl rfl ?_
                refine g_if_eqN hx dL_isLight_365 (tg := 390) (by decide) (nx := 368) rfl (by omega) (fun c365 => ?_) (fun c365 => ?_)
                · exact absurd c365 c351
                · refine g_aloadG_n hx dL_isLight_368 rfl (nx := 369) rfl rfl ?_
                  refine g_iloadG_n hx dL_isLight_369 rfl (nx := 370) rfl rfl ?_
                  refine g_iconst hx dL_isLight_370 (nx := 371) rfl (v := nI 2) (by decide) ?_
                  refine g_iloadG hx dL_isLight_371 (nx := 373) rfl rfl ?_
                  rw [hf1]
                  refine g_callV_M hx [_, _, _] (k' := 0) (n' := 0) dL_isLight_373 (nx := 376) rfl lk_L_74 (hX.1 0 _ rfl) (by decide) rfl rfl (Nat.le_of_ble_eq_true rfl) (Nat.le_of_ble_eq_true rfl) (Nat.le_of_ble_eq_true rfl) (Nat.le_of_ble_eq_true rfl) (Nat.le_of_ble_eq_true rfl) (Nat.le_of_ble_eq_true rfl) (Nat.le_of_ble_eq_true rfl) (lb_value hst hB e334 f334 (by decide) ht1 (fun J373 M373 e373 f373 => ?_))
                  rw [if_pos hp1, show laid I1 200 (nI 2) 0 (tF (prs I1 200)) = 0 from hz.1, show (0 : Int64).toInt32 = nI 0 from by decide]
                  refine g_if_neN hx dL_isLight_376 (tg := 425) (by decide) (nx := 379) rfl (by omega) (fun c376 => ?_) (fun c376 => ?_)
                  · exact absurd c376 (by omega)
                  · refine g_aloadG_n hx dL_isLight_379 rfl (nx := 380) rfl rfl ?_
                    refine g_iloadG_n hx dL_isLight_380 rfl (nx := 381) rfl rfl ?_
                    refine g_iconst hx dL_isLight_381 (nx := 382) rfl (v := nI 2) (by decide) ?_
                    refine g_iloadG hx dL_isLight_382 (nx := 384) rfl rfl ?_
                    rw [hf2]
                    refine g_callV_M hx [_, _, _] (k' := 0) (n' := 0) dL_isLight_384 (nx := 387) rfl lk_L_74 (hX.1 0 _ rfl) (by decide) rfl rfl (Nat.le_of_ble_eq_true rfl) (Nat.le_of_ble_eq_true rfl) (Nat.le_of_ble_eq_true rfl) (Nat.le_of_ble_eq_true rfl) (Nat.le_of_ble_eq_true rfl) (Nat.le_of_ble_eq_true rfl) (Nat.le_of_ble_eq_true rfl) (lb_value hst hB e373 f373 (by decide) ht2 (fun J384 M384 e384 f384 => ?_))
                    rw [if_pos hp2, show laid I1 200 (nI 2) 0 (tZ (prs I1 200)) = 0 from hz.2, show (0 : Int64).toInt32 = nI 0 from by decide]
                    refine g_if_neN hx dL_isLight_387 (tg := 425) (by decide) (nx := 390) rfl (by omega) (fun c387 => ?_) (fun c387 => ?_)
                    · exact absurd c387 (by omega)
                    · have K9 := J390 J384 M384 e384 f384
                      rw [hf1, hf2] at K9
                      exact K9
    have J251 : ∀ (J : aI) (M : aL) (w12 w13 w14 w15 : Value), eqX J I1 → eqX M L → aG p l e rmL_isLight s m args below meth c E io0 S 20 (vx_MQ below (aQc E io0 S Kr) (aXC E io0 S Kx) args s rmL_isLight.cells rmL_isLight.slots (aW E)) 251 [.ref 3, .int (nI 0), .int (nI x), .ref 11, .ref 12, .int (nI len), .int (nI o0), .long (lsum (aT (prs I1 200)) (mnV (prs I1 200) (cts I1 200))), aU, .int (fsT (prs I1 200) 256), .int (lsT (prs I1 200) 256), .int (nI 1), w12, w13, w14, w15, aU, aU, aU, aU] [] (S) (J) (M) (Rf) 0 0 := by
      intro J M w12 w13 w14 w15 eJ eM
      refine g_iloadG_n hx dL_isLight_251 rfl (nx := 252) rfl rfl ?_
      refine g_bipush hx dL_isLight_252 (nx := 254) rfl (v := nI 32) (by decide) ?_
      refine g_iremN hx dL_isLight_254 (nx := 255) rfl (by omega) (by omega) (by omega) ?_
      rw [← hna]
      refine g_istore_12 hx dL_isLight_255 (nx := 257) rfl (by decide) rfl ?_
      refine g_iloadG hx dL_isLight_257 (nx := 259) rfl rfl ?_
      refine g_iconst hx dL_isLight_259 (nx := 260) rfl (v := nI 1) (by decide) ?_
      refine g_iaddN hx dL_isLight_260 (nx := 261) rfl  ?_
      refine g_iloadG_n hx dL_isLight_261 rfl (nx := 262) rfl rfl ?_
      refine g_bipush hx dL_isLight_262 (nx := 264) rfl (v := nI 32) (by decide) ?_
      refine g_idivN hx dL_isLight_264 (nx := 265) rfl (by omega) (by omega) (by omega) ?_
      refine g_bipush hx dL_isLight_265 (nx := 267) rfl (v := nI 31) (by decide) ?_
      refine g_iremN hx dL_isLight_267 (nx := 268) rfl (by omega) (by omega) (by omega) ?_
      refine g_iaddN hx dL_isLight_268 (nx := 269) rfl  ?_
      refine g_bipush hx dL_isLight_269 (nx := 271) rfl (v := nI 32) (by decide) ?_
      refine g_iremN hx dL_isLight_271 (nx := 272) rfl (by omega) (by omega) (by omega) ?_
      rw [← hnb]
      refine g_istore_13 hx dL_isLight_272 (nx := 274) rfl (by decide) rfl ?_
      refine g_iloadG_n hx dL_isLight_274 rfl (nx := 275) rfl rfl ?_
      refine g_sipush hx dL_isLight_275 (nx := 278) rfl (v := nI 1000) (by decide) ?_
      refine g_idivN hx dL_isLight_278 (nx := 279) rfl (by omega) (by omega) (by omega) ?_
      refine g_iconst hx dL_isLight_279 (nx := 280) rfl (v := nI 3) (by decide) ?_
      refine g_iremN hx dL_isLight_280 (nx := 281) rfl (by omega) (by omega) (by omega) ?_
      rw [← hfl]
      refine g_istore_14 hx dL_isLight_281 (nx := 283) rfl (by decide) rfl ?_
      refine g_aloadG_n hx dL_isLight_283 rfl (nx := 284) rfl rfl ?_
      refine g_iloadG_n hx dL_isLight_284 rfl (nx := 285) rfl rfl ?_
      refine g_iloadG hx dL_isLight_285 (nx := 287) rfl rfl ?_
      refine g_iloadG hx dL_isLight_287 (nx := 289) rfl rfl ?_
      refine g_callV_M hx [_, _, _] (k' := 0) (n' := 0) dL_isLight_289 (nx := 292) rfl lk_L_77 (hX.1 0 _ rfl) (by decide) rfl rfl (Nat.le_of_ble_eq_true rfl) (Nat.le_of_ble_eq_true rfl) (Nat.le_of_ble_eq_true rfl) (Nat.le_of_ble_eq_true rfl) (Nat.le_of_ble_eq_true rfl) (Nat.le_of_ble_eq_true rfl) (Nat.le_of_ble_eq_true rfl) (lb_power hst hB eJ eM hfl3 hna2 (fun J289 M289 e289 f289 => ?_))
      refine g_lstore_15 hx dL_isLight_292 (nx := 294) rfl (by decide) rfl ?_
      refine g_aloadG_n hx dL_isLight_294 rfl (nx := 295) rfl rfl ?_
      refine g_iloadG_n hx dL_isLight_295 rfl (nx := 296) rfl rfl ?_
      refine g_iloadG hx dL_isLight_296 (nx := 298) rfl rfl ?_
      refine g_iloadG hx dL_isLight_298 (nx := 300) rfl rfl ?_
      refine g_callV_M hx [_, _, _] (k' := 0) (n' := 0) dL_isLight_300 (nx := 303) rfl lk_L_77 (hX.1 0 _ rfl) (by decide) rfl rfl (Nat.le_of_ble_eq_true rfl) (Nat.le_of_ble_eq_true rfl) (Nat.le_of_ble_eq_true rfl) (Nat.le_of_ble_eq_true rfl) (Nat.le_of_ble_eq_true rfl) (Nat.le_of_ble_eq_true rfl) (Nat.le_of_ble_eq_true rfl) (lb_power hst hB e289 f289 hfl3 hnb2 (fun J300 M300 e300 f300 => ?_))
      refine g_lstore_17 hx dL_isLight_303 (nx := 305) rfl (by decide) rfl ?_
      refine g_iloadG hx dL_isLight_305 (nx := 307) rfl rfl ?_
      refine g_iloadG hx dL_isLight_307 (nx := 309) rfl rfl ?_
      refine g_icmp_leN hx dL_isLight_309 (tg := 320) (by decide) (nx := 312) rfl (by omega) (by omega) (fun c309 => ?_) (fun c309 => ?_)
      · refine g_iloadG hx dL_isLight_320 (nx := 322) rfl rfl ?_
        refine g_iloadG hx dL_isLight_322 (nx := 324) rfl rfl ?_
        refine g_isubN hx dL_isLight_324 (nx := 325) rfl (by omega) ?_
        rw [show nb - na = fr from by rw [hfr, if_neg (by omega)]]
        refine g_istore_19 hx dL_isLight_325 (nx := 327) rfl (by decide) rfl ?_
        exact J327 J300 M300 e300 f300
      · refine g_iloadG hx dL_isLight_312 (nx := 314) rfl rfl ?_
        refine g_iloadG hx dL_isLight_314 (nx := 316) rfl rfl ?_
        refine g_isubN hx dL_isLight_316 (nx := 317) rfl (by omega) ?_
        rw [show na - nb = fr from by rw [hfr, if_pos (by omega)]]
        refine g_goto hx dL_isLight_317 (tg := 325) (by decide) ?_
        refine g_istore_19 hx dL_isLight_325 (nx := 327) rfl (by decide) rfl ?_
        exact J327 J300 M300 e300 f300
    have loop1 : ∀ (r i : Nat) (J : aI) (M : aL) (w13 w14 w15 : Value), i + r = 20 → eqX J I1 → eqX M L → aG p l e rmL_isLight s m args below meth c E io0 S 20 (vx_MQ below (aQc E io0 S Kr) (aXC E io0 S Kx) args s rmL_isLight.cells rmL_isLight.slots (aW E)) 34 [.ref 3, .int (nI 0), .int (nI x), .ref 11, .ref 12, .int (nI (tl (prs I1 200) (12 * i)).length), .int (nI o0), .long (lsum (tl (prs I1 200) (12 * i)) (mnV (prs I1 200) (cts I1 200))), aU, .int (fsT (prs I1 200) (12 * i)), .int (lsT (prs I1 200) (12 * i)), .int (nI 1), .int (nI i), w13, w14, w15, aU, aU, aU, aU] [] (S) (J) (M) (Rf) 0 0 := by
      intro r
      induction r with
      | zero =>
        intro i J M w13 w14 w15 hi0 eJ eM
        have hi : i = 20 := by omega
        subst hi
        have h9 := lF_240 hF1
        rw [← h9.1, ← h9.2.1, ← h9.2.2, ← hlen]
        refine g_iloadG hx dL_isLight_34 (nx := 36) rfl rfl ?_
        refine g_bipush hx dL_isLight_36 (nx := 38) rfl (v := nI 20) (by decide) ?_
        refine g_icmp_geN hx dL_isLight_38 (tg := 251) (by decide) (nx := 41) rfl (by omega) (by omega) (fun c38 => ?_) (fun c38 => ?_)
        · exact J251 J M _ _ _ _ eJ eM
        · exact absurd c38 (by omega)
      | succ r ih =>
        intro i J M w13 w14 w15 hi0 eJ eM
        obtain ⟨s, hs4, hs⟩ := hF1.2.2.2 (12 * i) (by omega)
        have hthr := lF_there hF1 hM1 (j := i) (by omega) hs4 hs
        have e20 := (hF1.1 i (by omega)).1
        have e40 := (hF1.1 i (by omega)).2
        have h5 := lF_n hF1 (t := 12 * i + 5) (by omega) (fun j hj => by omega)
        have hlt9 : (tl (prs I1 200) (12 * i)).length ≤ 12 * i := tl_len _ _
        rcases hF1.2.2.1 (12 * i) (by omega) with hv | ⟨v, hv9, hv⟩
        · refine g_iloadG hx dL_isLight_34 (nx := 36) rfl rfl ?_
          refine g_bipush hx dL_isLight_36 (nx := 38) rfl (v := nI 20) (by decide) ?_
          refine g_icmp_geN hx dL_isLight_38 (tg := 251) (by decide) (nx := 41) rfl (by omega) (by omega) (fun c38 => ?_) (fun c38 => ?_)
          · exact absurd c38 (by omega)
          · refine g_iloadG hx dL_isLight_41 (nx := 43) rfl rfl ?_
            refine g_if_eqN hx dL_isLight_43 (tg := 251) (by decide) (nx := 46) rfl (by omega) (fun c43 => ?_) (fun c43 => ?_)
            · exact absurd c43 (by decide)
            · refine g_bipush hx dL_isLight_46 (nx := 48) rfl (v := nI 60) (by decide) ?_
              refine g_iloadG_n hx dL_isLight_48 rfl (nx := 49) rfl rfl ?_
              refine g_imulN hx dL_isLight_49 (nx := 50) rfl  ?_
              refine g_iloadG hx dL_isLight_50 (nx := 52) rfl rfl ?_
              refine g_iaddN hx dL_isLight_52 (nx := 53) rfl  ?_
              rw [show 60 * 0 + i = i from by omega]
              refine g_istore_13 hx dL_isLight_53 (nx := 55) rfl (by decide) rfl ?_
              refine g_aloadG hx dL_isLight_55 (nx := 57) rfl rfl ?_
              refine g_iloadG hx dL_isLight_57 (nx := 59) rfl rfl ?_
              refine g_bipush hx dL_isLight_59 (nx := 61) rfl (v := nI 20) (by decide) ?_
              refine g_iaddN hx dL_isLight_61 (nx := 62) rfl  ?_
              refine g_ialoadN hx dL_isLight_62 (nx := 63) rfl h12 (by decide) (by omega) (by decide) (v := (-1)) ((eJ _ _ (by decide) (by decide) (by decide)).trans (e20.trans hv)) ?_
              refine g_if_lt hx dL_isLight_63 (tg := 87) (by decide) (nx := 66) rfl (fun c63 => ?_) (fun c63 => ?_)
              · have hp : prs I1 200 (12 * i) = false := by
                  cases hq : prs I1 200 (12 * i) with
                  | false => rfl
                  | true => exact absurd hv (hthr.mp hq).1
                refine g_iconst hx dL_isLight_87 (nx := 88) rfl (v := nI 0) (by decide) ?_
                refine g_istore_14 hx dL_isLight_88 (nx := 90) rfl (by decide) rfl ?_
                refine g_bipush hx dL_isLight_90 (nx := 92) rfl (v := nI 12) (by decide) ?_
                refine g_iloadG hx dL_isLight_92 (nx := 94) rfl rfl ?_
                refine g_imulN hx dL_isLight_94 (nx := 95) rfl  ?_
                refine g_iloadG_n hx dL_isLight_95 rfl (nx := 96) rfl rfl ?_
                refine g_iaddN hx dL_isLight_96 (nx := 97) rfl  ?_
                rw [Nat.add_zero]
                refine g_istore_15 hx dL_isLight_97 (nx := 99) rfl (by decide) rfl ?_
                refine g_iloadG hx dL_isLight_99 (nx := 101) rfl rfl ?_
                refine g_iloadG hx dL_isLight_101 (nx := 103) rfl rfl ?_
                refine g_if_eqN hx dL_isLight_103 (tg := 110) (by decide) (nx := 106) rfl (by omega) (fun c103 => ?_) (fun c103 => ?_)
                · refine g_iconst hx dL_isLight_110 (nx := 111) rfl (v := nI 0) (by decide) ?_
                  refine g_iaddN hx dL_isLight_111 (nx := 112) rfl  ?_
                  refine g_istore_5 hx dL_isLight_112 (nx := 114) rfl (by decide) rfl ?_
                  refine g_lloadG hx dL_isLight_114 (nx := 116) rfl rfl ?_
                  refine g_iloadG hx dL_isLight_116 (nx := 118) rfl rfl ?_
                  refine g_if_eqN hx dL_isLight_118 (tg := 133) (by decide) (nx := 121) rfl (by omega) (fun c118 => ?_) (fun c118 => ?_)
                  · refine g_lconst hx dL_isLight_133 (nx := 134) rfl (v := lN 0) (by decide) ?_
                    refine g_ladd hx dL_isLight_134 (nx := 135) rfl ?_
                    refine g_lstore_7 hx dL_isLight_135 (nx := 137) rfl (by decide) rfl ?_
                    refine g_iloadG hx dL_isLight_137 (nx := 139) rfl rfl ?_
                    refine g_if_eqN hx dL_isLight_139 (tg := 152) (by decide) (nx := 142) rfl (by omega) (fun c139 => ?_) (fun c139 => ?_)
                    · refine g_iloadG hx dL_isLight_152 (nx := 154) rfl rfl ?_
                      refine g_istore_9 hx dL_isLight_154 (nx := 156) rfl (by decide) rfl ?_
                      refine g_iloadG hx dL_isLight_156 (nx := 158) rfl rfl ?_
                      refine g_if_eqN hx dL_isLight_158 (tg := 166) (by decide) (nx := 161) rfl (by omega) (fun c158 => ?_) (fun c158 => ?_)
                      · refine g_iloadG hx dL_isLight_166 (nx := 168) rfl rfl ?_
                        refine g_istore_10 hx dL_isLight_168 (nx := 170) rfl (by decide) rfl ?_
                        refine g_aloadG_n hx dL_isLight_170 rfl (nx := 171) rfl rfl ?_
                        refine g_iloadG_n hx dL_isLight_171 rfl (nx := 172) rfl rfl ?_
                        refine g_iconst hx dL_isLight_172 (nx := 173) rfl (v := nI 0) (by decide) ?_
                        refine g_iloadG hx dL_isLight_173 (nx := 175) rfl rfl ?_
                        refine g_callV_M hx [_, _, _] (k' := 0) (n' := 0) dL_isLight_175 (nx := 178) rfl lk_L_74 (hX.1 0 _ rfl) (by decide) rfl rfl (Nat.le_of_ble_eq_true rfl) (Nat.le_of_ble_eq_true rfl) (Nat.le_of_ble_eq_true rfl) (Nat.le_of_ble_eq_true rfl) (Nat.le_of_ble_eq_true rfl) (Nat.le_of_ble_eq_true rfl) (Nat.le_of_ble_eq_true rfl) (lb_value hst hB eJ eM (by decide) (by omega) (fun J175 M175 e175 f175 => ?_))
                        rw [if_neg (by rw [hp]; decide), show (0 : Int64).toInt32 = nI 0 from by decide]
                        refine g_iloadG hx dL_isLight_178 (nx := 180) rfl rfl ?_
                        refine g_if_eqN hx dL_isLight_180 (tg := 194) (by decide) (nx := 183) rfl (by omega) (fun c180 => ?_) (fun c180 => ?_)
                        · refine g_iconst hx dL_isLight_194 (nx := 195) rfl (v := nI 0) (by decide) ?_
                          refine g_icmp_neN hx dL_isLight_195 (tg := 242) (by decide) (nx := 198) rfl (by omega) (by omega) (fun c195 => ?_) (fun c195 => ?_)
                          · exact absurd c195 (by omega)
                          · refine g_aloadG_n hx dL_isLight_198 rfl (nx := 199) rfl rfl ?_
                            refine g_iloadG_n hx dL_isLight_199 rfl (nx := 200) rfl rfl ?_
                            refine g_iconst hx dL_isLight_200 (nx := 201) rfl (v := nI 0) (by decide) ?_
                            refine g_iloadG hx dL_isLight_201 (nx := 203) rfl rfl ?_
                            refine g_iconst hx dL_isLight_203 (nx := 204) rfl (v := nI 5) (by decide) ?_
                            refine g_iaddN hx dL_isLight_204 (nx := 205) rfl  ?_
                            refine g_callV_M hx [_, _, _] (k' := 0) (n' := 0) dL_isLight_205 (nx := 208) rfl lk_L_74 (hX.1 0 _ rfl) (by decide) rfl rfl (Nat.le_of_ble_eq_true rfl) (Nat.le_of_ble_eq_true rfl) (Nat.le_of_ble_eq_true rfl) (Nat.le_of_ble_eq_true rfl) (Nat.le_of_ble_eq_true rfl) (Nat.le_of_ble_eq_true rfl) (Nat.le_of_ble_eq_true rfl) (lb_value hst hB e175 f175 (by decide) (by omega) (fun J205 M205 e205 f205 => ?_))
                            rw [if_neg (by rw [h5]; decide), show (0 : Int64).toInt32 = nI 0 from by decide]
                            refine g_if_neN hx dL_isLight_208 (tg := 242) (by decide) (nx := 211) rfl (by omega) (fun c208 => ?_) (fun c208 => ?_)
                            · exact absurd c208 (by omega)
                            · refine g_iloadG hx dL_isLight_211 (nx := 213) rfl rfl ?_
                              refine g_if_neN hx dL_isLight_213 (tg := 238) (by decide) (nx := 216) rfl (by omega) (fun c213 => ?_) (fun c213 => ?_)
                              · exact absurd c213 (by decide)
                              · refine g_aloadG_n hx dL_isLight_216 rfl (nx := 217) rfl rfl ?_
                                refine g_iloadG_n hx dL_isLight_217 rfl (nx := 218) rfl rfl ?_
                                refine g_iconst hx dL_isLight_218 (nx := 219) rfl (v := nI 1) (by decide) ?_
                                refine g_iloadG hx dL_isLight_219 (nx := 221) rfl rfl ?_
                                refine g_callV_M hx [_, _, _] (k' := 0) (n' := 0) dL_isLight_221 (nx := 224) rfl lk_L_74 (hX.1 0 _ rfl) (by decide) rfl rfl (Nat.le_of_ble_eq_true rfl) (Nat.le_of_ble_eq_true rfl) (Nat.le_of_ble_eq_true rfl) (Nat.le_of_ble_eq_true rfl) (Nat.le_of_ble_eq_true rfl) (Nat.le_of_ble_eq_true rfl) (Nat.le_of_ble_eq_true rfl) (lb_value hst hB e205 f205 (by decide) (by omega) (fun J221 M221 e221 f221 => ?_))
                                rw [if_neg (by rw [hp]; decide), show (0 : Int64).toInt32 = nI 0 from by decide]
                                refine g_if_neN hx dL_isLight_224 (tg := 242) (by decide) (nx := 227) rfl (by omega) (fun c224 => ?_) (fun c224 => ?_)
                                · exact absurd c224 (by omega)
                                · refine g_aloadG_n hx dL_isLight_227 rfl (nx := 228) rfl rfl ?_
                                  refine g_iloadG_n hx dL_isLight_228 rfl (nx := 229) rfl rfl ?_
                                  refine g_iconst hx dL_isLight_229 (nx := 230) rfl (v := nI 2) (by decide) ?_
                                  refine g_iloadG hx dL_isLight_230 (nx := 232) rfl rfl ?_
                                  refine g_callV_M hx [_, _, _] (k' := 0) (n' := 0) dL_isLight_232 (nx := 235) rfl lk_L_74 (hX.1 0 _ rfl) (by decide) rfl rfl (Nat.le_of_ble_eq_true rfl) (Nat.le_of_ble_eq_true rfl) (Nat.le_of_ble_eq_true rfl) (Nat.le_of_ble_eq_true rfl) (Nat.le_of_ble_eq_true rfl) (Nat.le_of_ble_eq_true rfl) (Nat.le_of_ble_eq_true rfl) (lb_value hst hB e221 f221 (by decide) (by omega) (fun J232 M232 e232 f232 => ?_))
                                  rw [if_neg (by rw [hp]; decide), show (0 : Int64).toInt32 = nI 0 from by decide]
                                  refine g_if_neN hx dL_isLight_235 (tg := 242) (by decide) (nx := 238) rfl (by omega) (fun c235 => ?_) (fun c235 => ?_)
                                  · exact absurd c235 (by omega)
                                  · refine g_iconst hx dL_isLight_238 (nx := 239) rfl (v := nI 1) (by decide) ?_
                                    refine g_goto hx dL_isLight_239 (tg := 243) (by decide) ?_
                                    refine g_istore_11 hx dL_isLight_243 (nx := 245) rfl (by decide) rfl ?_
                                    refine g_iincN_12 hx dL_isLight_245 (nx := 248) rfl (by decide) (b := 1) (by decide) rfl ?_
                                    refine g_goto hx dL_isLight_248 (tg := 34) (by decide) ?_
                                    have h12' := lF_12 hF1 (j := i) (by omega)
                                    have K9 := ih (i + 1) J232 M232 (.int (nI i)) (.int (nI 0)) (.int (nI (12 * i))) (by omega) e232 f232
                                    rw [h12'.1, if_neg (by rw [hp]; decide), h12'.2.1, h12'.2.2] at K9
                                    rw [show fsT (prs I1 200) (12 * i + 1) = fsT (prs I1 200) (12 * i) from by rw [fsT, hp]; rfl, show lsT (prs I1 200) (12 * i + 1) = lsT (prs I1 200) (12 * i) from by rw [lsT, hp]; rfl] at K9
                                    rw [show lsum (tl (prs I1 200) (12 * i)) (mnV (prs I1 200) (cts I1 200)) + lN 0 = lsum (tl (prs I1 200) (12 * i)) (mnV (prs I1 200) (cts I1 200)) from Int64.add_zero _]
                                    exact K9
                        · exact absurd c180 (by decide)
                      · exact absurd c158 (by decide)
                    · exact absurd c139 (by decide)
                  · exact absurd c118 (by decide)
                · exact absurd c103 (by decide)
              · exact absurd (by decide) c63
        · refine g_iloadG hx dL_isLight_34 (nx := 36) rfl rfl ?_
          refine g_bipush hx dL_isLight_36 (nx := 38) rfl (v := nI 20) (by decide) ?_
          refine g_icmp_geN hx dL_isLight_38 (tg := 251) (by decide) (nx := 41) rfl (by omega) (by omega) (fun c38 => ?_) (fun c38 => ?_)
          · exact absurd c38 (by omega)
          · refine g_iloadG hx dL_isLight_41 (nx := 43) rfl rfl ?_
            refine g_if_eqN hx dL_isLight_43 (tg := 251) (by decide) (nx := 46) rfl (by omega) (fun c43 => ?_) (fun c43 => ?_)
            · exact absurd c43 (by decide)
            · refine g_bipush hx dL_isLight_46 (nx := 48) rfl (v := nI 60) (by decide) ?_
              refine g_iloadG_n hx dL_isLight_48 rfl (nx := 49) rfl rfl ?_
              refine g_imulN hx dL_isLight_49 (nx := 50) rfl  ?_
              refine g_iloadG hx dL_isLight_50 (nx := 52) rfl rfl ?_
              refine g_iaddN hx dL_isLight_52 (nx := 53) rfl  ?_
              rw [show 60 * 0 + i = i from by omega]
              refine g_istore_13 hx dL_isLight_53 (nx := 55) rfl (by decide) rfl ?_
              refine g_aloadG hx dL_isLight_55 (nx := 57) rfl rfl ?_
              refine g_iloadG hx dL_isLight_57 (nx := 59) rfl rfl ?_
              refine g_bipush hx dL_isLight_59 (nx := 61) rfl (v := nI 20) (by decide) ?_
              refine g_iaddN hx dL_isLight_61 (nx := 62) rfl  ?_
              refine g_ialoadN hx dL_isLight_62 (nx := 63) rfl h12 (by decide) (by omega) (by decide) (v := nI v) ((eJ _ _ (by decide) (by decide) (by decide)).trans (e20.trans hv)) ?_
              refine g_if_ltN hx dL_isLight_63 (tg := 87) (by decide) (nx := 66) rfl (by omega) (fun c63 => ?_) (fun c63 => ?_)
              · exact absurd c63 (by omega)
              · refine g_aloadG_n hx dL_isLight_66 rfl (nx := 67) rfl rfl ?_
                refine g_iconst hx dL_isLight_67 (nx := 68) rfl (v := nI 3) (by decide) ?_
                refine g_ialoadN hx dL_isLight_68 (nx := 69) rfl h11 (by decide) (by omega) (by decide) (v := nI mk) ((eJ _ _ (by decide) (by decide) (by decide)).trans ((hJ1 11 3 (by omega)).trans hc3)) ?_
                refine g_aloadG hx dL_isLight_69 (nx := 71) rfl rfl ?_
                refine g_iloadG hx dL_isLight_71 (nx := 73) rfl rfl ?_
                refine g_bipush hx dL_isLight_73 (nx := 75) rfl (v := nI 40) (by decide) ?_
                refine g_iaddN hx dL_isLight_75 (nx := 76) rfl  ?_
                refine g_ialoadN hx dL_isLight_76 (nx := 77) rfl h12 (by decide) (by omega) (by decide) (v := nI s) ((eJ _ _ (by decide) (by decide) (by decide)).trans (e40.trans hs)) ?_
                refine g_ishr hx dL_isLight_77 (nx := 78) rfl ?_
                refine g_iconst hx dL_isLight_78 (nx := 79) rfl (v := nI 1) (by decide) ?_
                refine g_iand hx dL_isLight_79 (nx := 80) rfl ?_
                rw [msk (by have := hM.1; omega) hs4]
                refine g_if_neN hx dL_isLight_80 (tg := 87) (by decide) (nx := 83) rfl (by omega) (fun c80 => ?_) (fun c80 => ?_)
                · have hp : prs I1 200 (12 * i) = false := by
                    cases hq : prs I1 200 (12 * i) with
                    | false => rfl
                    | true => exact absurd (hthr.mp hq).2 c80
                  refine g_iconst hx dL_isLight_87 (nx := 88) rfl (v := nI 0) (by decide) ?_
                  refine g_istore_14 hx dL_isLight_88 (nx := 90) rfl (by decide) rfl ?_
                  refine g_bipush hx dL_isLight_90 (nx := 92) rfl (v := nI 12) (by decide) ?_
                  refine g_iloadG hx dL_isLight_92 (nx := 94) rfl rfl ?_
                  refine g_imulN hx dL_isLight_94 (nx := 95) rfl  ?_
                  refine g_iloadG_n hx dL_isLight_95 rfl (nx := 96) rfl rfl ?_
                  refine g_iaddN hx dL_isLight_96 (nx := 97) rfl  ?_
                  rw [Nat.add_zero]
                  refine g_istore_15 hx dL_isLight_97 (nx := 99) rfl (by decide) rfl ?_
                  refine g_iloadG hx dL_isLight_99 (nx := 101) rfl rfl ?_
                  refine g_iloadG hx dL_isLight_101 (nx := 103) rfl rfl ?_
                  refine g_if_eqN hx dL_isLight_103 (tg := 110) (by decide) (nx := 106) rfl (by omega) (fun c103 => ?_) (fun c103 => ?_)
                  · refine g_iconst hx dL_isLight_110 (nx := 111) rfl (v := nI 0) (by decide) ?_
                    refine g_iaddN hx dL_isLight_111 (nx := 112) rfl  ?_
                    refine g_istore_5 hx dL_isLight_112 (nx := 114) rfl (by decide) rfl ?_
                    refine g_lloadG hx dL_isLight_114 (nx := 116) rfl rfl ?_
                    refine g_iloadG hx dL_isLight_116 (nx := 118) rfl rfl ?_
                    refine g_if_eqN hx dL_isLight_118 (tg := 133) (by decide) (nx := 121) rfl (by omega) (fun c118 => ?_) (fun c118 => ?_)
                    · refine g_lconst hx dL_isLight_133 (nx := 134) rfl (v := lN 0) (by decide) ?_
                      refine g_ladd hx dL_isLight_134 (nx := 135) rfl ?_
                      refine g_lstore_7 hx dL_isLight_135 (nx := 137) rfl (by decide) rfl ?_
                      refine g_iloadG hx dL_isLight_137 (nx := 139) rfl rfl ?_
                      refine g_if_eqN hx dL_isLight_139 (tg := 152) (by decide) (nx := 142) rfl (by omega) (fun c139 => ?_) (fun c139 => ?_)
                      · refine g_iloadG hx dL_isLight_152 (nx := 154) rfl rfl ?_
                        refine g_istore_9 hx dL_isLight_154 (nx := 156) rfl (by decide) rfl ?_
                        refine g_iloadG hx dL_isLight_156 (nx := 158) rfl rfl ?_
                        refine g_if_eqN hx dL_isLight_158 (tg := 166) (by decide) (nx := 161) rfl (by omega) (fun c158 => ?_) (fun c158 => ?_)
                        · refine g_iloadG hx dL_isLight_166 (nx := 168) rfl rfl ?_
                          refine g_istore_10 hx dL_isLight_168 (nx := 170) rfl (by decide) rfl ?_
                          refine g_aloadG_n hx dL_isLight_170 rfl (nx := 171) rfl rfl ?_
                          refine g_iloadG_n hx dL_isLight_171 rfl (nx := 172) rfl rfl ?_
                          refine g_iconst hx dL_isLight_172 (nx := 173) rfl (v := nI 0) (by decide) ?_
                          refine g_iloadG hx dL_isLight_173 (nx := 175) rfl rfl ?_
                          refine g_callV_M hx [_, _, _] (k' := 0) (n' := 0) dL_isLight_175 (nx := 178) rfl lk_L_74 (hX.1 0 _ rfl) (by decide) rfl rfl (Nat.le_of_ble_eq_true rfl) (Nat.le_of_ble_eq_true rfl) (Nat.le_of_ble_eq_true rfl) (Nat.le_of_ble_eq_true rfl) (Nat.le_of_ble_eq_true rfl) (Nat.le_of_ble_eq_true rfl) (Nat.le_of_ble_eq_true rfl) (lb_value hst hB eJ eM (by decide) (by omega) (fun J175 M175 e175 f175 => ?_))
                          rw [if_neg (by rw [hp]; decide), show (0 : Int64).toInt32 = nI 0 from by decide]
                          refine g_iloadG hx dL_isLight_178 (nx := 180) rfl rfl ?_
                          refine g_if_eqN hx dL_isLight_180 (tg := 194) (by decide) (nx := 183) rfl (by omega) (fun c180 => ?_) (fun c180 => ?_)
                          · refine g_iconst hx dL_isLight_194 (nx := 195) rfl (v := nI 0) (by decide) ?_
                            refine g_icmp_neN hx dL_isLight_195 (tg := 242) (by decide) (nx := 198) rfl (by omega) (by omega) (fun c195 => ?_) (fun c195 => ?_)
                            · exact absurd c195 (by omega)
                            · refine g_aloadG_n hx dL_isLight_198 rfl (nx := 199) rfl rfl ?_
                              refine g_iloadG_n hx dL_isLight_199 rfl (nx := 200) rfl rfl ?_
                              refine g_iconst hx dL_isLight_200 (nx := 201) rfl (v := nI 0) (by decide) ?_
                              refine g_iloadG hx dL_isLight_201 (nx := 203) rfl rfl ?_
                              refine g_iconst hx dL_isLight_203 (nx := 204) rfl (v := nI 5) (by decide) ?_
                              refine g_iaddN hx dL_isLight_204 (nx := 205) rfl  ?_
                              refine g_callV_M hx [_, _, _] (k' := 0) (n' := 0) dL_isLight_205 (nx := 208) rfl lk_L_74 (hX.1 0 _ rfl) (by decide) rfl rfl (Nat.le_of_ble_eq_true rfl) (Nat.le_of_ble_eq_true rfl) (Nat.le_of_ble_eq_true rfl) (Nat.le_of_ble_eq_true rfl) (Nat.le_of_ble_eq_true rfl) (Nat.le_of_ble_eq_true rfl) (Nat.le_of_ble_eq_true rfl) (lb_value hst hB e175 f175 (by decide) (by omega) (fun J205 M205 e205 f205 => ?_))
                              rw [if_neg (by rw [h5]; decide), show (0 : Int64).toInt32 = nI 0 from by decide]
                              refine g_if_neN hx dL_isLight_208 (tg := 242) (by decide) (nx := 211) rfl (by omega) (fun c208 => ?_) (fun c208 => ?_)
                              · exact absurd c208 (by omega)
                              · refine g_iloadG hx dL_isLight_211 (nx := 213) rfl rfl ?_
                                refine g_if_neN hx dL_isLight_213 (tg := 238) (by decide) (nx := 216) rfl (by omega) (fun c213 => ?_) (fun c213 => ?_)
                                · exact absurd c213 (by decide)
                                · refine g_aloadG_n hx dL_isLight_216 rfl (nx := 217) rfl rfl ?_
                                  refine g_iloadG_n hx dL_isLight_217 rfl (nx := 218) rfl rfl ?_
                                  refine g_iconst hx dL_isLight_218 (nx := 219) rfl (v := nI 1) (by decide) ?_
                                  refine g_iloadG hx dL_isLight_219 (nx := 221) rfl rfl ?_
                                  refine g_callV_M hx [_, _, _] (k' := 0) (n' := 0) dL_isLight_221 (nx := 224) rfl lk_L_74 (hX.1 0 _ rfl) (by decide) rfl rfl (Nat.le_of_ble_eq_true rfl) (Nat.le_of_ble_eq_true rfl) (Nat.le_of_ble_eq_true rfl) (Nat.le_of_ble_eq_true rfl) (Nat.le_of_ble_eq_true rfl) (Nat.le_of_ble_eq_true rfl) (Nat.le_of_ble_eq_true rfl) (lb_value hst hB e205 f205 (by decide) (by omega) (fun J221 M221 e221 f221 => ?_))
                                  rw [if_neg (by rw [hp]; decide), show (0 : Int64).toInt32 = nI 0 from by decide]
                                  refine g_if_neN hx dL_isLight_224 (tg := 242) (by decide) (nx := 227) rfl (by omega) (fun c224 => ?_) (fun c224 => ?_)
                                  · exact absurd c224 (by omega)
                                  · refine g_aloadG_n hx dL_isLight_227 rfl (nx := 228) rfl rfl ?_
                                    refine g_iloadG_n hx dL_isLight_228 rfl (nx := 229) rfl rfl ?_
                                    refine g_iconst hx dL_isLight_229 (nx := 230) rfl (v := nI 2) (by decide) ?_
                                    refine g_iloadG hx dL_isLight_230 (nx := 232) rfl rfl ?_
                                    refine g_callV_M hx [_, _, _] (k' := 0) (n' := 0) dL_isLight_232 (nx := 235) rfl lk_L_74 (hX.1 0 _ rfl) (by decide) rfl rfl (Nat.le_of_ble_eq_true rfl) (Nat.le_of_ble_eq_true rfl) (Nat.le_of_ble_eq_true rfl) (Nat.le_of_ble_eq_true rfl) (Nat.le_of_ble_eq_true rfl) (Nat.le_of_ble_eq_true rfl) (Nat.le_of_ble_eq_true rfl) (lb_value hst hB e221 f221 (by decide) (by omega) (fun J232 M232 e232 f232 => ?_))
                                    rw [if_neg (by rw [hp]; decide), show (0 : Int64).toInt32 = nI 0 from by decide]
                                    refine g_if_neN hx dL_isLight_235 (tg := 242) (by decide) (nx := 238) rfl (by omega) (fun c235 => ?_) (fun c235 => ?_)
                                    · exact absurd c235 (by omega)
                                    · refine g_iconst hx dL_isLight_238 (nx := 239) rfl (v := nI 1) (by decide) ?_
                                      refine g_goto hx dL_isLight_239 (tg := 243) (by decide) ?_
                                      refine g_istore_11 hx dL_isLight_243 (nx := 245) rfl (by decide) rfl ?_
                                      refine g_iincN_12 hx dL_isLight_245 (nx := 248) rfl (by decide) (b := 1) (by decide) rfl ?_
                                      refine g_goto hx dL_isLight_248 (tg := 34) (by decide) ?_
                                      have h12' := lF_12 hF1 (j := i) (by omega)
                                      have K9 := ih (i + 1) J232 M232 (.int (nI i)) (.int (nI 0)) (.int (nI (12 * i))) (by omega) e232 f232
                                      rw [h12'.1, if_neg (by rw [hp]; decide), h12'.2.1, h12'.2.2] at K9
                                      rw [show fsT (prs I1 200) (12 * i + 1) = fsT (prs I1 200) (12 * i) from by rw [fsT, hp]; rfl, show lsT (prs I1 200) (12 * i + 1) = lsT (prs I1 200) (12 * i) from by rw [lsT, hp]; rfl] at K9
                                      rw [show lsum (tl (prs I1 200) (12 * i)) (mnV (prs I1 200) (cts I1 200)) + lN 0 = lsum (tl (prs I1 200) (12 * i)) (mnV (prs I1 200) (cts I1 200)) from Int64.add_zero _]
                                      exact K9
                          · exact absurd c180 (by decide)
                        · exact absurd c158 (by decide)
                      · exact absurd c139 (by decide)
                    · exact absurd c118 (by decide)
                  · exact absurd c103 (by decide)
                · have hp : prs I1 200 (12 * i) = true := hthr.mpr ⟨by rw [hv]; exact nI_m1 (by omega), c80⟩
                  refine g_iconst hx dL_isLight_83 (nx := 84) rfl (v := nI 1) (by decide) ?_
                  refine g_goto hx dL_isLight_84 (tg := 88) (by decide) ?_
                  refine g_istore_14 hx dL_isLight_88 (nx := 90) rfl (by decide) rfl ?_
                  refine g_bipush hx dL_isLight_90 (nx := 92) rfl (v := nI 12) (by decide) ?_
                  refine g_iloadG hx dL_isLight_92 (nx := 94) rfl rfl ?_
                  refine g_imulN hx dL_isLight_94 (nx := 95) rfl  ?_
                  refine g_iloadG_n hx dL_isLight_95 rfl (nx := 96) rfl rfl ?_
                  refine g_iaddN hx dL_isLight_96 (nx := 97) rfl  ?_
                  rw [Nat.add_zero]
                  refine g_istore_15 hx dL_isLight_97 (nx := 99) rfl (by decide) rfl ?_
                  refine g_iloadG hx dL_isLight_99 (nx := 101) rfl rfl ?_
                  refine g_iloadG hx dL_isLight_101 (nx := 103) rfl rfl ?_
                  refine g_if_eqN hx dL_isLight_103 (tg := 110) (by decide) (nx := 106) rfl (by omega) (fun c103 => ?_) (fun c103 => ?_)
                  · exact absurd c103 (by decide)
                  · refine g_iconst hx dL_isLight_106 (nx := 107) rfl (v := nI 1) (by decide) ?_
                    refine g_goto hx dL_isLight_107 (tg := 111) (by decide) ?_
                    refine g_iaddN hx dL_isLight_111 (nx := 112) rfl  ?_
                    refine g_istore_5 hx dL_isLight_112 (nx := 114) rfl (by decide) rfl ?_
                    refine g_lloadG hx dL_isLight_114 (nx := 116) rfl rfl ?_
                    refine g_iloadG hx dL_isLight_116 (nx := 118) rfl rfl ?_
                    refine g_if_eqN hx dL_isLight_118 (tg := 133) (by decide) (nx := 121) rfl (by omega) (fun c118 => ?_) (fun c118 => ?_)
                    · exact absurd c118 (by decide)
                    · refine g_aloadG_n hx dL_isLight_121 rfl (nx := 122) rfl rfl ?_
                      refine g_iloadG_n hx dL_isLight_122 rfl (nx := 123) rfl rfl ?_
                      refine g_iconst hx dL_isLight_123 (nx := 124) rfl (v := nI 1) (by decide) ?_
                      refine g_iloadG hx dL_isLight_124 (nx := 126) rfl rfl ?_
                      refine g_callV_M hx [_, _, _] (k' := 0) (n' := 0) dL_isLight_126 (nx := 129) rfl lk_L_74 (hX.1 0 _ rfl) (by decide) rfl rfl (Nat.le_of_ble_eq_true rfl) (Nat.le_of_ble_eq_true rfl) (Nat.le_of_ble_eq_true rfl) (Nat.le_of_ble_eq_true rfl) (Nat.le_of_ble_eq_true rfl) (Nat.le_of_ble_eq_true rfl) (Nat.le_of_ble_eq_true rfl) (lb_value hst hB eJ eM (by decide) (by omega) (fun J126 M126 e126 f126 => ?_))
                      rw [if_pos hp]
                      rw [show laid I1 200 (nI 1) 0 (12 * i) = mnV (prs I1 200) (cts I1 200) (12 * i) from rfl]
                      refine g_i2l hx dL_isLight_129 (nx := 130) rfl ?_
                      rw [l2i2l (by have := (mnV_b hF1 (by omega) hp).2; omega) (by have := (mnV_b hF1 (by omega) hp).2; omega)]
                      refine g_goto hx dL_isLight_130 (tg := 134) (by decide) ?_
                      refine g_ladd hx dL_isLight_134 (nx := 135) rfl ?_
                      refine g_lstore_7 hx dL_isLight_135 (nx := 137) rfl (by decide) rfl ?_
                      refine g_iloadG hx dL_isLight_137 (nx := 139) rfl rfl ?_
                      refine g_if_eqN hx dL_isLight_139 (tg := 152) (by decide) (nx := 142) rfl (by omega) (fun c139 => ?_) (fun c139 => ?_)
                      · exact absurd c139 (by decide)
                      · refine g_iloadG hx dL_isLight_142 (nx := 144) rfl rfl ?_
                        refine g_if_ge hx dL_isLight_144 (tg := 152) (by decide) (nx := 147) rfl (fun c144 => ?_) (fun c144 => ?_)
                        · have hm1 : ¬ fsT (prs I1 200) (12 * i) = -1 := fun z => by rw [z] at c144; exact absurd c144 (by decide)
                          refine g_iloadG hx dL_isLight_152 (nx := 154) rfl rfl ?_
                          refine g_istore_9 hx dL_isLight_154 (nx := 156) rfl (by decide) rfl ?_
                          refine g_iloadG hx dL_isLight_156 (nx := 158) rfl rfl ?_
                          refine g_if_eqN hx dL_isLight_158 (tg := 166) (by decide) (nx := 161) rfl (by omega) (fun c158 => ?_) (fun c158 => ?_)
                          · exact absurd c158 (by decide)
                          · refine g_iloadG hx dL_isLight_161 (nx := 163) rfl rfl ?_
                            refine g_goto hx dL_isLight_163 (tg := 168) (by decide) ?_
                            refine g_istore_10 hx dL_isLight_168 (nx := 170) rfl (by decide) rfl ?_
                            refine g_aloadG_n hx dL_isLight_170 rfl (nx := 171) rfl rfl ?_
                            refine g_iloadG_n hx dL_isLight_171 rfl (nx := 172) rfl rfl ?_
                            refine g_iconst hx dL_isLight_172 (nx := 173) rfl (v := nI 0) (by decide) ?_
                            refine g_iloadG hx dL_isLight_173 (nx := 175) rfl rfl ?_
                            refine g_callV_M hx [_, _, _] (k' := 0) (n' := 0) dL_isLight_175 (nx := 178) rfl lk_L_74 (hX.1 0 _ rfl) (by decide) rfl rfl (Nat.le_of_ble_eq_true rfl) (Nat.le_of_ble_eq_true rfl) (Nat.le_of_ble_eq_true rfl) (Nat.le_of_ble_eq_true rfl) (Nat.le_of_ble_eq_true rfl) (Nat.le_of_ble_eq_true rfl) (Nat.le_of_ble_eq_true rfl) (lb_value hst hB e126 f126 (by decide) (by omega) (fun J175 M175 e175 f175 => ?_))
                            rw [if_pos hp, show laid I1 200 (nI 0) 0 (12 * i) = (I1 204 (12 * i)).toInt64 from rfl, i2l2i, hv]
                            refine g_iloadG hx dL_isLight_178 (nx := 180) rfl rfl ?_
                            refine g_if_eqN hx dL_isLight_180 (tg := 194) (by decide) (nx := 183) rfl (by omega) (fun c180 => ?_) (fun c180 => ?_)
                            · exact absurd c180 (by decide)
                            · refine g_aloadG hx dL_isLight_183 (nx := 185) rfl rfl ?_
                              refine g_iloadG hx dL_isLight_185 (nx := 187) rfl rfl ?_
                              refine g_bipush hx dL_isLight_187 (nx := 189) rfl (v := nI 20) (by decide) ?_
                              refine g_iaddN hx dL_isLight_189 (nx := 190) rfl  ?_
                              refine g_ialoadN hx dL_isLight_190 (nx := 191) rfl h12 (by decide) (by omega) (by decide) (v := nI v) ((e175 _ _ (by decide) (by decide) (by decide)).trans (e20.trans hv)) ?_
                              refine g_goto hx dL_isLight_191 (tg := 195) (by decide) ?_
                              refine g_icmp_neN hx dL_isLight_195 (tg := 242) (by decide) (nx := 198) rfl (by omega) (by omega) (fun c195 => ?_) (fun c195 => ?_)
                              · exact absurd c195 (by omega)
                              · refine g_aloadG_n hx dL_isLight_198 rfl (nx := 199) rfl rfl ?_
                                refine g_iloadG_n hx dL_isLight_199 rfl (nx := 200) rfl rfl ?_
                                refine g_iconst hx dL_isLight_200 (nx := 201) rfl (v := nI 0) (by decide) ?_
                                refine g_iloadG hx dL_isLight_201 (nx := 203) rfl rfl ?_
                                refine g_iconst hx dL_isLight_203 (nx := 204) rfl (v := nI 5) (by decide) ?_
                                refine g_iaddN hx dL_isLight_204 (nx := 205) rfl  ?_
                                refine g_callV_M hx [_, _, _] (k' := 0) (n' := 0) dL_isLight_205 (nx := 208) rfl lk_L_74 (hX.1 0 _ rfl) (by decide) rfl rfl (Nat.le_of_ble_eq_true rfl) (Nat.le_of_ble_eq_true rfl) (Nat.le_of_ble_eq_true rfl) (Nat.le_of_ble_eq_true rfl) (Nat.le_of_ble_eq_true rfl) (Nat.le_of_ble_eq_true rfl) (Nat.le_of_ble_eq_true rfl) (lb_value hst hB e175 f175 (by decide) (by omega) (fun J205 M205 e205 f205 => ?_))
                                rw [if_neg (by rw [h5]; decide), show (0 : Int64).toInt32 = nI 0 from by decide]
                                refine g_if_neN hx dL_isLight_208 (tg := 242) (by decide) (nx := 211) rfl (by omega) (fun c208 => ?_) (fun c208 => ?_)
                                · exact absurd c208 (by omega)
                                · refine g_iloadG hx dL_isLight_211 (nx := 213) rfl rfl ?_
                                  refine g_if_neN hx dL_isLight_213 (tg := 238) (by decide) (nx := 216) rfl (by omega) (fun c213 => ?_) (fun c213 => ?_)
                                  · refine g_iconst hx dL_isLight_238 (nx := 239) rfl (v := nI 1) (by decide) ?_
                                    refine g_goto hx dL_isLight_239 (tg := 243) (by decide) ?_
                                    refine g_istore_11 hx dL_isLight_243 (nx := 245) rfl (by decide) rfl ?_
                                    refine g_iincN_12 hx dL_isLight_245 (nx := 248) rfl (by decide) (b := 1) (by decide) rfl ?_
                                    refine g_goto hx dL_isLight_248 (tg := 34) (by decide) ?_
                                    have h12' := lF_12 hF1 (j := i) (by omega)
                                    have K9 := ih (i + 1) J205 M205 (.int (nI i)) (.int (nI 1)) (.int (nI (12 * i))) (by omega) e205 f205
                                    rw [h12'.1, if_pos hp, List.length_append, lsum_snoc, h12'.2.1, h12'.2.2] at K9
                                    rw [show fsT (prs I1 200) (12 * i + 1) = fsT (prs I1 200) (12 * i) from by
                                      rw [fsT, if_pos hp]
                                      exact if_neg hm1, show lsT (prs I1 200) (12 * i + 1) = nI (12 * i) from by rw [lsT, if_pos hp]] at K9
                                    exact K9
                                  · exact absurd c213 (by decide)
                        · have hm1 : fsT (prs I1 200) (12 * i) = -1 := by
                            rcases fsT_c (q := prs I1 200) (12 * i) (by omega) with z | ⟨t9, z1, z2⟩
                            · exact z
                            · rw [z2] at c144; exact absurd (nI_pos' (by omega)) c144
                          refine g_iloadG hx dL_isLight_147 (nx := 149) rfl rfl ?_
                          refine g_goto hx dL_isLight_149 (tg := 154) (by decide) ?_
                          refine g_istore_9 hx dL_isLight_154 (nx := 156) rfl (by decide) rfl ?_
                          refine g_iloadG hx dL_isLight_156 (nx := 158) rfl rfl ?_
                          refine g_if_eqN hx dL_isLight_158 (tg := 166) (by decide) (nx := 161) rfl (by omega) (fun c158 => ?_) (fun c158 => ?_)
                          · exact absurd c158 (by decide)
                          · refine g_iloadG hx dL_isLight_161 (nx := 163) rfl rfl ?_
                            refine g_goto hx dL_isLight_163 (tg := 168) (by decide) ?_
                            refine g_istore_10 hx dL_isLight_168 (nx := 170) rfl (by decide) rfl ?_
                            refine g_aloadG_n hx dL_isLight_170 rfl (nx := 171) rfl rfl ?_
                            refine g_iloadG_n hx dL_isLight_171 rfl (nx := 172) rfl rfl ?_
                            refine g_iconst hx dL_isLight_172 (nx := 173) rfl (v := nI 0) (by decide) ?_
                            refine g_iloadG hx dL_isLight_173 (nx := 175) rfl rfl ?_
                            refine g_callV_M hx [_, _, _] (k' := 0) (n' := 0) dL_isLight_175 (nx := 178) rfl lk_L_74 (hX.1 0 _ rfl) (by decide) rfl rfl (Nat.le_of_ble_eq_true rfl) (Nat.le_of_ble_eq_true rfl) (Nat.le_of_ble_eq_true rfl) (Nat.le_of_ble_eq_true rfl) (Nat.le_of_ble_eq_true rfl) (Nat.le_of_ble_eq_true rfl) (Nat.le_of_ble_eq_true rfl) (lb_value hst hB e126 f126 (by decide) (by omega) (fun J175 M175 e175 f175 => ?_))
                            rw [if_pos hp, show laid I1 200 (nI 0) 0 (12 * i) = (I1 204 (12 * i)).toInt64 from rfl, i2l2i, hv]
                            refine g_iloadG hx dL_isLight_178 (nx := 180) rfl rfl ?_
                            refine g_if_eqN hx dL_isLight_180 (tg := 194) (by decide) (nx := 183) rfl (by omega) (fun c180 => ?_) (fun c180 => ?_)
                            · exact absurd c180 (by decide)
                            · refine g_aloadG hx dL_isLight_183 (nx := 185) rfl rfl ?_
                              refine g_iloadG hx dL_isLight_185 (nx := 187) rfl rfl ?_
                              refine g_bipush hx dL_isLight_187 (nx := 189) rfl (v := nI 20) (by decide) ?_
                              refine g_iaddN hx dL_isLight_189 (nx := 190) rfl  ?_
                              refine g_ialoadN hx dL_isLight_190 (nx := 191) rfl h12 (by decide) (by omega) (by decide) (v := nI v) ((e175 _ _ (by decide) (by decide) (by decide)).trans (e20.trans hv)) ?_
                              refine g_goto hx dL_isLight_191 (tg := 195) (by decide) ?_
                              refine g_icmp_neN hx dL_isLight_195 (tg := 242) (by decide) (nx := 198) rfl (by omega) (by omega) (fun c195 => ?_) (fun c195 => ?_)
                              · exact absurd c195 (by omega)
                              · refine g_aloadG_n hx dL_isLight_198 rfl (nx := 199) rfl rfl ?_
                                refine g_iloadG_n hx dL_isLight_199 rfl (nx := 200) rfl rfl ?_
                                refine g_iconst hx dL_isLight_200 (nx := 201) rfl (v := nI 0) (by decide) ?_
                                refine g_iloadG hx dL_isLight_201 (nx := 203) rfl rfl ?_
                                refine g_iconst hx dL_isLight_203 (nx := 204) rfl (v := nI 5) (by decide) ?_
                                refine g_iaddN hx dL_isLight_204 (nx := 205) rfl  ?_
                                refine g_callV_M hx [_, _, _] (k' := 0) (n' := 0) dL_isLight_205 (nx := 208) rfl lk_L_74 (hX.1 0 _ rfl) (by decide) rfl rfl (Nat.le_of_ble_eq_true rfl) (Nat.le_of_ble_eq_true rfl) (Nat.le_of_ble_eq_true rfl) (Nat.le_of_ble_eq_true rfl) (Nat.le_of_ble_eq_true rfl) (Nat.le_of_ble_eq_true rfl) (Nat.le_of_ble_eq_true rfl) (lb_value hst hB e175 f175 (by decide) (by omega) (fun J205 M205 e205 f205 => ?_))
                                rw [if_neg (by rw [h5]; decide), show (0 : Int64).toInt32 = nI 0 from by decide]
                                refine g_if_neN hx dL_isLight_208 (tg := 242) (by decide) (nx := 211) rfl (by omega) (fun c208 => ?_) (fun c208 => ?_)
                                · exact absurd c208 (by omega)
                                · refine g_iloadG hx dL_isLight_211 (nx := 213) rfl rfl ?_
                                  refine g_if_neN hx dL_isLight_213 (tg := 238) (by decide) (nx := 216) rfl (by omega) (fun c213 => ?_) (fun c213 => ?_)
                                  · refine g_iconst hx dL_isLight_238 (nx := 239) rfl (v := nI 1) (by decide) ?_
                                    refine g_goto hx dL_isLight_239 (tg := 243) (by decide) ?_
                                    refine g_istore_11 hx dL_isLight_243 (nx := 245) rfl (by decide) rfl ?_
                                    refine g_iincN_12 hx dL_isLight_245 (nx := 248) rfl (by decide) (b := 1) (by decide) rfl ?_
                                    refine g_goto hx dL_isLight_248 (tg := 34) (by decide) ?_
                                    have h12' := lF_12 hF1 (j := i) (by omega)
                                    have K9 := ih (i + 1) J205 M205 (.int (nI i)) (.int (nI 1)) (.int (nI (12 * i))) (by omega) e205 f205
                                    rw [h12'.1, if_pos hp, List.length_append, lsum_snoc, h12'.2.1, h12'.2.2] at K9
                                    rw [show fsT (prs I1 200) (12 * i + 1) = nI (12 * i) from by
                                      rw [fsT, if_pos hp]
                                      exact if_pos hm1, show lsT (prs I1 200) (12 * i + 1) = nI (12 * i) from by rw [lsT, if_pos hp]] at K9
                                    exact K9
                                  · exact absurd c213 (by decide)
    exact loop1 20 0 I1 L _ _ _ (Nat.zero_add _) (eqX.refl I1) (eqX.refl L)

