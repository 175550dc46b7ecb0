/-! the class: claims that cite, that fall -/
def agB (la : Nat → Int32) (x : Int32) : Nat → Nat
  | 0 => 0
  | k + 1 => if k = 0 then 0 else if iabs (la k - x) < iabs (la (agB la x k) - x) then k else agB la x k
def agN (la ag : Nat → Int32) (x : Int32) (n : Nat) : Int32 := if n = 0 then -1 else ag (agB la x n)
theorem agB_lt (la : Nat → Int32) (x : Int32) : ∀ n, 0 < n → agB la x n < n := by
  intro n
  induction n with
  | zero => intro h; omega
  | succ n ih =>
    intro _
    rw [agB]
    split
    · omega
    · have := ih (by omega)
      split <;> omega
abbrev goP (nm : Int64) (ci : Nat → Int64) (g : Int64) (k : Nat) : Prop := nm &&& bitL (nI k) ≠ 0 ∨ ci k &&& g ≠ 0
def gnS (nm : Int64) (ci : Nat → Int64) (sd : Nat → Int32) : Nat → Int64
  | 0 => 0
  | k + 1 => if sd k ≠ 0 ∧ goP nm ci (gnS nm ci sd k) k then gnS nm ci sd k ||| bitL (nI k) else gnS nm ci sd k
/-- a claim would be kept for its own sake -/
def hlP (I : aI) (L : aL) (c b m : Nat) : Prop := (I c 0 = 0 → pw (prs I b) (laid I b (I c 3) m) (I c 2) = L c 5) ∧ (I c 0 = 2 → ¬ nearS I b (40000 * I c 2))
noncomputable def usS (hl : Nat → Prop) (sd : Nat → Int32) : Nat → Int64
  | 0 => 0
  | k + 1 => if sd k ≠ 0 ∧ zI (hl k) = 0 then usS hl sd k ||| bitL (nI k) else usS hl sd k
theorem prs_x {I J : aI} {b : Nat} (h : eqX J I) (hb : 100 ≤ b) : prs J b = prs I b := by
  funext t
  simp only [prs]
  rw [h (b + 4) t (by omega) (by omega) (by omega), h (b + 5) t (by omega) (by omega) (by omega), h 5 _ (by decide) (by decide) (by decide)]
theorem cts_x {I J : aI} {b : Nat} (h : eqX J I) (hb : 100 ≤ b) : cts J b = cts I b := by
  funext t
  simp only [cts]
  rw [h (b + 4) t (by omega) (by omega) (by omega)]
theorem laid_x {I J : aI} {b : Nat} (h : eqX J I) (hb : 100 ≤ b) (x : Int32) (k : Nat) : laid J b x k = laid I b x k := by
  have e : (fun i => J (b + 6) i) = fun i => I (b + 6) i := funext fun i => h _ _ (by omega) (by omega) (by omega)
  simp only [laid]
  rw [prs_x h hb, cts_x h hb, e]
theorem near_x {I J : aI} {b : Nat} (h : eqX J I) (hb : 100 ≤ b) (x : Int32) : nearS J b x ↔ nearS I b x := by
  simp only [nearS, rgS]
  rw [h b 6 (by omega) (by omega) (by omega), h b 7 (by omega) (by omega) (by omega), h b 8 (by omega) (by omega) (by omega), h b 9 (by omega) (by omega) (by omega)]
theorem hlP_x {I J : aI} {L M : aL} {c b m : Nat} (h : eqX J I) (hL : eqX M L) (hb : 100 ≤ b) (hc : 100 ≤ c) : hlP J M c b m ↔ hlP I L c b m := by
  simp only [hlP]
  rw [h c 0 (by omega) (by omega) (by omega), h c 2 (by omega) (by omega) (by omega), h c 3 (by omega) (by omega) (by omega), hL c 5 (by omega) (by omega) (by omega), prs_x h hb, laid_x h hb, near_x h hb]
abbrev rmX3_ageOfNearest : Room := { frames := 2, cells := 0, slots := 0, locals := 41 }
set_option maxHeartbeats 4000000 in
set_option maxRecDepth 100000 in
theorem s_X3_ageOfNearest {l : Launch} {E : aE} {S : aS} {I : aI} {L : aL} {Rf : aR} {Kr : aK} {Kx : aX} (hst : l.stackTraces = false) {n : Nat} {x : Int32} (hX : lyX S Rf) (h1 : I 3 1 = nI n) (hn6 : n ≤ 6) (h4 : ∀ k, k < n → Rf 4 k = some (200 + 8 * k) ∧ lyS S Rf (200 + 8 * k)) (hk : Kr (some (.int (agN (fun k => I (200 + 8 * k) 6) (fun k => I (200 + 8 * k) 4) x n))) S I L Rf) : aMet l E yX3_ageOfNearest cX3_ageOfNearest 5 (some .int) rmX3_ageOfNearest [.ref 3, .int x] (S) (I) (L) (Rf) Kr Kx := by
  refine aMet.of (lv0 := [.ref 3, .int x, aU, aU, aU]) (z := 3) (by decide +kernel) hst rfl (Nat.le_of_ble_eq_true rfl) ?_
  intro p e s m args below meth c io0 hx hin hno
  have hx : aCx p l s m args meth c RX3 cX3_ageOfNearest 5 (some .int) E := hx
  have loop1 : ∀ (r i : Nat) , i + r = n → 0 < i → ∀ w, aG p l e rmX3_ageOfNearest s m args below meth c E io0 S 5 (vx_MQ below (aQc E io0 S Kr) (aXC E io0 S Kx) args s rmX3_ageOfNearest.cells rmX3_ageOfNearest.slots (aW E)) 4 [.ref 3, .int x, .ref (200 + 8 * agB (fun k => I (200 + 8 * k) 6) x i), .int (nI i), w] [] (S) (I) (L) (Rf) 0 0 := by
    intro r
    induction r with
    | zero =>
      intro i hi h0 w
      have hi : i = n := by omega
      have hlt := agB_lt (fun k => I (200 + 8 * k) 6) x i (by omega)
      obtain ⟨c, hce⟩ : ∃ c, c = 200 + 8 * agB (fun k => I (200 + 8 * k) 6) x i := ⟨_, rfl⟩
      rw [← hce]
      have hCc : lyS S Rf c := by rw [hce]; exact (h4 _ (by omega)).2
      have hc := hCc.2.2
      rw [hi] at hce
      refine g_iloadG_n hx dX3_ageOfNearest_4 rfl (nx := 5) rfl rfl ?_
      refine g_aloadG_n hx dX3_ageOfNearest_5 rfl (nx := 6) rfl rfl ?_
      refine g_getfo_i hx dX3_ageOfNearest_6 (nx := 9) rfl fa_X3_66 rfl (hX.1 0 _ rfl) (by decide) ?_
      refine g_icmp_ge hx dX3_ageOfNearest_9 (tg := 52) (by decide) (nx := 12) rfl (fun c9 => ?_) (fun c9 => ?_)
      · refine g_aloadG_n hx dX3_ageOfNearest_52 rfl (nx := 53) rfl rfl ?_
        refine g_ifnonnull_R hx dX3_ageOfNearest_53 (tg := 60) (by decide) (nx := 56) rfl ?_
        refine g_aloadG_n hx dX3_ageOfNearest_60 rfl (nx := 61) rfl rfl ?_
        refine g_getfn_i hx dX3_ageOfNearest_61 (nx := 64) rfl fa_X3_205 rfl (lyS.ob hCc) (by omega) ?_
        refine g_iret hx dX3_ageOfNearest_64 rfl rfl (Nat.le_of_ble_eq_true rfl) (Nat.le_of_ble_eq_true rfl) ?_
        rw [agN, if_neg (by omega)] at hk
        rw [hce]; exact hk
      · exact absurd (by rw [h1, hi]; exact Int32.le_refl _) c9
    | succ r ih =>
      intro i hi h0 w
      have hn : (nI i).toNatClampNeg = i := nI_clamp (by omega)
      obtain ⟨b, hbe⟩ : ∃ b, b = 200 + 8 * i := ⟨_, rfl⟩
      have hB : lyS S Rf b := by rw [hbe]; exact (h4 i (by omega)).2
      have hb := hB.2.2
      have hr4 : Rf 4 (nI i).toNatClampNeg = some b := by rw [hn, hbe]; exact (h4 i (by omega)).1
      have hin : vp_in (nI i) 6 := vp_in_nI (by omega) (by decide)
      have hlt := agB_lt (fun k => I (200 + 8 * k) 6) x i (by omega)
      obtain ⟨c, hce⟩ : ∃ c, c = 200 + 8 * agB (fun k => I (200 + 8 * k) 6) x i := ⟨_, rfl⟩
      rw [← hce]
      have hCc : lyS S Rf c := by rw [hce]; exact (h4 _ (by omega)).2
      have hc := hCc.2.2
      refine g_iloadG_n hx dX3_ageOfNearest_4 rfl (nx := 5) rfl rfl ?_
      refine g_aloadG_n hx dX3_ageOfNearest_5 rfl (nx := 6) rfl rfl ?_
      refine g_getfo_i hx dX3_ageOfNearest_6 (nx := 9) rfl fa_X3_66 rfl (hX.1 0 _ rfl) (by decide) ?_
      refine g_icmp_ge hx dX3_ageOfNearest_9 (tg := 52) (by decide) (nx := 12) rfl (fun c9 => ?_) (fun c9 => ?_)
      · exact absurd c9 (by rw [h1]; exact nI_ge (by omega) (by omega))
      · refine g_aloadG_n hx dX3_ageOfNearest_12 rfl (nx := 13) rfl rfl ?_
        refine g_getfo_R hx dX3_ageOfNearest_13 (nx := 16) rfl fa_X3_11 rfl (r9 := 4) hX.2.1 (hX.1 0 _ rfl) (by decide) ?_
        refine g_iloadG_n hx dX3_ageOfNearest_16 rfl (nx := 17) rfl rfl ?_
        refine g_aaloadStar_R hx dX3_ageOfNearest_17 (nx := 18) rfl (hX.1 1 _ rfl) (by decide) hin (r9 := b) hr4 ?_
        refine g_astore_4 hx dX3_ageOfNearest_18 (nx := 20) rfl (by decide) rfl ?_
        refine g_aloadG hx dX3_ageOfNearest_20 (nx := 22) rfl rfl ?_
        refine g_ifnull_R hx dX3_ageOfNearest_22 (tg := 46) (by decide) (nx := 25) rfl ?_
        refine g_aloadG_n hx dX3_ageOfNearest_25 rfl (nx := 26) rfl rfl ?_
        refine g_ifnull_R hx dX3_ageOfNearest_26 (tg := 43) (by decide) (nx := 29) rfl ?_
        refine g_aloadG hx dX3_ageOfNearest_29 (nx := 31) rfl rfl ?_
        refine g_iloadG_n hx dX3_ageOfNearest_31 rfl (nx := 32) rfl rfl ?_
        refine g_callNV_M hx [_] (k' := 0) (n' := 0) dX3_ageOfNearest_32 (nx := 35) rfl lk_X3_278 (lyS.ob hB) (by omega) rfl rfl (Nat.le_of_ble_eq_true rfl) (Nat.le_of_ble_eq_true rfl) (Nat.le_of_ble_eq_true rfl) (Nat.le_of_ble_eq_true rfl) (Nat.le_of_ble_eq_true rfl) (Nat.le_of_ble_eq_true rfl) (Nat.le_of_ble_eq_true rfl) (s_X2_awayFrom hst hB ?_)
        refine g_aloadG_n hx dX3_ageOfNearest_35 rfl (nx := 36) rfl rfl ?_
        refine g_iloadG_n hx dX3_ageOfNearest_36 rfl (nx := 37) rfl rfl ?_
        refine g_callNV_M hx [_] (k' := 0) (n' := 0) dX3_ageOfNearest_37 (nx := 40) rfl lk_X3_278 (lyS.ob hCc) (by omega) rfl rfl (Nat.le_of_ble_eq_true rfl) (Nat.le_of_ble_eq_true rfl) (Nat.le_of_ble_eq_true rfl) (Nat.le_of_ble_eq_true rfl) (Nat.le_of_ble_eq_true rfl) (Nat.le_of_ble_eq_true rfl) (Nat.le_of_ble_eq_true rfl) (s_X2_awayFrom hst hCc ?_)
        refine g_icmp_ge hx dX3_ageOfNearest_40 (tg := 46) (by decide) (nx := 43) rfl (fun c40 => ?_) (fun c40 => ?_)
        · refine g_iinc_3 hx dX3_ageOfNearest_46 (nx := 49) rfl (by decide) (v := 1) (by decide) rfl ?_
          refine g_goto hx dX3_ageOfNearest_49 (tg := 4) (by decide) ?_
          rw [← nI_succ]
          have K := ih (i + 1) (by omega) (by omega) (.ref b)
          subst hbe
          subst hce
          first
            | (rw [show agB (fun k => I (200 + 8 * k) 6) x (i + 1) = agB (fun k => I (200 + 8 * k) 6) x i from (if_neg (by omega)).trans (if_neg (Int32.not_lt.mpr c40))] at K; exact K)
            | (rw [show agB (fun k => I (200 + 8 * k) 6) x (i + 1) = i from (if_neg (by omega)).trans (if_pos (Int32.not_le.mp c40))] at K; exact K)
        · refine g_aloadG hx dX3_ageOfNearest_43 (nx := 45) rfl rfl ?_
          refine g_astore_2 hx dX3_ageOfNearest_45 (nx := 46) rfl (by decide) rfl ?_
          refine g_iinc_3 hx dX3_ageOfNearest_46 (nx := 49) rfl (by decide) (v := 1) (by decide) rfl ?_
          refine g_goto hx dX3_ageOfNearest_49 (tg := 4) (by decide) ?_
          rw [← nI_succ]
          have K := ih (i + 1) (by omega) (by omega) (.ref b)
          subst hbe
          subst hce
          first
            | (rw [show agB (fun k => I (200 + 8 * k) 6) x (i + 1) = agB (fun k => I (200 + 8 * k) 6) x i from (if_neg (by omega)).trans (if_neg (Int32.not_lt.mpr c40))] at K; exact K)
            | (rw [show agB (fun k => I (200 + 8 * k) 6) x (i + 1) = i from (if_neg (by omega)).trans (if_pos (Int32.not_le.mp c40))] at K; exact K)
  refine g_null hx dX3_ageOfNearest_0 (nx := 1) rfl ?_
  refine g_nstore_2 hx dX3_ageOfNearest_1 (nx := 2) rfl (by decide) rfl ?_
  refine g_iconst hx dX3_ageOfNearest_2 (nx := 3) rfl (v := 0) (by decide) ?_
  refine g_istore_3 hx dX3_ageOfNearest_3 (nx := 4) rfl (by decide) rfl ?_
  rcases Nat.eq_zero_or_pos n with e0 | e0
  · subst e0
    refine g_iloadG_n hx dX3_ageOfNearest_4 rfl (nx := 5) rfl rfl ?_
    refine g_aloadG_n hx dX3_ageOfNearest_5 rfl (nx := 6) rfl rfl ?_
    refine g_getfo_i hx dX3_ageOfNearest_6 (nx := 9) rfl fa_X3_66 rfl (hX.1 0 _ rfl) (by decide) ?_
    refine g_icmp_ge hx dX3_ageOfNearest_9 (tg := 52) (by decide) (nx := 12) rfl (fun c9 => ?_) (fun c9 => ?_)
    · refine g_nloadG_n hx dX3_ageOfNearest_52 rfl (nx := 53) rfl rfl ?_
      refine g_ifnonnull_N (q := 0) hx dX3_ageOfNearest_53 (tg := 60) (by decide) (nx := 56) rfl ?_
      refine g_iconst hx dX3_ageOfNearest_56 (nx := 57) rfl (v := (-1)) (by decide) ?_
      refine g_goto hx dX3_ageOfNearest_57 (tg := 64) (by decide) ?_
      refine g_iret hx dX3_ageOfNearest_64 rfl rfl (Nat.le_of_ble_eq_true rfl) (Nat.le_of_ble_eq_true rfl) ?_
      exact hk
    · exact absurd (by rw [h1]; exact Int32.le_refl _) c9
  · have hB : lyS S Rf 200 := (h4 0 e0).2
    have hr4 : Rf 4 (0 : Int32).toNatClampNeg = some 200 := (h4 0 e0).1
    refine g_iloadG_n hx dX3_ageOfNearest_4 rfl (nx := 5) rfl rfl ?_
    refine g_aloadG_n hx dX3_ageOfNearest_5 rfl (nx := 6) rfl rfl ?_
    refine g_getfo_i hx dX3_ageOfNearest_6 (nx := 9) rfl fa_X3_66 rfl (hX.1 0 _ rfl) (by decide) ?_
    refine g_icmp_ge hx dX3_ageOfNearest_9 (tg := 52) (by decide) (nx := 12) rfl (fun c9 => ?_) (fun c9 => ?_)
    · exact absurd c9 (by rw [h1]; exact nI_ge (a := 0) (b := n) (by omega) (by omega))
    · refine g_aloadG_n hx dX3_ageOfNearest_12 rfl (nx := 13) rfl rfl ?_
      refine g_getfo_R hx dX3_ageOfNearest_13 (nx := 16) rfl fa_X3_11 rfl (r9 := 4) hX.2.1 (hX.1 0 _ rfl) (by decide) ?_
      refine g_iloadG_n hx dX3_ageOfNearest_16 rfl (nx := 17) rfl rfl ?_
      refine g_aaloadStar_R hx dX3_ageOfNearest_17 (nx := 18) rfl (hX.1 1 _ rfl) (by decide) (vp_in_nI (n := 0) (by decide) (by decide)) (r9 := 200) hr4 ?_
      refine g_astore_4 hx dX3_ageOfNearest_18 (nx := 20) rfl (by decide) rfl ?_
      refine g_aloadG hx dX3_ageOfNearest_20 (nx := 22) rfl rfl ?_
      refine g_ifnull_R hx dX3_ageOfNearest_22 (tg := 46) (by decide) (nx := 25) rfl ?_
      refine g_nloadG_n hx dX3_ageOfNearest_25 rfl (nx := 26) rfl rfl ?_
      refine g_ifnull_N (q := 0) hx dX3_ageOfNearest_26 (tg := 43) (by decide) (nx := 29) rfl ?_
      refine g_aloadG hx dX3_ageOfNearest_43 (nx := 45) rfl rfl ?_
      refine g_astore_2 hx dX3_ageOfNearest_45 (nx := 46) rfl (by decide) rfl ?_
      refine g_iinc_3 hx dX3_ageOfNearest_46 (nx := 49) rfl (by decide) (v := 1) (by decide) rfl ?_
      refine g_goto hx dX3_ageOfNearest_49 (tg := 4) (by decide) ?_
      exact loop1 (n - 1) 1 (by omega) (by decide) _

abbrev rmX3_claimAge : Room := { frames := 7, cells := 7, slots := 45, locals := 111 }
set_option maxHeartbeats 4000000 in
set_option maxRecDepth 100000 in
theorem s_X3_claimAge {l : Launch} {E : aE} {S : aS} {I : aI} {L : aL} {Rf : aR} {Kr : aK} {Kx : aX} (hst : l.stackTraces = false) {n nc : Nat} {x y : Int32} (hC : lyC S Rf I n nc) (hx1 : ¬ (inN x nc ∧ inN y nc) → Kx eIO S I L Rf) (hx2 : ∀ i j : Nat, i < nc → j < nc → x = nI i → y = nI j → ¬ (I (100 + i) 0 = 0 ∧ I (100 + j) 0 = 0 ∧ I (100 + i) 1 = I (100 + j) 1 ∧ I (100 + i) 2 ≠ I (100 + j) 2) → Kx eIA S I L Rf) (hx3 : ∀ i j : Nat, i < nc → j < nc → x = nI i → y = nI j → (I (100 + i) 0 = 0 ∧ I (100 + j) 0 = 0 ∧ I (100 + i) 1 = I (100 + j) 1 ∧ I (100 + i) 2 ≠ I (100 + j) 2) → ¬ (nc < 40 ∧ I (100 + i) 8 ≠ 0 ∧ I (100 + j) 8 ≠ 0) → Kx eIS S I L Rf) (hk : ∀ i j : Nat, i < nc → j < nc → x = nI i → y = nI j → (I (100 + i) 0 = 0 ∧ I (100 + j) 0 = 0 ∧ I (100 + i) 1 = I (100 + j) 1 ∧ I (100 + i) 2 ≠ I (100 + j) 2) → nc < 40 → I (100 + i) 8 ≠ 0 → I (100 + j) 8 ≠ 0 → ∀ S' I' L' R', newC n nc S I L Rf S' I' L' R' 1 (I (100 + i) 1) (I (100 + i) 2) 0 0 0 (agN (fun k => I (200 + 8 * k) 6) (fun k => I (200 + 8 * k) 4) (40000 * iabs (I (100 + i) 2 - I (100 + j) 2)) n) (bitL (nI i) ||| bitL (nI j)) → Kr (some (.int (nI nc))) S' I' L' R') : aMet l E yX3_claimAge cX3_claimAge 6 (some .int) rmX3_claimAge [.ref 3, .int x, .int y] (S) (I) (L) (Rf) Kr Kx := by
  refine aMet.of (lv0 := [.ref 3, .int x, .int y, aU, aU, aU]) (z := 3) (by decide +kernel) hst rfl (Nat.le_of_ble_eq_true rfl) ?_
  intro p e s m args below meth c io0 hx hin hno
  have hx : aCx p l s m args meth c RX3 cX3_claimAge 6 (some .int) E := hx
  have hX := hC.1
  have hc40 := hC.2.2.1
  obtain ⟨c, hce⟩ : ∃ c, c = 100 + nc := ⟨_, rfl⟩
  refine g_aloadG_n hx dX3_claimAge_0 rfl (nx := 1) rfl rfl ?_
  refine g_iloadG_n hx dX3_claimAge_1 rfl (nx := 2) rfl rfl ?_
  refine g_callV_X hx [_] (k' := 1) (n' := 6) dX3_claimAge_2 (nx := 5) rfl lk_X3_139 (hX.1 0 _ rfl) (by decide) rfl rfl (Nat.le_of_ble_eq_true rfl) (Nat.le_of_ble_eq_true rfl) (Nat.le_of_ble_eq_true rfl) (Nat.le_of_ble_eq_true rfl) (Nat.le_of_ble_eq_true rfl) (Nat.le_of_ble_eq_true rfl) (Nat.le_of_ble_eq_true rfl) hno (Nat.le_of_ble_eq_true rfl) (Nat.le_of_ble_eq_true rfl) (s_X3_claimAt hst hC (fun i ih xi => ?_) (fun q => ?_))
  · subst xi
    obtain ⟨ic, ice⟩ : ∃ c, c = 100 + i := ⟨_, rfl⟩
    rw [← ice]
    have iS : S ic = some (.inr 0) := by rw [ice]; exact (hC.cl ih).1
    refine g_astore_3 hx dX3_claimAge_5 (nx := 6) rfl (by decide) rfl ?_
    refine g_aloadG_n hx dX3_claimAge_6 rfl (nx := 7) rfl rfl ?_
    refine g_iloadG_n hx dX3_claimAge_7 rfl (nx := 8) rfl rfl ?_
    refine g_callV_X hx [_] (k' := 2) (n' := 12) dX3_claimAge_8 (nx := 11) rfl lk_X3_139 (hX.1 0 _ rfl) (by decide) rfl rfl (Nat.le_of_ble_eq_true rfl) (Nat.le_of_ble_eq_true rfl) (Nat.le_of_ble_eq_true rfl) (Nat.le_of_ble_eq_true rfl) (Nat.le_of_ble_eq_true rfl) (Nat.le_of_ble_eq_true rfl) (Nat.le_of_ble_eq_true rfl) hno (Nat.le_of_ble_eq_true rfl) (Nat.le_of_ble_eq_true rfl) (s_X3_claimAt hst hC (fun j jh xj => ?_) (fun q => ?_))
    · subst xj
      obtain ⟨jc, jce⟩ : ∃ c, c = 100 + j := ⟨_, rfl⟩
      rw [← jce]
      have jS : S jc = some (.inr 0) := by rw [jce]; exact (hC.cl jh).1
      refine g_astore_4 hx dX3_claimAge_11 (nx := 13) rfl (by decide) rfl ?_
      refine g_aloadG_n hx dX3_claimAge_13 rfl (nx := 14) rfl rfl ?_
      refine g_getfn_i hx dX3_claimAge_14 (nx := 17) rfl fa_X3_143 rfl iS (by omega) ?_
      refine g_if_ne hx dX3_claimAge_17 (tg := 28) (by decide) (nx := 20) rfl (fun c17 => ?_) (fun c17 => ?_)
      · refine g_throw hx th_X3_45_146_49 dX3_claimAge_28 dX3_claimAge_31 dX3_claimAge_32 dX3_claimAge_34 dX3_claimAge_37 hno (Nat.le_of_ble_eq_true rfl) (Nat.le_of_ble_eq_true rfl) (Nat.le_of_ble_eq_true rfl) (Nat.le_of_ble_eq_true rfl) (Nat.le_of_ble_eq_true rfl) (Nat.le_of_ble_eq_true rfl) ?_
        subst ice; subst jce
        first
          | exact hx2 i j ih jh rfl rfl (fun h => c17 h.1)
          | exact hx2 i j ih jh rfl rfl (fun h => c25 h.2.1)
          | exact hx2 i j ih jh rfl rfl (fun h => c47 h.2.2.1)
          | exact hx2 i j ih jh rfl rfl (fun h => h.2.2.2 c59)
          | exact hx3 i j ih jh rfl rfl ⟨hkd.1, hkd.2, hsame.1, hsame.2⟩ (fun h => h.2.1 c80)
          | exact hx3 i j ih jh rfl rfl ⟨hkd.1, hkd.2, hsame.1, hsame.2⟩ (fun h => h.2.2 c88)
      · refine g_aloadG hx dX3_claimAge_20 (nx := 22) rfl rfl ?_
        refine g_getfn_i hx dX3_claimAge_22 (nx := 25) rfl fa_X3_143 rfl jS (by omega) ?_
        refine g_if_eq hx dX3_claimAge_25 (tg := 38) (by decide) (nx := 28) rfl (fun c25 => ?_) (fun c25 => ?_)
        · have hkd : I ic 0 = 0 ∧ I jc 0 = 0 := ⟨c17, c25⟩
          refine g_aloadG_n hx dX3_claimAge_38 rfl (nx := 39) rfl rfl ?_
          refine g_getfn_i hx dX3_claimAge_39 (nx := 42) rfl fa_X3_148 rfl iS (by omega) ?_
          refine g_aloadG hx dX3_claimAge_42 (nx := 44) rfl rfl ?_
          refine g_getfn_i hx dX3_claimAge_44 (nx := 47) rfl fa_X3_148 rfl jS (by omega) ?_
          refine g_icmp_ne hx dX3_claimAge_47 (tg := 62) (by decide) (nx := 50) rfl (fun c47 => ?_) (fun c47 => ?_)
          · refine g_throw hx th_X3_45_154_49 dX3_claimAge_62 dX3_claimAge_65 dX3_claimAge_66 dX3_claimAge_68 dX3_claimAge_71 hno (Nat.le_of_ble_eq_true rfl) (Nat.le_of_ble_eq_true rfl) (Nat.le_of_ble_eq_true rfl) (Nat.le_of_ble_eq_true rfl) (Nat.le_of_ble_eq_true rfl) (Nat.le_of_ble_eq_true rfl) ?_
            subst ice; subst jce
            first
              | exact hx2 i j ih jh rfl rfl (fun h => c17 h.1)
              | exact hx2 i j ih jh rfl rfl (fun h => c25 h.2.1)
              | exact hx2 i j ih jh rfl rfl (fun h => c47 h.2.2.1)
              | exact hx2 i j ih jh rfl rfl (fun h => h.2.2.2 c59)
              | exact hx3 i j ih jh rfl rfl ⟨hkd.1, hkd.2, hsame.1, hsame.2⟩ (fun h => h.2.1 c80)
              | exact hx3 i j ih jh rfl rfl ⟨hkd.1, hkd.2, hsame.1, hsame.2⟩ (fun h => h.2.2 c88)
          · refine g_aloadG_n hx dX3_claimAge_50 rfl (nx := 51) rfl rfl ?_
            refine g_getfn_i hx dX3_claimAge_51 (nx := 54) rfl fa_X3_151 rfl iS (by omega) ?_
            refine g_aloadG hx dX3_claimAge_54 (nx := 56) rfl rfl ?_
            refine g_getfn_i hx dX3_claimAge_56 (nx := 59) rfl fa_X3_151 rfl jS (by omega) ?_
            refine g_icmp_ne hx dX3_claimAge_59 (tg := 72) (by decide) (nx := 62) rfl (fun c59 => ?_) (fun c59 => ?_)
            · have hsame : I ic 1 = I jc 1 ∧ I ic 2 ≠ I jc 2 := ⟨c47, c59⟩
              refine g_aloadG_n hx dX3_claimAge_72 rfl (nx := 73) rfl rfl ?_
              refine g_callV_X hx [] (k' := 3) (n' := 18) dX3_claimAge_73 (nx := 76) rfl lk_X3_112 (hX.1 0 _ rfl) (by decide) rfl rfl (Nat.le_of_ble_eq_true rfl) (Nat.le_of_ble_eq_true rfl) (Nat.le_of_ble_eq_true rfl) (Nat.le_of_ble_eq_true rfl) (Nat.le_of_ble_eq_true rfl) (Nat.le_of_ble_eq_true rfl) (Nat.le_of_ble_eq_true rfl) hno (Nat.le_of_ble_eq_true rfl) (Nat.le_of_ble_eq_true rfl) (s_X3_lookForRoom hst hC (fun hlt => ?_) (fun q => ?_))
              · have hc0 : S c = none := by rw [hce]; exact hC.2.2.2.2.2.2.2.2.2.2 nc (Nat.le_refl _) (by omega)
                have hSc : au1 S c (some (.inr 0)) c = some (.inr 0) := au1_s _ _ _
                refine g_aloadG_n hx dX3_claimAge_76 rfl (nx := 77) rfl rfl ?_
                refine g_getfn_i hx dX3_claimAge_77 (nx := 80) rfl fa_X3_156 rfl iS (by omega) ?_
                refine g_if_eq hx dX3_claimAge_80 (tg := 91) (by decide) (nx := 83) rfl (fun c80 => ?_) (fun c80 => ?_)
                · refine g_throw hx th_X3_55_160_59 dX3_claimAge_91 dX3_claimAge_94 dX3_claimAge_95 dX3_claimAge_97 dX3_claimAge_100 hno (Nat.le_of_ble_eq_true rfl) (Nat.le_of_ble_eq_true rfl) (Nat.le_of_ble_eq_true rfl) (Nat.le_of_ble_eq_true rfl) (Nat.le_of_ble_eq_true rfl) (Nat.le_of_ble_eq_true rfl) ?_
                  subst ice; subst jce
                  first
                    | exact hx2 i j ih jh rfl rfl (fun h => c17 h.1)
                    | exact hx2 i j ih jh rfl rfl (fun h => c25 h.2.1)
                    | exact hx2 i j ih jh rfl rfl (fun h => c47 h.2.2.1)
                    | exact hx2 i j ih jh rfl rfl (fun h => h.2.2.2 c59)
                    | exact hx3 i j ih jh rfl rfl ⟨hkd.1, hkd.2, hsame.1, hsame.2⟩ (fun h => h.2.1 c80)
                    | exact hx3 i j ih jh rfl rfl ⟨hkd.1, hkd.2, hsame.1, hsame.2⟩ (fun h => h.2.2 c88)
                · refine g_aloadG hx dX3_claimAge_83 (nx := 85) rfl rfl ?_
                  refine g_getfn_i hx dX3_claimAge_85 (nx := 88) rfl fa_X3_156 rfl jS (by omega) ?_
                  refine g_if_ne hx dX3_claimAge_88 (tg := 101) (by decide) (nx := 91) rfl (fun c88 => ?_) (fun c88 => ?_)
                  · have hsd : I ic 8 ≠ 0 ∧ I jc 8 ≠ 0 := ⟨c80, c88⟩
                    refine g_new hx dX3_claimAge_101 (nx := 104) rfl (ci := 0) rfl nw_X3_28.1 nw_X3_28.2.1 nw_X3_28.2.2.1 nw_X3_28.2.2.2 (q := c) hc0 (by omega) (k' := 4) rfl (n' := 27) rfl (Nat.le_of_ble_eq_true rfl) (Nat.le_of_ble_eq_true rfl) ?_
                    have hX := hX.new (c := c) (x := .inr 0) (by omega)
                    refine g_dup hx dX3_claimAge_104 (nx := 105) rfl rfl ?_
                    refine g_iconst hx dX3_claimAge_105 (nx := 106) rfl (v := 1) (by decide) ?_
                    refine g_aloadG_n hx dX3_claimAge_106 rfl (nx := 107) rfl rfl ?_
                    refine g_getfn_i hx dX3_claimAge_107 (nx := 110) rfl fa_X3_148 rfl (by rw [au1_n (by omega)]; exact iS) (by omega) ?_
                    refine g_aloadG_n hx dX3_claimAge_110 rfl (nx := 111) rfl rfl ?_
                    refine g_getfn_i hx dX3_claimAge_111 (nx := 114) rfl fa_X3_151 rfl (by rw [au1_n (by omega)]; exact iS) (by omega) ?_
                    refine g_callNI_M hx [_, _, _] (k' := 4) (n' := 27) dX3_claimAge_114 (nx := 117) rfl lk_X3_121 rfl (Nat.le_of_ble_eq_true rfl) (Nat.le_of_ble_eq_true rfl) (Nat.le_of_ble_eq_true rfl) (Nat.le_of_ble_eq_true rfl) (Nat.le_of_ble_eq_true rfl) (Nat.le_of_ble_eq_true rfl) (Nat.le_of_ble_eq_true rfl) (s_X0_init hst (by omega) hSc (fun J g1 g2 g3 g4 g5 g6 g7 g8 => ?_))
                    refine g_astore_5 hx dX3_claimAge_117 (nx := 119) rfl (by decide) rfl ?_
                    refine g_aloadG hx dX3_claimAge_119 (nx := 121) rfl rfl ?_
                    refine g_aloadG_n hx dX3_claimAge_121 rfl (nx := 122) rfl rfl ?_
                    refine g_ldc hx dX3_claimAge_122 (nx := 124) rfl kc_X3_162 ?_
                    refine g_aloadG_n hx dX3_claimAge_124 rfl (nx := 125) rfl rfl ?_
                    refine g_getfn_i hx dX3_claimAge_125 (nx := 128) rfl fa_X3_151 rfl (by rw [au1_n (by omega)]; exact iS) (by omega) ?_
                    refine g_aloadG hx dX3_claimAge_128 (nx := 130) rfl rfl ?_
                    refine g_getfn_i hx dX3_claimAge_130 (nx := 133) rfl fa_X3_151 rfl (by rw [au1_n (by omega)]; exact jS) (by omega) ?_
                    refine g_isub hx dX3_claimAge_133 (nx := 134) rfl ?_
                    refine g_callS_X hx [_] (k' := 4) (n' := 27) dX3_claimAge_134 (nx := 137) rfl lk_X3_163 rfl (Nat.le_of_ble_eq_true rfl) (Nat.le_of_ble_eq_true rfl) (Nat.le_of_ble_eq_true rfl) (Nat.le_of_ble_eq_true rfl) (Nat.le_of_ble_eq_true rfl) (Nat.le_of_ble_eq_true rfl) (Nat.le_of_ble_eq_true rfl) hno (Nat.le_of_ble_eq_true rfl) (Nat.le_of_ble_eq_true rfl) (s_J9_abs_0f7a4 hst ?_)
                    refine g_imul hx dX3_claimAge_137 (nx := 138) rfl ?_
                    refine g_callV_X hx [_] (k' := 4) (n' := 27) dX3_claimAge_138 (nx := 141) rfl lk_X3_169 (hX.1 0 _ rfl) (by decide) rfl rfl (Nat.le_of_ble_eq_true rfl) (Nat.le_of_ble_eq_true rfl) (Nat.le_of_ble_eq_true rfl) (Nat.le_of_ble_eq_true rfl) (Nat.le_of_ble_eq_true rfl) (Nat.le_of_ble_eq_true rfl) (Nat.le_of_ble_eq_true rfl) hno (Nat.le_of_ble_eq_true rfl) (Nat.le_of_ble_eq_true rfl) (s_X3_ageOfNearest (n := n) hst hX ?_ hC.2.1 (fun k hk9 => ⟨?_, ?_⟩) ?_)
                    · rw [g1 _ _ (by omega), azr_n (by omega)]; exact hC.i1
                    · rw [azr_n (by omega)]; exact hC.r4 hk9
                    · exact (hC.star (Nat.le_of_lt hk9)).new (by omega)
                    · have ea : (fun k => J (200 + 8 * k) 6) = fun k => I (200 + 8 * k) 6 := funext fun k => by rw [g1 _ _ (by omega), azr_n (by omega)]
                      have eb : (fun k => J (200 + 8 * k) 4) = fun k => I (200 + 8 * k) 4 := funext fun k => by rw [g1 _ _ (by omega), azr_n (by omega)]
                      have ei : ∀ f, J ic f = I ic f := fun f => by rw [g1 _ _ (by omega), azr_n (by omega)]
                      have ej : ∀ f, J jc f = I jc f := fun f => by rw [g1 _ _ (by omega), azr_n (by omega)]
                      rw [ea, eb, ei, ej]
                      refine g_putfn_i hx dX3_claimAge_141 (nx := 144) rfl fa_X3_172 rfl rfl rfl (fun r h => by cases h; rfl) hSc (by omega) ?_
                      refine g_aloadG hx dX3_claimAge_144 (nx := 146) rfl rfl ?_
                      refine g_iloadG_n hx dX3_claimAge_146 rfl (nx := 147) rfl rfl ?_
                      refine g_callS_X hx [_] (k' := 4) (n' := 27) dX3_claimAge_147 (nx := 150) rfl lk_X3_175 rfl (Nat.le_of_ble_eq_true rfl) (Nat.le_of_ble_eq_true rfl) (Nat.le_of_ble_eq_true rfl) (Nat.le_of_ble_eq_true rfl) (Nat.le_of_ble_eq_true rfl) (Nat.le_of_ble_eq_true rfl) (Nat.le_of_ble_eq_true rfl) hno (Nat.le_of_ble_eq_true rfl) (Nat.le_of_ble_eq_true rfl) (s_X3_bit hst ?_)
                      refine g_iloadG_n hx dX3_claimAge_150 rfl (nx := 151) rfl rfl ?_
                      refine g_callS_X hx [_] (k' := 4) (n' := 27) dX3_claimAge_151 (nx := 154) rfl lk_X3_175 rfl (Nat.le_of_ble_eq_true rfl) (Nat.le_of_ble_eq_true rfl) (Nat.le_of_ble_eq_true rfl) (Nat.le_of_ble_eq_true rfl) (Nat.le_of_ble_eq_true rfl) (Nat.le_of_ble_eq_true rfl) (Nat.le_of_ble_eq_true rfl) hno (Nat.le_of_ble_eq_true rfl) (Nat.le_of_ble_eq_true rfl) (s_X3_bit hst ?_)
                      refine g_lor hx dX3_claimAge_154 (nx := 155) rfl ?_
                      refine g_putfn_l hx dX3_claimAge_155 (nx := 158) rfl fa_X3_178 rfl (fun r h => by cases h; rfl) hSc (by omega) ?_
                      refine g_aloadG_n hx dX3_claimAge_158 rfl (nx := 159) rfl rfl ?_
                      refine g_aloadG hx dX3_claimAge_159 (nx := 161) rfl rfl ?_
                      refine g_callV_X hx [_] (k' := 4) (n' := 27) dX3_claimAge_161 (nx := 164) rfl lk_X3_135 (hX.1 0 _ rfl) (by decide) rfl rfl (Nat.le_of_ble_eq_true rfl) (Nat.le_of_ble_eq_true rfl) (Nat.le_of_ble_eq_true rfl) (Nat.le_of_ble_eq_true rfl) (Nat.le_of_ble_eq_true rfl) (Nat.le_of_ble_eq_true rfl) (Nat.le_of_ble_eq_true rfl) hno (Nat.le_of_ble_eq_true rfl) (Nat.le_of_ble_eq_true rfl) (s_X3_enterN (n := n) (nc := nc) hst hX hlt hSc (by omega) ?_ ?_)
                      · rw [au2_n (by omega), g1 _ _ (by omega), azr_n (by omega)]; exact hC.i6
                      · have hz : True := trivial
                        refine g_iret hx dX3_claimAge_164 rfl rfl (Nat.le_of_ble_eq_true rfl) (Nat.le_of_ble_eq_true rfl) ?_
                        rw [azr_n (by omega)] at g3 g4
                        subst hce; subst ice; subst jce
                        refine hk i j ih jh rfl rfl ⟨hkd.1, hkd.2, hsame.1, hsame.2⟩ hlt hsd.1 hsd.2 _ _ _ _ ⟨hC.new hlt (fun a h => au1_n h) hSc (fun a k h h9 => ?_) (au2_s _ _ _ _) ?_ (au2_s _ _ _ _), fun a h => au1_n h, fun a k k1 k2 k3 k4 k5 => ?_, fun a k k1 k2 k3 k4 => ?_, fun a k h h9 => ?_, ?_, ?_, ?_, ?_, ?_, ?_, ?_, ?_, ?_⟩
                        · rw [au2_n h, azr_n h9]
                        · rw [au2_n (by omega), au2_n (by omega), g1 _ _ (by omega), azr_n (by omega)]
                        · rw [au2_n k5, au2_n (fun z => k4 z.1), g1 _ _ k4, azr_n k4]
                        · rw [au2_n (fun z => k4 z.1), azr_n k4]
                        · rw [au2_n h, azr_n h9]
                        · rw [au2_n (by omega), au2_n (by omega)]; exact g2
                        · rw [au2_n (by omega), au2_n (by omega)]; exact g3
                        · rw [au2_n (by omega), au2_n (by omega)]; exact g4
                        · rw [au2_n (by omega), au2_n (by omega), g5, azr_s]
                        · rw [au2_n (by omega), au2_n (by omega), g6, azr_s]
                        · rw [au2_n (by omega), azr_s]
                        · rw [au2_n (by omega), au2_s]
                        · rw [au2_s]
                        · rw [au2_n (by omega), au2_n (by omega)]; exact g8
                  · refine g_throw hx th_X3_55_160_59 dX3_claimAge_91 dX3_claimAge_94 dX3_claimAge_95 dX3_claimAge_97 dX3_claimAge_100 hno (Nat.le_of_ble_eq_true rfl) (Nat.le_of_ble_eq_true rfl) (Nat.le_of_ble_eq_true rfl) (Nat.le_of_ble_eq_true rfl) (Nat.le_of_ble_eq_true rfl) (Nat.le_of_ble_eq_true rfl) ?_
                    subst ice; subst jce
                    first
                      | exact hx2 i j ih jh rfl rfl (fun h => c17 h.1)
                      | exact hx2 i j ih jh rfl rfl (fun h => c25 h.2.1)
                      | exact hx2 i j ih jh rfl rfl (fun h => c47 h.2.2.1)
                      | exact hx2 i j ih jh rfl rfl (fun h => h.2.2.2 c59)
                      | exact hx3 i j ih jh rfl rfl ⟨hkd.1, hkd.2, hsame.1, hsame.2⟩ (fun h => h.2.1 c80)
                      | exact hx3 i j ih jh rfl rfl ⟨hkd.1, hkd.2, hsame.1, hsame.2⟩ (fun h => h.2.2 c88)
              · subst ice; subst jce
                exact hx3 i j ih jh rfl rfl ⟨hkd.1, hkd.2, hsame.1, hsame.2⟩ (fun h => absurd h.1 (by omega))
            · refine g_throw hx th_X3_45_154_49 dX3_claimAge_62 dX3_claimAge_65 dX3_claimAge_66 dX3_claimAge_68 dX3_claimAge_71 hno (Nat.le_of_ble_eq_true rfl) (Nat.le_of_ble_eq_true rfl) (Nat.le_of_ble_eq_true rfl) (Nat.le_of_ble_eq_true rfl) (Nat.le_of_ble_eq_true rfl) (Nat.le_of_ble_eq_true rfl) ?_
              subst ice; subst jce
              first
                | exact hx2 i j ih jh rfl rfl (fun h => c17 h.1)
                | exact hx2 i j ih jh rfl rfl (fun h => c25 h.2.1)
                | exact hx2 i j ih jh rfl rfl (fun h => c47 h.2.2.1)
                | exact hx2 i j ih jh rfl rfl (fun h => h.2.2.2 c59)
                | exact hx3 i j ih jh rfl rfl ⟨hkd.1, hkd.2, hsame.1, hsame.2⟩ (fun h => h.2.1 c80)
                | exact hx3 i j ih jh rfl rfl ⟨hkd.1, hkd.2, hsame.1, hsame.2⟩ (fun h => h.2.2 c88)
        · refine g_throw hx th_X3_45_146_49 dX3_claimAge_28 dX3_claimAge_31 dX3_claimAge_32 dX3_claimAge_34 dX3_claimAge_37 hno (Nat.le_of_ble_eq_true rfl) (Nat.le_of_ble_eq_true rfl) (Nat.le_of_ble_eq_true rfl) (Nat.le_of_ble_eq_true rfl) (Nat.le_of_ble_eq_true rfl) (Nat.le_of_ble_eq_true rfl) ?_
          subst ice; subst jce
          first
            | exact hx2 i j ih jh rfl rfl (fun h => c17 h.1)
            | exact hx2 i j ih jh rfl rfl (fun h => c25 h.2.1)
            | exact hx2 i j ih jh rfl rfl (fun h => c47 h.2.2.1)
            | exact hx2 i j ih jh rfl rfl (fun h => h.2.2.2 c59)
            | exact hx3 i j ih jh rfl rfl ⟨hkd.1, hkd.2, hsame.1, hsame.2⟩ (fun h => h.2.1 c80)
            | exact hx3 i j ih jh rfl rfl ⟨hkd.1, hkd.2, hsame.1, hsame.2⟩ (fun h => h.2.2 c88)
    · exact hx1 (fun h => q h.2)
  · exact hx1 (fun h => q h.1)

abbrev rmX3_claimPlanet : Room := { frames := 7, cells := 5, slots := 33, locals := 111 }
set_option maxHeartbeats 4000000 in
set_option maxRecDepth 100000 in
theorem s_X3_claimPlanet {l : Launch} {E : aE} {S : aS} {I : aI} {L : aL} {Rf : aR} {Kr : aK} {Kx : aX} (hst : l.stackTraces = false) {n nc : Nat} {x : Int32} (hC : lyC S Rf I n nc) (hx1 : ¬ inN x nc → Kx eIO S I L Rf) (hx2 : ∀ i : Nat, i < nc → x = nI i → I (100 + i) 0 ≠ 0 → Kx eIA S I L Rf) (hx3 : ∀ i : Nat, i < nc → x = nI i → I (100 + i) 0 = 0 → ¬ (nc < 40 ∧ I (100 + i) 8 ≠ 0) → Kx eIS S I L Rf) (hk : ∀ i : Nat, i < nc → x = nI i → I (100 + i) 0 = 0 → nc < 40 → I (100 + i) 8 ≠ 0 → ∀ S' I' L' R', newC n nc S I L Rf S' I' L' R' 2 (I (100 + i) 1) (I (100 + i) 2) 0 0 0 (-1) (bitL (nI i)) → Kr (some (.int (nI nc))) S' I' L' R') : aMet l E yX3_claimPlanet cX3_claimPlanet 4 (some .int) rmX3_claimPlanet [.ref 3, .int x] (S) (I) (L) (Rf) Kr Kx := by
  refine aMet.of (lv0 := [.ref 3, .int x, aU, aU]) (z := 2) (by decide +kernel) hst rfl (Nat.le_of_ble_eq_true rfl) ?_
  intro p e s m args below meth c io0 hx hin hno
  have hx : aCx p l s m args meth c RX3 cX3_claimPlanet 4 (some .int) E := hx
  have hX := hC.1
  have hc40 := hC.2.2.1
  obtain ⟨c, hce⟩ : ∃ c, c = 100 + nc := ⟨_, rfl⟩
  refine g_aloadG_n hx dX3_claimPlanet_0 rfl (nx := 1) rfl rfl ?_
  refine g_iloadG_n hx dX3_claimPlanet_1 rfl (nx := 2) rfl rfl ?_
  refine g_callV_X hx [_] (k' := 1) (n' := 6) dX3_claimPlanet_2 (nx := 5) rfl lk_X3_139 (hX.1 0 _ rfl) (by decide) rfl rfl (Nat.le_of_ble_eq_true rfl) (Nat.le_of_ble_eq_true rfl) (Nat.le_of_ble_eq_true rfl) (Nat.le_of_ble_eq_true rfl) (Nat.le_of_ble_eq_true rfl) (Nat.le_of_ble_eq_true rfl) (Nat.le_of_ble_eq_true rfl) hno (Nat.le_of_ble_eq_true rfl) (Nat.le_of_ble_eq_true rfl) (s_X3_claimAt hst hC (fun i ih xi => ?_) (fun q => ?_))
  · subst xi
    obtain ⟨ic, ice⟩ : ∃ c, c = 100 + i := ⟨_, rfl⟩
    rw [← ice]
    have iS : S ic = some (.inr 0) := by rw [ice]; exact (hC.cl ih).1
    refine g_astore_2 hx dX3_claimPlanet_5 (nx := 6) rfl (by decide) rfl ?_
    refine g_aloadG_n hx dX3_claimPlanet_6 rfl (nx := 7) rfl rfl ?_
    refine g_getfn_i hx dX3_claimPlanet_7 (nx := 10) rfl fa_X3_143 rfl iS (by omega) ?_
    refine g_if_eq hx dX3_claimPlanet_10 (tg := 23) (by decide) (nx := 13) rfl (fun c10 => ?_) (fun c10 => ?_)
    · refine g_aloadG_n hx dX3_claimPlanet_23 rfl (nx := 24) rfl rfl ?_
      refine g_callV_X hx [] (k' := 2) (n' := 12) dX3_claimPlanet_24 (nx := 27) rfl lk_X3_112 (hX.1 0 _ rfl) (by decide) rfl rfl (Nat.le_of_ble_eq_true rfl) (Nat.le_of_ble_eq_true rfl) (Nat.le_of_ble_eq_true rfl) (Nat.le_of_ble_eq_true rfl) (Nat.le_of_ble_eq_true rfl) (Nat.le_of_ble_eq_true rfl) (Nat.le_of_ble_eq_true rfl) hno (Nat.le_of_ble_eq_true rfl) (Nat.le_of_ble_eq_true rfl) (s_X3_lookForRoom hst hC (fun hlt => ?_) (fun q => ?_))
      · have hc0 : S c = none := by rw [hce]; exact hC.2.2.2.2.2.2.2.2.2.2 nc (Nat.le_refl _) (by omega)
        have hSc : au1 S c (some (.inr 0)) c = some (.inr 0) := au1_s _ _ _
        refine g_aloadG_n hx dX3_claimPlanet_27 rfl (nx := 28) rfl rfl ?_
        refine g_getfn_i hx dX3_claimPlanet_28 (nx := 31) rfl fa_X3_156 rfl iS (by omega) ?_
        refine g_if_ne hx dX3_claimPlanet_31 (tg := 44) (by decide) (nx := 34) rfl (fun c31 => ?_) (fun c31 => ?_)
        · refine g_new hx dX3_claimPlanet_44 (nx := 47) rfl (ci := 0) rfl nw_X3_28.1 nw_X3_28.2.1 nw_X3_28.2.2.1 nw_X3_28.2.2.2 (q := c) hc0 (by omega) (k' := 3) rfl (n' := 21) rfl (Nat.le_of_ble_eq_true rfl) (Nat.le_of_ble_eq_true rfl) ?_
          have hX := hX.new (c := c) (x := .inr 0) (by omega)
          refine g_dup hx dX3_claimPlanet_47 (nx := 48) rfl rfl ?_
          refine g_iconst hx dX3_claimPlanet_48 (nx := 49) rfl (v := 2) (by decide) ?_
          refine g_aloadG_n hx dX3_claimPlanet_49 rfl (nx := 50) rfl rfl ?_
          refine g_getfn_i hx dX3_claimPlanet_50 (nx := 53) rfl fa_X3_148 rfl (by rw [au1_n (by omega)]; exact iS) (by omega) ?_
          refine g_aloadG_n hx dX3_claimPlanet_53 rfl (nx := 54) rfl rfl ?_
          refine g_getfn_i hx dX3_claimPlanet_54 (nx := 57) rfl fa_X3_151 rfl (by rw [au1_n (by omega)]; exact iS) (by omega) ?_
          refine g_callNI_M hx [_, _, _] (k' := 3) (n' := 21) dX3_claimPlanet_57 (nx := 60) rfl lk_X3_121 rfl (Nat.le_of_ble_eq_true rfl) (Nat.le_of_ble_eq_true rfl) (Nat.le_of_ble_eq_true rfl) (Nat.le_of_ble_eq_true rfl) (Nat.le_of_ble_eq_true rfl) (Nat.le_of_ble_eq_true rfl) (Nat.le_of_ble_eq_true rfl) (s_X0_init hst (by omega) hSc (fun J g1 g2 g3 g4 g5 g6 g7 g8 => ?_))
          refine g_astore_3 hx dX3_claimPlanet_60 (nx := 61) rfl (by decide) rfl ?_
          refine g_aloadG_n hx dX3_claimPlanet_61 rfl (nx := 62) rfl rfl ?_
          refine g_iloadG_n hx dX3_claimPlanet_62 rfl (nx := 63) rfl rfl ?_
          refine g_callS_X hx [_] (k' := 3) (n' := 21) dX3_claimPlanet_63 (nx := 66) rfl lk_X3_175 rfl (Nat.le_of_ble_eq_true rfl) (Nat.le_of_ble_eq_true rfl) (Nat.le_of_ble_eq_true rfl) (Nat.le_of_ble_eq_true rfl) (Nat.le_of_ble_eq_true rfl) (Nat.le_of_ble_eq_true rfl) (Nat.le_of_ble_eq_true rfl) hno (Nat.le_of_ble_eq_true rfl) (Nat.le_of_ble_eq_true rfl) (s_X3_bit hst ?_)
          refine g_putfn_l hx dX3_claimPlanet_66 (nx := 69) rfl fa_X3_178 rfl (fun r h => by cases h; rfl) hSc (by omega) ?_
          refine g_aloadG_n hx dX3_claimPlanet_69 rfl (nx := 70) rfl rfl ?_
          refine g_aloadG_n hx dX3_claimPlanet_70 rfl (nx := 71) rfl rfl ?_
          refine g_callV_X hx [_] (k' := 3) (n' := 21) dX3_claimPlanet_71 (nx := 74) rfl lk_X3_135 (hX.1 0 _ rfl) (by decide) rfl rfl (Nat.le_of_ble_eq_true rfl) (Nat.le_of_ble_eq_true rfl) (Nat.le_of_ble_eq_true rfl) (Nat.le_of_ble_eq_true rfl) (Nat.le_of_ble_eq_true rfl) (Nat.le_of_ble_eq_true rfl) (Nat.le_of_ble_eq_true rfl) hno (Nat.le_of_ble_eq_true rfl) (Nat.le_of_ble_eq_true rfl) (s_X3_enterN (n := n) (nc := nc) hst hX hlt hSc (by omega) ?_ ?_)
          · rw [g1 _ _ (by omega), azr_n (by omega)]; exact hC.i6
          · have hz : True := trivial
            refine g_iret hx dX3_claimPlanet_74 rfl rfl (Nat.le_of_ble_eq_true rfl) (Nat.le_of_ble_eq_true rfl) ?_
            rw [azr_n (by omega)] at g3 g4
            subst hce; subst ice
            refine hk i ih rfl c10 hlt c31 _ _ _ _ ⟨hC.new hlt (fun a h => au1_n h) hSc (fun a k h h9 => ?_) (au2_s _ _ _ _) ?_ (au2_s _ _ _ _), fun a h => au1_n h, fun a k k1 k2 k3 k4 k5 => ?_, fun a k k1 k2 k3 k4 => ?_, fun a k h h9 => ?_, ?_, ?_, ?_, ?_, ?_, ?_, ?_, ?_, ?_⟩
            · rw [au2_n h, azr_n h9]
            · rw [au2_n (by omega), g1 _ _ (by omega), azr_n (by omega)]
            · rw [au2_n k5, g1 _ _ k4, azr_n k4]
            · rw [au2_n (fun z => k4 z.1), azr_n k4]
            · rw [au2_n h, azr_n h9]
            · rw [au2_n (by omega)]; exact g2
            · rw [au2_n (by omega)]; exact g3
            · rw [au2_n (by omega)]; exact g4
            · rw [au2_n (by omega), g5, azr_s]
            · rw [au2_n (by omega), g6, azr_s]
            · rw [au2_n (by omega), azr_s]
            · rw [au2_n (by omega)]; exact g7
            · rw [au2_s]
            · rw [au2_n (by omega)]; exact g8
        · refine g_throw hx th_X3_55_183_59 dX3_claimPlanet_34 dX3_claimPlanet_37 dX3_claimPlanet_38 dX3_claimPlanet_40 dX3_claimPlanet_43 hno (Nat.le_of_ble_eq_true rfl) (Nat.le_of_ble_eq_true rfl) (Nat.le_of_ble_eq_true rfl) (Nat.le_of_ble_eq_true rfl) (Nat.le_of_ble_eq_true rfl) (Nat.le_of_ble_eq_true rfl) ?_
          subst ice
          first
            | exact hx2 i ih rfl c10
            | exact hx3 i ih rfl c10 (fun h => h.2 c31)
      · subst ice
        exact hx3 i ih rfl c10 (fun h => absurd h.1 (by omega))
    · refine g_throw hx th_X3_45_181_49 dX3_claimPlanet_13 dX3_claimPlanet_16 dX3_claimPlanet_17 dX3_claimPlanet_19 dX3_claimPlanet_22 hno (Nat.le_of_ble_eq_true rfl) (Nat.le_of_ble_eq_true rfl) (Nat.le_of_ble_eq_true rfl) (Nat.le_of_ble_eq_true rfl) (Nat.le_of_ble_eq_true rfl) (Nat.le_of_ble_eq_true rfl) ?_
      subst ice
      first
        | exact hx2 i ih rfl c10
        | exact hx3 i ih rfl c10 (fun h => h.2 c31)
  · exact hx1 q

abbrev rmX3_cite : Room := { frames := 7, cells := 4, slots := 24, locals := 111 }
set_option maxHeartbeats 4000000 in
set_option maxRecDepth 100000 in
theorem s_X3_cite {l : Launch} {E : aE} {S : aS} {I : aI} {L : aL} {Rf : aR} {Kr : aK} {Kx : aX} (hst : l.stackTraces = false) {n nc : Nat} {x y : Int32} (hC : lyC S Rf I n nc) (hx1 : ¬ (inN x nc ∧ inN y nc) → Kx eIO S I L Rf) (hx2 : ∀ i j : Nat, i < nc → j < nc → x = nI i → y = nI j → ¬ j < i → Kx eIA S I L Rf) (hx3 : ∀ i j : Nat, i < nc → j < nc → x = nI i → y = nI j → j < i → ¬ (I (100 + i) 8 ≠ 0 ∧ I (100 + j) 8 ≠ 0 ∧ L (100 + i) 7 &&& bitL (nI j) = 0) → Kx eIS S I L Rf) (hk : ∀ i j : Nat, i < nc → j < nc → x = nI i → y = nI j → j < i → I (100 + i) 8 ≠ 0 → I (100 + j) 8 ≠ 0 → L (100 + i) 7 &&& bitL (nI j) = 0 → Kr (some (.int (bcnt (L (100 + i) 7 ||| bitL (nI j))))) S I (au2 L (100 + i) 7 (L (100 + i) 7 ||| bitL (nI j))) Rf) : aMet l E yX3_cite cX3_cite 5 (some .int) rmX3_cite [.ref 3, .int x, .int y] (S) (I) (L) (Rf) Kr Kx := by
  refine aMet.of (lv0 := [.ref 3, .int x, .int y, aU, aU]) (z := 2) (by decide +kernel) hst rfl (Nat.le_of_ble_eq_true rfl) ?_
  intro p e s m args below meth c io0 hx hin hno
  have hx : aCx p l s m args meth c RX3 cX3_cite 5 (some .int) E := hx
  have hX := hC.1
  have hc40 := hC.2.2.1
  refine g_aloadG_n hx dX3_cite_0 rfl (nx := 1) rfl rfl ?_
  refine g_iloadG_n hx dX3_cite_1 rfl (nx := 2) rfl rfl ?_
  refine g_callV_X hx [_] (k' := 1) (n' := 6) dX3_cite_2 (nx := 5) rfl lk_X3_139 (hX.1 0 _ rfl) (by decide) rfl rfl (Nat.le_of_ble_eq_true rfl) (Nat.le_of_ble_eq_true rfl) (Nat.le_of_ble_eq_true rfl) (Nat.le_of_ble_eq_true rfl) (Nat.le_of_ble_eq_true rfl) (Nat.le_of_ble_eq_true rfl) (Nat.le_of_ble_eq_true rfl) hno (Nat.le_of_ble_eq_true rfl) (Nat.le_of_ble_eq_true rfl) (s_X3_claimAt hst hC (fun i ih xi => ?_) (fun q => ?_))
  · subst xi
    obtain ⟨ic, ice⟩ : ∃ c, c = 100 + i := ⟨_, rfl⟩
    rw [← ice]
    have iS : S ic = some (.inr 0) := by rw [ice]; exact (hC.cl ih).1
    refine g_astore_3 hx dX3_cite_5 (nx := 6) rfl (by decide) rfl ?_
    refine g_aloadG_n hx dX3_cite_6 rfl (nx := 7) rfl rfl ?_
    refine g_iloadG_n hx dX3_cite_7 rfl (nx := 8) rfl rfl ?_
    refine g_callV_X hx [_] (k' := 2) (n' := 12) dX3_cite_8 (nx := 11) rfl lk_X3_139 (hX.1 0 _ rfl) (by decide) rfl rfl (Nat.le_of_ble_eq_true rfl) (Nat.le_of_ble_eq_true rfl) (Nat.le_of_ble_eq_true rfl) (Nat.le_of_ble_eq_true rfl) (Nat.le_of_ble_eq_true rfl) (Nat.le_of_ble_eq_true rfl) (Nat.le_of_ble_eq_true rfl) hno (Nat.le_of_ble_eq_true rfl) (Nat.le_of_ble_eq_true rfl) (s_X3_claimAt hst hC (fun j jh xj => ?_) (fun q => ?_))
    · subst xj
      obtain ⟨jc, jce⟩ : ∃ c, c = 100 + j := ⟨_, rfl⟩
      rw [← jce]
      have jS : S jc = some (.inr 0) := by rw [jce]; exact (hC.cl jh).1
      refine g_astore_4 hx dX3_cite_11 (nx := 13) rfl (by decide) rfl ?_
      refine g_iloadG_n hx dX3_cite_13 rfl (nx := 14) rfl rfl ?_
      refine g_iloadG_n hx dX3_cite_14 rfl (nx := 15) rfl rfl ?_
      refine g_icmp_lt hx dX3_cite_15 (tg := 28) (by decide) (nx := 18) rfl (fun c15 => ?_) (fun c15 => ?_)
      · refine g_aloadG_n hx dX3_cite_28 rfl (nx := 29) rfl rfl ?_
        refine g_getfn_i hx dX3_cite_29 (nx := 32) rfl fa_X3_156 rfl iS (by omega) ?_
        refine g_if_eq hx dX3_cite_32 (tg := 57) (by decide) (nx := 35) rfl (fun c32 => ?_) (fun c32 => ?_)
        · refine g_throw hx th_X3_55_187_59 dX3_cite_57 dX3_cite_60 dX3_cite_61 dX3_cite_63 dX3_cite_66 hno (Nat.le_of_ble_eq_true rfl) (Nat.le_of_ble_eq_true rfl) (Nat.le_of_ble_eq_true rfl) (Nat.le_of_ble_eq_true rfl) (Nat.le_of_ble_eq_true rfl) (Nat.le_of_ble_eq_true rfl) ?_
          subst ice; subst jce
          have hji : j < i := (nI_ltI (by omega) (by omega)).mp c15
          first
            | exact hx3 i j ih jh rfl rfl hji (fun h => h.1 c32)
            | exact hx3 i j ih jh rfl rfl hji (fun h => h.2.1 c40)
            | exact hx3 i j ih jh rfl rfl hji (fun h => c54 ((lg_cmp_eq _ _).mpr h.2.2))
        · refine g_aloadG hx dX3_cite_35 (nx := 37) rfl rfl ?_
          refine g_getfn_i hx dX3_cite_37 (nx := 40) rfl fa_X3_156 rfl jS (by omega) ?_
          refine g_if_eq hx dX3_cite_40 (tg := 57) (by decide) (nx := 43) rfl (fun c40 => ?_) (fun c40 => ?_)
          · refine g_throw hx th_X3_55_187_59 dX3_cite_57 dX3_cite_60 dX3_cite_61 dX3_cite_63 dX3_cite_66 hno (Nat.le_of_ble_eq_true rfl) (Nat.le_of_ble_eq_true rfl) (Nat.le_of_ble_eq_true rfl) (Nat.le_of_ble_eq_true rfl) (Nat.le_of_ble_eq_true rfl) (Nat.le_of_ble_eq_true rfl) ?_
            subst ice; subst jce
            have hji : j < i := (nI_ltI (by omega) (by omega)).mp c15
            first
              | exact hx3 i j ih jh rfl rfl hji (fun h => h.1 c32)
              | exact hx3 i j ih jh rfl rfl hji (fun h => h.2.1 c40)
              | exact hx3 i j ih jh rfl rfl hji (fun h => c54 ((lg_cmp_eq _ _).mpr h.2.2))
          · refine g_aloadG_n hx dX3_cite_43 rfl (nx := 44) rfl rfl ?_
            refine g_getfn_l hx dX3_cite_44 (nx := 47) rfl fa_X3_178 rfl iS (by omega) ?_
            refine g_iloadG_n hx dX3_cite_47 rfl (nx := 48) rfl rfl ?_
            refine g_callS_X hx [_] (k' := 2) (n' := 12) dX3_cite_48 (nx := 51) rfl lk_X3_175 rfl (Nat.le_of_ble_eq_true rfl) (Nat.le_of_ble_eq_true rfl) (Nat.le_of_ble_eq_true rfl) (Nat.le_of_ble_eq_true rfl) (Nat.le_of_ble_eq_true rfl) (Nat.le_of_ble_eq_true rfl) (Nat.le_of_ble_eq_true rfl) hno (Nat.le_of_ble_eq_true rfl) (Nat.le_of_ble_eq_true rfl) (s_X3_bit hst ?_)
            refine g_land hx dX3_cite_51 (nx := 52) rfl ?_
            refine g_lconst hx dX3_cite_52 (nx := 53) rfl (v := 0) (by decide) ?_
            refine g_lcmp hx dX3_cite_53 (nx := 54) rfl ?_
            refine g_if_eq hx dX3_cite_54 (tg := 67) (by decide) (nx := 57) rfl (fun c54 => ?_) (fun c54 => ?_)
            · refine g_aloadG_n hx dX3_cite_67 rfl (nx := 68) rfl rfl ?_
              refine g_dup hx dX3_cite_68 (nx := 69) rfl rfl ?_
              refine g_getfn_l hx dX3_cite_69 (nx := 72) rfl fa_X3_178 rfl iS (by omega) ?_
              refine g_iloadG_n hx dX3_cite_72 rfl (nx := 73) rfl rfl ?_
              refine g_callS_X hx [_] (k' := 2) (n' := 12) dX3_cite_73 (nx := 76) rfl lk_X3_175 rfl (Nat.le_of_ble_eq_true rfl) (Nat.le_of_ble_eq_true rfl) (Nat.le_of_ble_eq_true rfl) (Nat.le_of_ble_eq_true rfl) (Nat.le_of_ble_eq_true rfl) (Nat.le_of_ble_eq_true rfl) (Nat.le_of_ble_eq_true rfl) hno (Nat.le_of_ble_eq_true rfl) (Nat.le_of_ble_eq_true rfl) (s_X3_bit hst ?_)
              refine g_lor hx dX3_cite_76 (nx := 77) rfl ?_
              refine g_putfn_l hx dX3_cite_77 (nx := 80) rfl fa_X3_178 rfl (fun r h => by cases h; rfl) iS (by omega) ?_
              refine g_aloadG_n hx dX3_cite_80 rfl (nx := 81) rfl rfl ?_
              refine g_getfn_l hx dX3_cite_81 (nx := 84) rfl fa_X3_178 rfl iS (by omega) ?_
              refine g_callS_X hx [_] (k' := 2) (n' := 12) dX3_cite_84 (nx := 87) rfl lk_X3_189 rfl (Nat.le_of_ble_eq_true rfl) (Nat.le_of_ble_eq_true rfl) (Nat.le_of_ble_eq_true rfl) (Nat.le_of_ble_eq_true rfl) (Nat.le_of_ble_eq_true rfl) (Nat.le_of_ble_eq_true rfl) (Nat.le_of_ble_eq_true rfl) hno (Nat.le_of_ble_eq_true rfl) (Nat.le_of_ble_eq_true rfl) (s_J13_bitCount_95d88 hst ?_)
              refine g_iret hx dX3_cite_87 rfl rfl (Nat.le_of_ble_eq_true rfl) (Nat.le_of_ble_eq_true rfl) ?_
              rw [au2_s]
              subst ice; subst jce
              exact hk i j ih jh rfl rfl ((nI_ltI (by omega) (by omega)).mp c15) c32 c40 ((lg_cmp_eq _ _).mp c54)
            · refine g_throw hx th_X3_55_187_59 dX3_cite_57 dX3_cite_60 dX3_cite_61 dX3_cite_63 dX3_cite_66 hno (Nat.le_of_ble_eq_true rfl) (Nat.le_of_ble_eq_true rfl) (Nat.le_of_ble_eq_true rfl) (Nat.le_of_ble_eq_true rfl) (Nat.le_of_ble_eq_true rfl) (Nat.le_of_ble_eq_true rfl) ?_
              subst ice; subst jce
              have hji : j < i := (nI_ltI (by omega) (by omega)).mp c15
              first
                | exact hx3 i j ih jh rfl rfl hji (fun h => h.1 c32)
                | exact hx3 i j ih jh rfl rfl hji (fun h => h.2.1 c40)
                | exact hx3 i j ih jh rfl rfl hji (fun h => c54 ((lg_cmp_eq _ _).mpr h.2.2))
      · refine g_throw hx th_X3_45_185_49 dX3_cite_18 dX3_cite_21 dX3_cite_22 dX3_cite_24 dX3_cite_27 hno (Nat.le_of_ble_eq_true rfl) (Nat.le_of_ble_eq_true rfl) (Nat.le_of_ble_eq_true rfl) (Nat.le_of_ble_eq_true rfl) (Nat.le_of_ble_eq_true rfl) (Nat.le_of_ble_eq_true rfl) ?_
        subst ice; subst jce
        exact hx2 i j ih jh rfl rfl (fun h => c15 ((nI_ltI (by omega) (by omega)).mpr h))
    · exact hx1 (fun h => q h.2)
  · exact hx1 (fun h => q h.1)

abbrev rmX3_withdrawAll : Room := { frames := 1, cells := 0, slots := 0, locals := 21 }
set_option maxHeartbeats 4000000 in
set_option maxRecDepth 100000 in
theorem s_X3_withdrawAll {l : Launch} {E : aE} {S : aS} {I : aI} {L : aL} {Rf : aR} {Kr : aK} {Kx : aX} (hst : l.stackTraces = false) {n nc : Nat} {nm : Int64} (hC : lyC S Rf I n nc) (hk : ∀ I', (∀ a k, (k ≠ 8 ∨ a < 100 ∨ 100 + nc ≤ a) → I' a k = I a k) → (∀ j, j < nc → I' (100 + j) 8 = if I (100 + j) 8 ≠ 0 ∧ goP nm (fun k => L (100 + k) 7) (gnS nm (fun k => L (100 + k) 7) (fun k => I (100 + k) 8) j) j then 0 else I (100 + j) 8) → Kr (some (.int (bcnt (gnS nm (fun k => L (100 + k) 7) (fun k => I (100 + k) 8) nc)))) S I' L Rf) : aMet l E yX3_withdrawAll cX3_withdrawAll 8 (some .int) rmX3_withdrawAll [.ref 3, .long nm] (S) (I) (L) (Rf) Kr Kx := by
  refine aMet.of (lv0 := [.ref 3, .long nm, aU, aU, aU, aU, aU, aU]) (z := 5) (by decide +kernel) hst rfl (Nat.le_of_ble_eq_true rfl) ?_
  intro p e s m args below meth c io0 hx hin hno
  have hx : aCx p l s m args meth c RX3 cX3_withdrawAll 8 (some .int) E := hx
  have hX := hC.1
  have hc40 := hC.2.2.1
  have loop1 : ∀ (r i : Nat) (I' : aI), i + r = nc → (∀ a k, (k ≠ 8 ∨ a < 100 ∨ 100 + i ≤ a) → I' a k = I a k) → (∀ j, j < i → I' (100 + j) 8 = if I (100 + j) 8 ≠ 0 ∧ goP nm (fun k => L (100 + k) 7) (gnS nm (fun k => L (100 + k) 7) (fun k => I (100 + k) 8) j) j then 0 else I (100 + j) 8) → ∀ w1 w2, aG p l e rmX3_withdrawAll s m args below meth c E io0 S 8 (vx_MQ below (aQc E io0 S Kr) (aXC E io0 S Kx) args s rmX3_withdrawAll.cells rmX3_withdrawAll.slots (aW E)) 5 [.ref 3, .long nm, aU, .long (gnS nm (fun k => L (100 + k) 7) (fun k => I (100 + k) 8) i), aU, .int (nI i), w1, w2] [] (S) (I') (L) (Rf) 0 0 := by
    intro r
    induction r with
    | zero =>
      intro i I' hi h1 h2 w1 w2
      have hi : i = nc := by omega
      subst hi
      refine g_iloadG hx dX3_withdrawAll_5 (nx := 7) rfl rfl ?_
      refine g_aloadG_n hx dX3_withdrawAll_7 rfl (nx := 8) rfl rfl ?_
      refine g_getfo_i hx dX3_withdrawAll_8 (nx := 11) rfl fa_X3_198 rfl (hX.1 0 _ rfl) (by decide) ?_
      refine g_icmp_ge hx dX3_withdrawAll_11 (tg := 97) (by decide) (nx := 14) rfl (fun c11 => ?_) (fun c11 => ?_)
      · refine g_lloadG_n hx dX3_withdrawAll_97 rfl (nx := 98) rfl rfl ?_
        refine g_callS_M hx [_] (k' := 0) (n' := 0) dX3_withdrawAll_98 (nx := 101) rfl lk_X3_189 rfl (Nat.le_of_ble_eq_true rfl) (Nat.le_of_ble_eq_true rfl) (Nat.le_of_ble_eq_true rfl) (Nat.le_of_ble_eq_true rfl) (Nat.le_of_ble_eq_true rfl) (Nat.le_of_ble_eq_true rfl) (Nat.le_of_ble_eq_true rfl) (s_J13_bitCount_95d88 hst ?_)
        refine g_iret hx dX3_withdrawAll_101 rfl rfl (Nat.le_of_ble_eq_true rfl) (Nat.le_of_ble_eq_true rfl) ?_
        exact hk I' h1 h2
      · exact absurd (by rw [h1 3 6 (by omega), hC.i6]; exact Int32.le_refl _) c11
    | succ r ih =>
      intro i I' hi h1 h2 w1 w2
      have hn : (nI i).toNatClampNeg = i := nI_clamp (by omega)
      obtain ⟨c, hce⟩ : ∃ c, c = 100 + i := ⟨_, rfl⟩
      have cS : S c = some (.inr 0) := by rw [hce]; exact (hC.cl (by omega)).1
      have hr6 : Rf 6 (nI i).toNatClampNeg = some c := by rw [hn, hce]; exact (hC.cl (by omega)).2
      refine g_iloadG hx dX3_withdrawAll_5 (nx := 7) rfl rfl ?_
      refine g_aloadG_n hx dX3_withdrawAll_7 rfl (nx := 8) rfl rfl ?_
      refine g_getfo_i hx dX3_withdrawAll_8 (nx := 11) rfl fa_X3_198 rfl (hX.1 0 _ rfl) (by decide) ?_
      refine g_icmp_ge hx dX3_withdrawAll_11 (tg := 97) (by decide) (nx := 14) rfl (fun c11 => ?_) (fun c11 => ?_)
      · exact absurd c11 (by rw [h1 3 6 (by omega), hC.i6]; exact nI_ge (by omega) (by omega))
      · refine g_aloadG_n hx dX3_withdrawAll_14 rfl (nx := 15) rfl rfl ?_
        refine g_getfo_R hx dX3_withdrawAll_15 (nx := 18) rfl fa_X3_30 rfl (r9 := 6) hX.2.2.2.1 (hX.1 0 _ rfl) (by decide) ?_
        refine g_iloadG hx dX3_withdrawAll_18 (nx := 20) rfl rfl ?_
        refine g_aaloadClaim_R hx dX3_withdrawAll_20 (nx := 21) rfl (hX.1 3 _ rfl) (by decide) (vp_in_nI (by omega) (by decide)) (r9 := c) hr6 ?_
        refine g_astore_6 hx dX3_withdrawAll_21 (nx := 23) rfl (by decide) rfl ?_
        refine g_lloadG_n hx dX3_withdrawAll_23 rfl (nx := 24) rfl rfl ?_
        refine g_iloadG hx dX3_withdrawAll_24 (nx := 26) rfl rfl ?_
        refine g_callS_M hx [_] (k' := 0) (n' := 0) dX3_withdrawAll_26 (nx := 29) rfl lk_X3_175 rfl (Nat.le_of_ble_eq_true rfl) (Nat.le_of_ble_eq_true rfl) (Nat.le_of_ble_eq_true rfl) (Nat.le_of_ble_eq_true rfl) (Nat.le_of_ble_eq_true rfl) (Nat.le_of_ble_eq_true rfl) (Nat.le_of_ble_eq_true rfl) (s_X3_bit hst ?_)
        refine g_land hx dX3_withdrawAll_29 (nx := 30) rfl ?_
        refine g_lconst hx dX3_withdrawAll_30 (nx := 31) rfl (v := 0) (by decide) ?_
        refine g_lcmp hx dX3_withdrawAll_31 (nx := 32) rfl ?_
        refine g_if_ne hx dX3_withdrawAll_32 (tg := 52) (by decide) (nx := 35) rfl (fun c32 => ?_) (fun c32 => ?_)
        · refine g_iconst hx dX3_withdrawAll_52 (nx := 53) rfl (v := 1) (by decide) ?_
          refine g_goto hx dX3_withdrawAll_53 (tg := 57) (by decide) ?_
          refine g_istore_7 hx dX3_withdrawAll_57 (nx := 59) rfl (by decide) rfl ?_
          refine g_aloadG hx dX3_withdrawAll_59 (nx := 61) rfl rfl ?_
          refine g_ifnull_R hx dX3_withdrawAll_61 (tg := 91) (by decide) (nx := 64) rfl ?_
          refine g_aloadG hx dX3_withdrawAll_64 (nx := 66) rfl rfl ?_
          refine g_getfn_i hx dX3_withdrawAll_66 (nx := 69) rfl fa_X3_156 rfl cS (by omega) ?_
          refine g_if_eq hx dX3_withdrawAll_69 (tg := 91) (by decide) (nx := 72) rfl (fun c69 => ?_) (fun c69 => ?_)
          · refine g_iinc_5 hx dX3_withdrawAll_91 (nx := 94) rfl (by decide) (v := 1) (by decide) rfl ?_
            refine g_goto hx dX3_withdrawAll_94 (tg := 5) (by decide) ?_
            rw [← nI_succ]
            have e8 : I' c 8 = I (100 + i) 8 := by rw [hce]; exact h1 _ _ (by omega)
            have hno : ¬ (I (100 + i) 8 ≠ 0 ∧ goP nm (fun k => L (100 + k) 7) (gnS nm (fun k => L (100 + k) 7) (fun k => I (100 + k) 8) i) i) := by
              rintro ⟨z1, z2⟩
              first
                | exact z1 (e8 ▸ c69)
                | exact absurd c74 (by decide)
                | (exact z2.elim (fun z => z ((lg_cmp_eq _ _).mp c32)) (fun z => z (by rw [hce] at c49; exact (lg_cmp_eq _ _).mp c49)))
            have eg : gnS nm (fun k => L (100 + k) 7) (fun k => I (100 + k) 8) (i + 1) = gnS nm (fun k => L (100 + k) 7) (fun k => I (100 + k) 8) i := if_neg hno
            rw [← eg]
            refine ih (i + 1) I' (by omega) (fun a k h => h1 a k (by omega)) (fun j hj => ?_) _ _
            by_cases e : j = i
            · subst e; rw [if_neg hno, ← e8, hce]
            · exact h2 j (by omega)
          · refine g_iloadG hx dX3_withdrawAll_72 (nx := 74) rfl rfl ?_
            refine g_if_eq hx dX3_withdrawAll_74 (tg := 91) (by decide) (nx := 77) rfl (fun c74 => ?_) (fun c74 => ?_)
            · exact absurd c74 (by decide)
            · refine g_aloadG hx dX3_withdrawAll_77 (nx := 79) rfl rfl ?_
              refine g_iconst hx dX3_withdrawAll_79 (nx := 80) rfl (v := 0) (by decide) ?_
              refine g_putfn_i hx dX3_withdrawAll_80 (nx := 83) rfl fa_X3_156 rfl rfl rfl (fun r h => by cases h; rfl) cS (by omega) ?_
              refine g_lloadG_n hx dX3_withdrawAll_83 rfl (nx := 84) rfl rfl ?_
              refine g_iloadG hx dX3_withdrawAll_84 (nx := 86) rfl rfl ?_
              refine g_callS_M hx [_] (k' := 0) (n' := 0) dX3_withdrawAll_86 (nx := 89) rfl lk_X3_175 rfl (Nat.le_of_ble_eq_true rfl) (Nat.le_of_ble_eq_true rfl) (Nat.le_of_ble_eq_true rfl) (Nat.le_of_ble_eq_true rfl) (Nat.le_of_ble_eq_true rfl) (Nat.le_of_ble_eq_true rfl) (Nat.le_of_ble_eq_true rfl) (s_X3_bit hst ?_)
              refine g_lor hx dX3_withdrawAll_89 (nx := 90) rfl ?_
              refine g_lstore_3 hx dX3_withdrawAll_90 (nx := 91) rfl (by decide) rfl ?_
              refine g_iinc_5 hx dX3_withdrawAll_91 (nx := 94) rfl (by decide) (v := 1) (by decide) rfl ?_
              refine g_goto hx dX3_withdrawAll_94 (tg := 5) (by decide) ?_
              rw [← nI_succ]
              have e8 : I' c 8 = I (100 + i) 8 := by rw [hce]; exact h1 _ _ (by omega)
              have hyes : I (100 + i) 8 ≠ 0 ∧ goP nm (fun k => L (100 + k) 7) (gnS nm (fun k => L (100 + k) 7) (fun k => I (100 + k) 8) i) i := by
                refine ⟨e8 ▸ c69, ?_⟩
                first
                  | exact absurd rfl c74
                  | exact Or.inl (fun z => c32 ((lg_cmp_eq _ _).mpr z))
                  | exact Or.inr (fun z => c49 ((lg_cmp_eq _ _).mpr (by rw [hce]; exact z)))
              have eg : gnS nm (fun k => L (100 + k) 7) (fun k => I (100 + k) 8) (i + 1) = gnS nm (fun k => L (100 + k) 7) (fun k => I (100 + k) 8) i ||| bitL (nI i) := if_pos hyes
              rw [← eg]
              refine ih (i + 1) _ (by omega) (fun a k h => ?_) (fun j hj => ?_) _ _
              · rw [au2_n (by omega)]; exact h1 a k (by omega)
              · by_cases e : j = i
                · subst e; rw [if_pos hyes, ← hce, au2_s]
                · rw [au2_n (by omega)]; exact h2 j (by omega)
        · refine g_aloadG hx dX3_withdrawAll_35 (nx := 37) rfl rfl ?_
          refine g_ifnull_R hx dX3_withdrawAll_37 (tg := 56) (by decide) (nx := 40) rfl ?_
          refine g_aloadG hx dX3_withdrawAll_40 (nx := 42) rfl rfl ?_
          refine g_getfn_l hx dX3_withdrawAll_42 (nx := 45) rfl fa_X3_178 rfl cS (by omega) ?_
          refine g_lloadG_n hx dX3_withdrawAll_45 rfl (nx := 46) rfl rfl ?_
          refine g_land hx dX3_withdrawAll_46 (nx := 47) rfl ?_
          refine g_lconst hx dX3_withdrawAll_47 (nx := 48) rfl (v := 0) (by decide) ?_
          refine g_lcmp hx dX3_withdrawAll_48 (nx := 49) rfl ?_
          refine g_if_eq hx dX3_withdrawAll_49 (tg := 56) (by decide) (nx := 52) rfl (fun c49 => ?_) (fun c49 => ?_)
          · refine g_iconst hx dX3_withdrawAll_56 (nx := 57) rfl (v := 0) (by decide) ?_
            refine g_istore_7 hx dX3_withdrawAll_57 (nx := 59) rfl (by decide) rfl ?_
            refine g_aloadG hx dX3_withdrawAll_59 (nx := 61) rfl rfl ?_
            refine g_ifnull_R hx dX3_withdrawAll_61 (tg := 91) (by decide) (nx := 64) rfl ?_
            refine g_aloadG hx dX3_withdrawAll_64 (nx := 66) rfl rfl ?_
            refine g_getfn_i hx dX3_withdrawAll_66 (nx := 69) rfl fa_X3_156 rfl cS (by omega) ?_
            refine g_if_eq hx dX3_withdrawAll_69 (tg := 91) (by decide) (nx := 72) rfl (fun c69 => ?_) (fun c69 => ?_)
            · refine g_iinc_5 hx dX3_withdrawAll_91 (nx := 94) rfl (by decide) (v := 1) (by decide) rfl ?_
              refine g_goto hx dX3_withdrawAll_94 (tg := 5) (by decide) ?_
              rw [← nI_succ]
              have e8 : I' c 8 = I (100 + i) 8 := by rw [hce]; exact h1 _ _ (by omega)
              have hno : ¬ (I (100 + i) 8 ≠ 0 ∧ goP nm (fun k => L (100 + k) 7) (gnS nm (fun k => L (100 + k) 7) (fun k => I (100 + k) 8) i) i) := by
                rintro ⟨z1, z2⟩
                first
                  | exact z1 (e8 ▸ c69)
                  | exact absurd c74 (by decide)
                  | (exact z2.elim (fun z => z ((lg_cmp_eq _ _).mp c32)) (fun z => z (by rw [hce] at c49; exact (lg_cmp_eq _ _).mp c49)))
              have eg : gnS nm (fun k => L (100 + k) 7) (fun k => I (100 + k) 8) (i + 1) = gnS nm (fun k => L (100 + k) 7) (fun k => I (100 + k) 8) i := if_neg hno
              rw [← eg]
              refine ih (i + 1) I' (by omega) (fun a k h => h1 a k (by omega)) (fun j hj => ?_) _ _
              by_cases e : j = i
              · subst e; rw [if_neg hno, ← e8, hce]
              · exact h2 j (by omega)
            · refine g_iloadG hx dX3_withdrawAll_72 (nx := 74) rfl rfl ?_
              refine g_if_eq hx dX3_withdrawAll_74 (tg := 91) (by decide) (nx := 77) rfl (fun c74 => ?_) (fun c74 => ?_)
              · refine g_iinc_5 hx dX3_withdrawAll_91 (nx := 94) rfl (by decide) (v := 1) (by decide) rfl ?_
                refine g_goto hx dX3_withdrawAll_94 (tg := 5) (by decide) ?_
                rw [← nI_succ]
                have e8 : I' c 8 = I (100 + i) 8 := by rw [hce]; exact h1 _ _ (by omega)
                have hno : ¬ (I (100 + i) 8 ≠ 0 ∧ goP nm (fun k => L (100 + k) 7) (gnS nm (fun k => L (100 + k) 7) (fun k => I (100 + k) 8) i) i) := by
                  rintro ⟨z1, z2⟩
                  first
                    | exact z1 (e8 ▸ c69)
                    | exact absurd c74 (by decide)
                    | (exact z2.elim (fun z => z ((lg_cmp_eq _ _).mp c32)) (fun z => z (by rw [hce] at c49; exact (lg_cmp_eq _ _).mp c49)))
                have eg : gnS nm (fun k => L (100 + k) 7) (fun k => I (100 + k) 8) (i + 1) = gnS nm (fun k => L (100 + k) 7) (fun k => I (100 + k) 8) i := if_neg hno
                rw [← eg]
                refine ih (i + 1) I' (by omega) (fun a k h => h1 a k (by omega)) (fun j hj => ?_) _ _
                by_cases e : j = i
                · subst e; rw [if_neg hno, ← e8, hce]
                · exact h2 j (by omega)
              · exact absurd c74 (by decide)
          · refine g_iconst hx dX3_withdrawAll_52 (nx := 53) rfl (v := 1) (by decide) ?_
            refine g_goto hx dX3_withdrawAll_53 (tg := 57) (by decide) ?_
            refine g_istore_7 hx dX3_withdrawAll_57 (nx := 59) rfl (by decide) rfl ?_
            refine g_aloadG hx dX3_withdrawAll_59 (nx := 61) rfl rfl ?_
            refine g_ifnull_R hx dX3_withdrawAll_61 (tg := 91) (by decide) (nx := 64) rfl ?_
            refine g_aloadG hx dX3_withdrawAll_64 (nx := 66) rfl rfl ?_
            refine g_getfn_i hx dX3_withdrawAll_66 (nx := 69) rfl fa_X3_156 rfl cS (by omega) ?_
            refine g_if_eq hx dX3_withdrawAll_69 (tg := 91) (by decide) (nx := 72) rfl (fun c69 => ?_) (fun c69 => ?_)
            · refine g_iinc_5 hx dX3_withdrawAll_91 (nx := 94) rfl (by decide) (v := 1) (by decide) rfl ?_
              refine g_goto hx dX3_withdrawAll_94 (tg := 5) (by decide) ?_
              rw [← nI_succ]
              have e8 : I' c 8 = I (100 + i) 8 := by rw [hce]; exact h1 _ _ (by omega)
              have hno : ¬ (I (100 + i) 8 ≠ 0 ∧ goP nm (fun k => L (100 + k) 7) (gnS nm (fun k => L (100 + k) 7) (fun k => I (100 + k) 8) i) i) := by
                rintro ⟨z1, z2⟩
                first
                  | exact z1 (e8 ▸ c69)
                  | exact absurd c74 (by decide)
                  | (exact z2.elim (fun z => z ((lg_cmp_eq _ _).mp c32)) (fun z => z (by rw [hce] at c49; exact (lg_cmp_eq _ _).mp c49)))
              have eg : gnS nm (fun k => L (100 + k) 7) (fun k => I (100 + k) 8) (i + 1) = gnS nm (fun k => L (100 + k) 7) (fun k => I (100 + k) 8) i := if_neg hno
              rw [← eg]
              refine ih (i + 1) I' (by omega) (fun a k h => h1 a k (by omega)) (fun j hj => ?_) _ _
              by_cases e : j = i
              · subst e; rw [if_neg hno, ← e8, hce]
              · exact h2 j (by omega)
            · refine g_iloadG hx dX3_withdrawAll_72 (nx := 74) rfl rfl ?_
              refine g_if_eq hx dX3_withdrawAll_74 (tg := 91) (by decide) (nx := 77) rfl (fun c74 => ?_) (fun c74 => ?_)
              · exact absurd c74 (by decide)
              · refine g_aloadG hx dX3_withdrawAll_77 (nx := 79) rfl rfl ?_
                refine g_iconst hx dX3_withdrawAll_79 (nx := 80) rfl (v := 0) (by decide) ?_
                refine g_putfn_i hx dX3_withdrawAll_80 (nx := 83) rfl fa_X3_156 rfl rfl rfl (fun r h => by cases h; rfl) cS (by omega) ?_
                refine g_lloadG_n hx dX3_withdrawAll_83 rfl (nx := 84) rfl rfl ?_
                refine g_iloadG hx dX3_withdrawAll_84 (nx := 86) rfl rfl ?_
                refine g_callS_M hx [_] (k' := 0) (n' := 0) dX3_withdrawAll_86 (nx := 89) rfl lk_X3_175 rfl (Nat.le_of_ble_eq_true rfl) (Nat.le_of_ble_eq_true rfl) (Nat.le_of_ble_eq_true rfl) (Nat.le_of_ble_eq_true rfl) (Nat.le_of_ble_eq_true rfl) (Nat.le_of_ble_eq_true rfl) (Nat.le_of_ble_eq_true rfl) (s_X3_bit hst ?_)
                refine g_lor hx dX3_withdrawAll_89 (nx := 90) rfl ?_
                refine g_lstore_3 hx dX3_withdrawAll_90 (nx := 91) rfl (by decide) rfl ?_
                refine g_iinc_5 hx dX3_withdrawAll_91 (nx := 94) rfl (by decide) (v := 1) (by decide) rfl ?_
                refine g_goto hx dX3_withdrawAll_94 (tg := 5) (by decide) ?_
                rw [← nI_succ]
                have e8 : I' c 8 = I (100 + i) 8 := by rw [hce]; exact h1 _ _ (by omega)
                have hyes : I (100 + i) 8 ≠ 0 ∧ goP nm (fun k => L (100 + k) 7) (gnS nm (fun k => L (100 + k) 7) (fun k => I (100 + k) 8) i) i := by
                  refine ⟨e8 ▸ c69, ?_⟩
                  first
                    | exact absurd rfl c74
                    | exact Or.inl (fun z => c32 ((lg_cmp_eq _ _).mpr z))
                    | exact Or.inr (fun z => c49 ((lg_cmp_eq _ _).mpr (by rw [hce]; exact z)))
                have eg : gnS nm (fun k => L (100 + k) 7) (fun k => I (100 + k) 8) (i + 1) = gnS nm (fun k => L (100 + k) 7) (fun k => I (100 + k) 8) i ||| bitL (nI i) := if_pos hyes
                rw [← eg]
                refine ih (i + 1) _ (by omega) (fun a k h => ?_) (fun j hj => ?_) _ _
                · rw [au2_n (by omega)]; exact h1 a k (by omega)
                · by_cases e : j = i
                  · subst e; rw [if_pos hyes, ← hce, au2_s]
                  · rw [au2_n (by omega)]; exact h2 j (by omega)
  refine g_lconst hx dX3_withdrawAll_0 (nx := 1) rfl (v := 0) (by decide) ?_
  refine g_lstore_3 hx dX3_withdrawAll_1 (nx := 2) rfl (by decide) rfl ?_
  refine g_iconst hx dX3_withdrawAll_2 (nx := 3) rfl (v := 0) (by decide) ?_
  refine g_istore_5 hx dX3_withdrawAll_3 (nx := 5) rfl (by decide) rfl ?_
  exact loop1 nc 0 I (Nat.zero_add _) (fun _ _ _ => rfl) (fun j h => absurd h (Nat.not_lt_zero _)) _ _

abbrev rmX3_withdraw : Room := { frames := 7, cells := 2, slots := 12, locals := 111 }
set_option maxHeartbeats 4000000 in
set_option maxRecDepth 100000 in
theorem s_X3_withdraw {l : Launch} {E : aE} {S : aS} {I : aI} {L : aL} {Rf : aR} {Kr : aK} {Kx : aX} (hst : l.stackTraces = false) {n nc : Nat} {x : Int32} (hC : lyC S Rf I n nc) (hx1 : ¬ inN x nc → Kx eIO S I L Rf) (hx2 : ∀ i : Nat, i < nc → x = nI i → I (100 + i) 8 = 0 → Kx eIS S I L Rf) (hk : ∀ i : Nat, i < nc → x = nI i → I (100 + i) 8 ≠ 0 → ∀ I', (∀ a k, (k ≠ 8 ∨ a < 100 ∨ 100 + nc ≤ a) → I' a k = I a k) → (∀ j, j < nc → I' (100 + j) 8 = if I (100 + j) 8 ≠ 0 ∧ goP (bitL (nI i)) (fun k => L (100 + k) 7) (gnS (bitL (nI i)) (fun k => L (100 + k) 7) (fun k => I (100 + k) 8) j) j then 0 else I (100 + j) 8) → Kr (some (.int (bcnt (gnS (bitL (nI i)) (fun k => L (100 + k) 7) (fun k => I (100 + k) 8) nc)))) S I' L Rf) : aMet l E yX3_withdraw cX3_withdraw 2 (some .int) rmX3_withdraw [.ref 3, .int x] (S) (I) (L) (Rf) Kr Kx := by
  refine aMet.of (lv0 := [.ref 3, .int x]) (z := 0) (by decide +kernel) hst rfl (Nat.le_of_ble_eq_true rfl) ?_
  intro p e s m args below meth c io0 hx hin hno
  have hx : aCx p l s m args meth c RX3 cX3_withdraw 2 (some .int) E := hx
  have hX := hC.1
  have hc40 := hC.2.2.1
  refine g_aloadG_n hx dX3_withdraw_0 rfl (nx := 1) rfl rfl ?_
  refine g_iloadG_n hx dX3_withdraw_1 rfl (nx := 2) rfl rfl ?_
  refine g_callV_X hx [_] (k' := 1) (n' := 6) dX3_withdraw_2 (nx := 5) rfl lk_X3_139 (hX.1 0 _ rfl) (by decide) rfl rfl (Nat.le_of_ble_eq_true rfl) (Nat.le_of_ble_eq_true rfl) (Nat.le_of_ble_eq_true rfl) (Nat.le_of_ble_eq_true rfl) (Nat.le_of_ble_eq_true rfl) (Nat.le_of_ble_eq_true rfl) (Nat.le_of_ble_eq_true rfl) hno (Nat.le_of_ble_eq_true rfl) (Nat.le_of_ble_eq_true rfl) (s_X3_claimAt hst hC (fun i ih xi => ?_) (fun q => ?_))
  · subst xi
    obtain ⟨ic, ice⟩ : ∃ c, c = 100 + i := ⟨_, rfl⟩
    rw [← ice]
    have iS : S ic = some (.inr 0) := by rw [ice]; exact (hC.cl ih).1
    refine g_getfn_i hx dX3_withdraw_5 (nx := 8) rfl fa_X3_156 rfl iS (by omega) ?_
    refine g_if_ne hx dX3_withdraw_8 (tg := 21) (by decide) (nx := 11) rfl (fun c8 => ?_) (fun c8 => ?_)
    · refine g_aloadG_n hx dX3_withdraw_21 rfl (nx := 22) rfl rfl ?_
      refine g_iloadG_n hx dX3_withdraw_22 rfl (nx := 23) rfl rfl ?_
      refine g_callS_X hx [_] (k' := 1) (n' := 6) dX3_withdraw_23 (nx := 26) rfl lk_X3_175 rfl (Nat.le_of_ble_eq_true rfl) (Nat.le_of_ble_eq_true rfl) (Nat.le_of_ble_eq_true rfl) (Nat.le_of_ble_eq_true rfl) (Nat.le_of_ble_eq_true rfl) (Nat.le_of_ble_eq_true rfl) (Nat.le_of_ble_eq_true rfl) hno (Nat.le_of_ble_eq_true rfl) (Nat.le_of_ble_eq_true rfl) (s_X3_bit hst ?_)
      refine g_callV_X hx [_] (k' := 1) (n' := 6) dX3_withdraw_26 (nx := 29) rfl lk_X3_195 (hX.1 0 _ rfl) (by decide) rfl rfl (Nat.le_of_ble_eq_true rfl) (Nat.le_of_ble_eq_true rfl) (Nat.le_of_ble_eq_true rfl) (Nat.le_of_ble_eq_true rfl) (Nat.le_of_ble_eq_true rfl) (Nat.le_of_ble_eq_true rfl) (Nat.le_of_ble_eq_true rfl) hno (Nat.le_of_ble_eq_true rfl) (Nat.le_of_ble_eq_true rfl) (s_X3_withdrawAll (n := n) (nc := nc) hst hC (fun I' h1 h2 => ?_))
      refine g_iret hx dX3_withdraw_29 rfl rfl (Nat.le_of_ble_eq_true rfl) (Nat.le_of_ble_eq_true rfl) ?_
      subst ice
      exact hk i ih rfl c8 I' h1 h2
    · refine g_throw hx th_X3_55_183_59 dX3_withdraw_11 dX3_withdraw_14 dX3_withdraw_15 dX3_withdraw_17 dX3_withdraw_20 hno (Nat.le_of_ble_eq_true rfl) (Nat.le_of_ble_eq_true rfl) (Nat.le_of_ble_eq_true rfl) (Nat.le_of_ble_eq_true rfl) (Nat.le_of_ble_eq_true rfl) (Nat.le_of_ble_eq_true rfl) ?_
      subst ice
      exact hx2 i ih rfl c8
  · exact hx1 q

abbrev rmX3_holds : Room := { frames := 5, cells := 0, slots := 0, locals := 117 }
set_option maxHeartbeats 4000000 in
set_option maxRecDepth 100000 in
theorem s_X3_holds {l : Launch} {E : aE} {S : aS} {I : aI} {L : aL} {Rf : aR} {Kr : aK} {Kx : aX} (hst : l.stackTraces = false) {n nc c k d : Nat} {oo : Nat → Nat} (hC : lyC S Rf I n nc) (hsi : ∀ k, k < n → ∀ t, t < 256 → vp_in (I (200 + 8 * k + 5) t) 4) (hoo : ∀ k, k < n → I (200 + 8 * k) 13 = nI (oo k) ∧ oo k ≤ 6) (hc : S c = some (.inr 0)) (hc2 : 100 ≤ c) (hk9 : k < n) (hc1 : I c 1 = nI k) (hc4 : I c 4 = nI d) (hd : d ≤ 6) (hk : ∀ I' L', eqX I' I → eqX L' L → Kr (some (.int (zI (hlP I L c (200 + 8 * k) (min d (oo k)))))) S I' L' Rf) : aMet l E yX3_holds cX3_holds 3 (some .boolean) rmX3_holds [.ref 3, .ref c] (S) (I) (L) (Rf) Kr Kx := by
  refine aMet.of (lv0 := [.ref 3, .ref c, aU]) (z := 1) (by decide +kernel) hst rfl (Nat.le_of_ble_eq_true rfl) ?_
  intro p e s m args below meth cc9 io0 hx hin9 hno
  have hx : aCx p l s m args meth cc9 RX3 cX3_holds 3 (some .boolean) E := hx
  have hX := hC.1
  have hn6 := hC.2.1
  obtain ⟨b, hbe⟩ : ∃ b, b = 200 + 8 * k := ⟨_, rfl⟩
  have hB : lyS S Rf b := by rw [hbe]; exact hC.star (Nat.le_of_lt hk9)
  have hb := hB.2.2
  have hkn : (nI k).toNatClampNeg = k := nI_clamp (by omega)
  have hr4 : Rf 4 (I c 1).toNatClampNeg = some b := by rw [hc1, hkn, hbe]; exact hC.r4 hk9
  have hin : vp_in (I c 1) 6 := by rw [hc1]; exact vp_in_nI (by omega) (by decide)
  have ho : I b 13 = nI (oo k) := by rw [hbe]; exact (hoo k hk9).1
  rw [← hbe] at hk
  refine g_aloadG_n hx dX3_holds_0 rfl (nx := 1) rfl rfl ?_
  refine g_getfn_i hx dX3_holds_1 (nx := 4) rfl fa_X3_148 rfl hc (by omega) ?_
  refine g_if_lt hx dX3_holds_4 (tg := 30) (by decide) (nx := 7) rfl (fun c4 => ?_) (fun c4 => ?_)
  · exact absurd c4 (by rw [hc1]; exact nI_pos (by omega))
  · refine g_aloadG_n hx dX3_holds_7 rfl (nx := 8) rfl rfl ?_
    refine g_getfn_i hx dX3_holds_8 (nx := 11) rfl fa_X3_148 rfl hc (by omega) ?_
    refine g_aloadG_n hx dX3_holds_11 rfl (nx := 12) rfl rfl ?_
    refine g_getfo_i hx dX3_holds_12 (nx := 15) rfl fa_X3_66 rfl (hX.1 0 _ rfl) (by decide) ?_
    refine g_icmp_ge hx dX3_holds_15 (tg := 30) (by decide) (nx := 18) rfl (fun c15 => ?_) (fun c15 => ?_)
    · exact absurd c15 (by rw [hc1, hC.i1]; exact nI_ge hk9 (by omega))
    · refine g_aloadG_n hx dX3_holds_18 rfl (nx := 19) rfl rfl ?_
      refine g_getfo_R hx dX3_holds_19 (nx := 22) rfl fa_X3_11 rfl (r9 := 4) hX.2.1 (hX.1 0 _ rfl) (by decide) ?_
      refine g_aloadG_n hx dX3_holds_22 rfl (nx := 23) rfl rfl ?_
      refine g_getfn_i hx dX3_holds_23 (nx := 26) rfl fa_X3_148 rfl hc (by omega) ?_
      refine g_aaloadStar_R hx dX3_holds_26 (nx := 27) rfl (hX.1 1 _ rfl) (by decide) hin (r9 := b) hr4 ?_
      refine g_ifnonnull_R hx dX3_holds_27 (tg := 32) (by decide) (nx := 30) rfl ?_
      refine g_aloadG_n hx dX3_holds_32 rfl (nx := 33) rfl rfl ?_
      refine g_getfo_R hx dX3_holds_33 (nx := 36) rfl fa_X3_11 rfl (r9 := 4) hX.2.1 (hX.1 0 _ rfl) (by decide) ?_
      refine g_aloadG_n hx dX3_holds_36 rfl (nx := 37) rfl rfl ?_
      refine g_getfn_i hx dX3_holds_37 (nx := 40) rfl fa_X3_148 rfl hc (by omega) ?_
      refine g_aaloadStar_R hx dX3_holds_40 (nx := 41) rfl (hX.1 1 _ rfl) (by decide) hin (r9 := b) hr4 ?_
      refine g_astore_2 hx dX3_holds_41 (nx := 42) rfl (by decide) rfl ?_
      refine g_aloadG_n hx dX3_holds_42 rfl (nx := 43) rfl rfl ?_
      refine g_getfn_i hx dX3_holds_43 (nx := 46) rfl fa_X3_143 rfl hc (by omega) ?_
      refine g_if_ne hx dX3_holds_46 (tg := 101) (by decide) (nx := 49) rfl (fun c46 => ?_) (fun c46 => ?_)
      · refine g_aloadG_n hx dX3_holds_101 rfl (nx := 102) rfl rfl ?_
        refine g_getfn_i hx dX3_holds_102 (nx := 105) rfl fa_X3_143 rfl hc (by omega) ?_
        refine g_iconst hx dX3_holds_105 (nx := 106) rfl (v := 2) (by decide) ?_
        refine g_icmp_ne hx dX3_holds_106 (tg := 123) (by decide) (nx := 109) rfl (fun c106 => ?_) (fun c106 => ?_)
        · refine g_iconst hx dX3_holds_123 (nx := 124) rfl (v := 1) (by decide) ?_
          refine g_goto hx dX3_holds_124 (tg := 128) (by decide) ?_
          refine g_iret hx dX3_holds_128 rfl rfl (Nat.le_of_ble_eq_true rfl) (Nat.le_of_ble_eq_true rfl) ?_
          first
            | (rw [zI_t (show hlP I L c b (min d (oo k)) from ⟨fun _ => (lg_cmp_eq _ _).mp c92, fun z => absurd (c46.symm.trans z) (by decide)⟩)] at hk; exact hk I' L2 h1 (fun a e k1 k2 k3 => (g1 a e k1).trans (h2 a e k1 k2 k3)))
            | (rw [zI_f (show ¬ hlP I L c b (min d (oo k)) from fun z => c92 ((lg_cmp_eq _ _).mpr (z.1 c46)))] at hk; exact hk I' L2 h1 (fun a e k1 k2 k3 => (g1 a e k1).trans (h2 a e k1 k2 k3)))
            | (rw [zI_t (show hlP I L c b (min d (oo k)) from ⟨fun z => absurd z c46, fun z => absurd z c106⟩)] at hk; exact hk I L (eqX.refl I) (eqX.refl L))
            | (rw [zI_f (show ¬ hlP I L c b (min d (oo k)) from fun z => z.2 c106 (Classical.byContradiction fun w => c120 (zI_f w)))] at hk; exact hk I L (eqX.refl I) (eqX.refl L))
            | (rw [zI_t (show hlP I L c b (min d (oo k)) from ⟨fun z => absurd z c46, fun _ w => absurd (c120.symm.trans (zI_t w)) (by decide)⟩)] at hk; exact hk I L (eqX.refl I) (eqX.refl L))
        · refine g_aloadG_n hx dX3_holds_109 rfl (nx := 110) rfl rfl ?_
          refine g_ldc hx dX3_holds_110 (nx := 112) rfl kc_X3_162 ?_
          refine g_aloadG_n hx dX3_holds_112 rfl (nx := 113) rfl rfl ?_
          refine g_getfn_i hx dX3_holds_113 (nx := 116) rfl fa_X3_151 rfl hc (by omega) ?_
          refine g_imul hx dX3_holds_116 (nx := 117) rfl ?_
          refine g_callNV_M hx [_] (k' := 0) (n' := 0) dX3_holds_117 (nx := 120) rfl lk_X3_285 (lyS.ob hB) (by omega) rfl rfl (Nat.le_of_ble_eq_true rfl) (Nat.le_of_ble_eq_true rfl) (Nat.le_of_ble_eq_true rfl) (Nat.le_of_ble_eq_true rfl) (Nat.le_of_ble_eq_true rfl) (Nat.le_of_ble_eq_true rfl) (Nat.le_of_ble_eq_true rfl) (s_X2_ringsNear hst hB ?_)
          refine g_if_ne hx dX3_holds_120 (tg := 127) (by decide) (nx := 123) rfl (fun c120 => ?_) (fun c120 => ?_)
          · refine g_iconst hx dX3_holds_127 (nx := 128) rfl (v := 0) (by decide) ?_
            refine g_iret hx dX3_holds_128 rfl rfl (Nat.le_of_ble_eq_true rfl) (Nat.le_of_ble_eq_true rfl) ?_
            first
              | (rw [zI_t (show hlP I L c b (min d (oo k)) from ⟨fun _ => (lg_cmp_eq _ _).mp c92, fun z => absurd (c46.symm.trans z) (by decide)⟩)] at hk; exact hk I' L2 h1 (fun a e k1 k2 k3 => (g1 a e k1).trans (h2 a e k1 k2 k3)))
              | (rw [zI_f (show ¬ hlP I L c b (min d (oo k)) from fun z => c92 ((lg_cmp_eq _ _).mpr (z.1 c46)))] at hk; exact hk I' L2 h1 (fun a e k1 k2 k3 => (g1 a e k1).trans (h2 a e k1 k2 k3)))
              | (rw [zI_t (show hlP I L c b (min d (oo k)) from ⟨fun z => absurd z c46, fun z => absurd z c106⟩)] at hk; exact hk I L (eqX.refl I) (eqX.refl L))
              | (rw [zI_f (show ¬ hlP I L c b (min d (oo k)) from fun z => z.2 c106 (Classical.byContradiction fun w => c120 (zI_f w)))] at hk; exact hk I L (eqX.refl I) (eqX.refl L))
              | (rw [zI_t (show hlP I L c b (min d (oo k)) from ⟨fun z => absurd z c46, fun _ w => absurd (c120.symm.trans (zI_t w)) (by decide)⟩)] at hk; exact hk I L (eqX.refl I) (eqX.refl L))
          · refine g_iconst hx dX3_holds_123 (nx := 124) rfl (v := 1) (by decide) ?_
            refine g_goto hx dX3_holds_124 (tg := 128) (by decide) ?_
            refine g_iret hx dX3_holds_128 rfl rfl (Nat.le_of_ble_eq_true rfl) (Nat.le_of_ble_eq_true rfl) ?_
            first
              | (rw [zI_t (show hlP I L c b (min d (oo k)) from ⟨fun _ => (lg_cmp_eq _ _).mp c92, fun z => absurd (c46.symm.trans z) (by decide)⟩)] at hk; exact hk I' L2 h1 (fun a e k1 k2 k3 => (g1 a e k1).trans (h2 a e k1 k2 k3)))
              | (rw [zI_f (show ¬ hlP I L c b (min d (oo k)) from fun z => c92 ((lg_cmp_eq _ _).mpr (z.1 c46)))] at hk; exact hk I' L2 h1 (fun a e k1 k2 k3 => (g1 a e k1).trans (h2 a e k1 k2 k3)))
              | (rw [zI_t (show hlP I L c b (min d (oo k)) from ⟨fun z => absurd z c46, fun z => absurd z c106⟩)] at hk; exact hk I L (eqX.refl I) (eqX.refl L))
              | (rw [zI_f (show ¬ hlP I L c b (min d (oo k)) from fun z => z.2 c106 (Classical.byContradiction fun w => c120 (zI_f w)))] at hk; exact hk I L (eqX.refl I) (eqX.refl L))
              | (rw [zI_t (show hlP I L c b (min d (oo k)) from ⟨fun z => absurd z c46, fun _ w => absurd (c120.symm.trans (zI_t w)) (by decide)⟩)] at hk; exact hk I L (eqX.refl I) (eqX.refl L))
      · refine g_aloadG_n hx dX3_holds_49 rfl (nx := 50) rfl rfl ?_
        refine g_getfo_R hx dX3_holds_50 (nx := 53) rfl fa_X3_37 rfl (r9 := 7) hX.2.2.2.2.1 (hX.1 0 _ rfl) (by decide) ?_
        refine g_aloadG_n hx dX3_holds_53 rfl (nx := 54) rfl rfl ?_
        refine g_aloadG_n hx dX3_holds_54 rfl (nx := 55) rfl rfl ?_
        refine g_getfo_R hx dX3_holds_55 (nx := 58) rfl fa_X3_20 rfl (r9 := 5) hX.2.2.1 (hX.1 0 _ rfl) (by decide) ?_
        refine g_aloadG_n hx dX3_holds_58 rfl (nx := 59) rfl rfl ?_
        refine g_getfn_i hx dX3_holds_59 (nx := 62) rfl fa_X3_123 rfl hc (by omega) ?_
        refine g_aloadG_n hx dX3_holds_62 rfl (nx := 63) rfl rfl ?_
        refine g_getfn_i hx dX3_holds_63 (nx := 66) rfl fa_X3_126 rfl hc (by omega) ?_
        refine g_aloadG_n hx dX3_holds_66 rfl (nx := 67) rfl rfl ?_
        refine g_getfn_i hx dX3_holds_67 (nx := 70) rfl fa_X3_101 rfl (lyS.ob hB) (by omega) ?_
        refine g_callS_M hx [_, _] (k' := 0) (n' := 0) dX3_holds_70 (nx := 73) rfl lk_X3_281 rfl (Nat.le_of_ble_eq_true rfl) (Nat.le_of_ble_eq_true rfl) (Nat.le_of_ble_eq_true rfl) (Nat.le_of_ble_eq_true rfl) (Nat.le_of_ble_eq_true rfl) (Nat.le_of_ble_eq_true rfl) (Nat.le_of_ble_eq_true rfl) (s_J9_min_7cf53 hst ?_)
        have em : imin (I c 4) (I b 13) = nI (min d (oo k)) := by
          rw [hc4, ho, imin]
          split
          · rename_i z; rw [nI_ltI (by have := (hoo k hk9).2; omega) (by omega)] at z; rw [Nat.min_eq_right (by omega)]
          · rename_i z; rw [nI_ltI (by have := (hoo k hk9).2; omega) (by omega)] at z; rw [Nat.min_eq_left (by omega)]
        rw [em]
        refine g_callNV_M hx [_, _, _, _] (k' := 0) (n' := 0) dX3_holds_73 (nx := 76) rfl lk_X3_240 (hX.1 4 _ rfl) (by decide) rfl rfl (Nat.le_of_ble_eq_true rfl) (Nat.le_of_ble_eq_true rfl) (Nat.le_of_ble_eq_true rfl) (Nat.le_of_ble_eq_true rfl) (Nat.le_of_ble_eq_true rfl) (Nat.le_of_ble_eq_true rfl) (Nat.le_of_ble_eq_true rfl) (s_X1_look (k := min d (oo k)) hst hX hB (by rw [hbe]; exact hsi k hk9) (by omega) (fun I' L' h1 h2 h3 => ?_))
        refine g_aloadG_n hx dX3_holds_76 rfl (nx := 77) rfl rfl ?_
        refine g_getfo_R hx dX3_holds_77 (nx := 80) rfl fa_X3_37 rfl (r9 := 7) hX.2.2.2.2.1 (hX.1 0 _ rfl) (by decide) ?_
        refine g_aloadG_n hx dX3_holds_80 rfl (nx := 81) rfl rfl ?_
        refine g_getfn_i hx dX3_holds_81 (nx := 84) rfl fa_X3_151 rfl hc (by omega) ?_
        have e2 : I' c 2 = I c 2 := h1 _ _ (by omega) (by omega) (by omega)
        rw [e2]
        refine g_callNV_M hx [_] (k' := 0) (n' := 0) dX3_holds_84 (nx := 87) rfl lk_X3_127 (hX.1 4 _ rfl) (by decide) rfl rfl (Nat.le_of_ble_eq_true rfl) (Nat.le_of_ble_eq_true rfl) (Nat.le_of_ble_eq_true rfl) (Nat.le_of_ble_eq_true rfl) (Nat.le_of_ble_eq_true rfl) (Nat.le_of_ble_eq_true rfl) (Nat.le_of_ble_eq_true rfl) (s_X1_strength hst hX h3 (fun L2 g1 => ?_))
        refine g_aloadG_n hx dX3_holds_87 rfl (nx := 88) rfl rfl ?_
        refine g_getfn_l hx dX3_holds_88 (nx := 91) rfl fa_X3_131 rfl hc (by omega) ?_
        have e5 : L2 c 5 = L c 5 := (g1 _ _ (by omega)).trans (h2 _ _ (by omega) (by omega) (by omega))
        rw [e5]
        refine g_lcmp hx dX3_holds_91 (nx := 92) rfl ?_
        refine g_if_ne hx dX3_holds_92 (tg := 99) (by decide) (nx := 95) rfl (fun c92 => ?_) (fun c92 => ?_)
        · refine g_iconst hx dX3_holds_99 (nx := 100) rfl (v := 0) (by decide) ?_
          refine g_iret hx dX3_holds_100 rfl rfl (Nat.le_of_ble_eq_true rfl) (Nat.le_of_ble_eq_true rfl) ?_
          first
            | (rw [zI_t (show hlP I L c b (min d (oo k)) from ⟨fun _ => (lg_cmp_eq _ _).mp c92, fun z => absurd (c46.symm.trans z) (by decide)⟩)] at hk; exact hk I' L2 h1 (fun a e k1 k2 k3 => (g1 a e k1).trans (h2 a e k1 k2 k3)))
            | (rw [zI_f (show ¬ hlP I L c b (min d (oo k)) from fun z => c92 ((lg_cmp_eq _ _).mpr (z.1 c46)))] at hk; exact hk I' L2 h1 (fun a e k1 k2 k3 => (g1 a e k1).trans (h2 a e k1 k2 k3)))
            | (rw [zI_t (show hlP I L c b (min d (oo k)) from ⟨fun z => absurd z c46, fun z => absurd z c106⟩)] at hk; exact hk I L (eqX.refl I) (eqX.refl L))
            | (rw [zI_f (show ¬ hlP I L c b (min d (oo k)) from fun z => z.2 c106 (Classical.byContradiction fun w => c120 (zI_f w)))] at hk; exact hk I L (eqX.refl I) (eqX.refl L))
            | (rw [zI_t (show hlP I L c b (min d (oo k)) from ⟨fun z => absurd z c46, fun _ w => absurd (c120.symm.trans (zI_t w)) (by decide)⟩)] at hk; exact hk I L (eqX.refl I) (eqX.refl L))
        · refine g_iconst hx dX3_holds_95 (nx := 96) rfl (v := 1) (by decide) ?_
          refine g_goto hx dX3_holds_96 (tg := 100) (by decide) ?_
          refine g_iret hx dX3_holds_100 rfl rfl (Nat.le_of_ble_eq_true rfl) (Nat.le_of_ble_eq_true rfl) ?_
          first
            | (rw [zI_t (show hlP I L c b (min d (oo k)) from ⟨fun _ => (lg_cmp_eq _ _).mp c92, fun z => absurd (c46.symm.trans z) (by decide)⟩)] at hk; exact hk I' L2 h1 (fun a e k1 k2 k3 => (g1 a e k1).trans (h2 a e k1 k2 k3)))
            | (rw [zI_f (show ¬ hlP I L c b (min d (oo k)) from fun z => c92 ((lg_cmp_eq _ _).mpr (z.1 c46)))] at hk; exact hk I' L2 h1 (fun a e k1 k2 k3 => (g1 a e k1).trans (h2 a e k1 k2 k3)))
            | (rw [zI_t (show hlP I L c b (min d (oo k)) from ⟨fun z => absurd z c46, fun z => absurd z c106⟩)] at hk; exact hk I L (eqX.refl I) (eqX.refl L))
            | (rw [zI_f (show ¬ hlP I L c b (min d (oo k)) from fun z => z.2 c106 (Classical.byContradiction fun w => c120 (zI_f w)))] at hk; exact hk I L (eqX.refl I) (eqX.refl L))
            | (rw [zI_t (show hlP I L c b (min d (oo k)) from ⟨fun z => absurd z c46, fun _ w => absurd (c120.symm.trans (zI_t w)) (by decide)⟩)] at hk; exact hk I L (eqX.refl I) (eqX.refl L))

theorem zI_nar (p : Prop) : narrow .boolean (.int (zI p)) = .int (zI p) := by
  by_cases h : p
  · rw [zI_t h]; rfl
  · rw [zI_f h]; rfl
abbrev rmX3_isSound : Room := { frames := 7, cells := 1, slots := 6, locals := 139 }
set_option maxHeartbeats 4000000 in
set_option maxRecDepth 100000 in
theorem s_X3_isSound {l : Launch} {E : aE} {S : aS} {I : aI} {L : aL} {Rf : aR} {Kr : aK} {Kx : aX} (hst : l.stackTraces = false) {n nc : Nat} {oo sc dc : Nat → Nat} {x : Int32} (hC : lyC S Rf I n nc) (hsi : ∀ k, k < n → ∀ t, t < 256 → vp_in (I (200 + 8 * k + 5) t) 4) (hoo : ∀ k, k < n → I (200 + 8 * k) 13 = nI (oo k) ∧ oo k ≤ 6) (hcf : ∀ j, j < nc → sc j < n ∧ I (100 + j) 1 = nI (sc j) ∧ I (100 + j) 4 = nI (dc j) ∧ dc j ≤ 6) (hx1 : ¬ inN x nc → Kx eIO S I L Rf) (hk : ∀ i : Nat, i < nc → x = nI i → ∀ I' L', eqX I' I → eqX L' L → Kr (some (.int (zI (hlP I L (100 + i) (200 + 8 * sc i) (min (dc i) (oo (sc i))))))) S I' L' Rf) : aMet l E yX3_isSound cX3_isSound 2 (some .boolean) rmX3_isSound [.ref 3, .int x] (S) (I) (L) (Rf) Kr Kx := by
  refine aMet.of (lv0 := [.ref 3, .int x]) (z := 0) (by decide +kernel) hst rfl (Nat.le_of_ble_eq_true rfl) ?_
  intro p e s m args below meth c io0 hx hin hno
  have hx : aCx p l s m args meth c RX3 cX3_isSound 2 (some .boolean) E := hx
  have hX := hC.1
  have hc40 := hC.2.2.1
  refine g_aloadG_n hx dX3_isSound_0 rfl (nx := 1) rfl rfl ?_
  refine g_aloadG_n hx dX3_isSound_1 rfl (nx := 2) rfl rfl ?_
  refine g_iloadG_n hx dX3_isSound_2 rfl (nx := 3) rfl rfl ?_
  refine g_callV_X hx [_] (k' := 1) (n' := 6) dX3_isSound_3 (nx := 6) rfl lk_X3_139 (hX.1 0 _ rfl) (by decide) rfl rfl (Nat.le_of_ble_eq_true rfl) (Nat.le_of_ble_eq_true rfl) (Nat.le_of_ble_eq_true rfl) (Nat.le_of_ble_eq_true rfl) (Nat.le_of_ble_eq_true rfl) (Nat.le_of_ble_eq_true rfl) (Nat.le_of_ble_eq_true rfl) hno (Nat.le_of_ble_eq_true rfl) (Nat.le_of_ble_eq_true rfl) (s_X3_claimAt hst hC (fun i ih xi => ?_) (fun q => ?_))
  · subst xi
    obtain ⟨ic, ice⟩ : ∃ c, c = 100 + i := ⟨_, rfl⟩
    rw [← ice]
    have iS : S ic = some (.inr 0) := by rw [ice]; exact (hC.cl ih).1
    refine g_callV_X hx [_] (k' := 1) (n' := 6) dX3_isSound_6 (nx := 9) rfl lk_X3_201 (hX.1 0 _ rfl) (by decide) rfl rfl (Nat.le_of_ble_eq_true rfl) (Nat.le_of_ble_eq_true rfl) (Nat.le_of_ble_eq_true rfl) (Nat.le_of_ble_eq_true rfl) (Nat.le_of_ble_eq_true rfl) (Nat.le_of_ble_eq_true rfl) (Nat.le_of_ble_eq_true rfl) hno (Nat.le_of_ble_eq_true rfl) (Nat.le_of_ble_eq_true rfl) (s_X3_holds (k := sc i) (d := dc i) (oo := oo) hst hC hsi hoo iS (by omega) (hcf i ih).1 (by rw [ice]; exact (hcf i ih).2.1) (by rw [ice]; exact (hcf i ih).2.2.1) (hcf i ih).2.2.2 (fun I' L' h1 h2 => ?_))
    refine g_iret hx dX3_isSound_9 rfl (zI_nar _) (Nat.le_of_ble_eq_true rfl) (Nat.le_of_ble_eq_true rfl) ?_
    subst ice
    exact hk i ih rfl I' L' h1 h2
  · exact hx1 q

abbrev rmX3_audit : Room := { frames := 6, cells := 0, slots := 0, locals := 139 }
set_option maxHeartbeats 4000000 in
set_option maxRecDepth 100000 in
theorem s_X3_audit {l : Launch} {E : aE} {S : aS} {I : aI} {L : aL} {Rf : aR} {Kr : aK} {Kx : aX} (hst : l.stackTraces = false) {n nc : Nat} {oo sc dc : Nat → Nat} (hC : lyC S Rf I n nc) (hsi : ∀ k, k < n → ∀ t, t < 256 → vp_in (I (200 + 8 * k + 5) t) 4) (hoo : ∀ k, k < n → I (200 + 8 * k) 13 = nI (oo k) ∧ oo k ≤ 6) (hcf : ∀ j, j < nc → sc j < n ∧ I (100 + j) 1 = nI (sc j) ∧ I (100 + j) 4 = nI (dc j) ∧ dc j ≤ 6) (hk : ∀ I' L', (∀ a k, a ≠ 7 → a ≠ 8 → a ≠ 9 → (k ≠ 8 ∨ a < 100 ∨ 100 + nc ≤ a) → I' a k = I a k) → eqX L' L → (∀ j, j < nc → I' (100 + j) 8 = if I (100 + j) 8 ≠ 0 ∧ goP (usS (fun j => hlP I L (100 + j) (200 + 8 * sc j) (min (dc j) (oo (sc j)))) (fun j => I (100 + j) 8) nc) (fun k => L (100 + k) 7) (gnS (usS (fun j => hlP I L (100 + j) (200 + 8 * sc j) (min (dc j) (oo (sc j)))) (fun j => I (100 + j) 8) nc) (fun k => L (100 + k) 7) (fun k => I (100 + k) 8) j) j then 0 else I (100 + j) 8) → Kr (some (.int (bcnt (gnS (usS (fun j => hlP I L (100 + j) (200 + 8 * sc j) (min (dc j) (oo (sc j)))) (fun j => I (100 + j) 8) nc) (fun k => L (100 + k) 7) (fun k => I (100 + k) 8) nc)))) S I' L' Rf) : aMet l E yX3_audit cX3_audit 5 (some .int) rmX3_audit [.ref 3] (S) (I) (L) (Rf) Kr Kx := by
  refine aMet.of (lv0 := [.ref 3, aU, aU, aU, aU]) (z := 4) (by decide +kernel) hst rfl (Nat.le_of_ble_eq_true rfl) ?_
  intro p e s m args below meth c io0 hx hin hno
  have hx : aCx p l s m args meth c RX3 cX3_audit 5 (some .int) E := hx
  have hX := hC.1
  have hc40 := hC.2.2.1
  have loop1 : ∀ (r i : Nat) (I' : aI) (L' : aL), i + r = nc → eqX I' I → eqX L' L → ∀ w, aG p l e rmX3_audit s m args below meth c E io0 S 5 (vx_MQ below (aQc E io0 S Kr) (aXC E io0 S Kx) args s rmX3_audit.cells rmX3_audit.slots (aW E)) 4 [.ref 3, .long (usS (fun j => hlP I L (100 + j) (200 + 8 * sc j) (min (dc j) (oo (sc j)))) (fun j => I (100 + j) 8) i), aU, .int (nI i), w] [] (S) (I') (L') (Rf) 0 0 := by
    intro r
    induction r with
    | zero =>
      intro i I' L' hi h1 h2 w
      have hi : i = nc := by omega
      subst hi
      refine g_iloadG_n hx dX3_audit_4 rfl (nx := 5) rfl rfl ?_
      refine g_aloadG_n hx dX3_audit_5 rfl (nx := 6) rfl rfl ?_
      refine g_getfo_i hx dX3_audit_6 (nx := 9) rfl fa_X3_198 rfl (hX.1 0 _ rfl) (by decide) ?_
      refine g_icmp_ge hx dX3_audit_9 (tg := 55) (by decide) (nx := 12) rfl (fun c9 => ?_) (fun c9 => ?_)
      · refine g_aloadG_n hx dX3_audit_55 rfl (nx := 56) rfl rfl ?_
        refine g_lloadG_n hx dX3_audit_56 rfl (nx := 57) rfl rfl ?_
        refine g_callV_M hx [_] (k' := 0) (n' := 0) dX3_audit_57 (nx := 60) rfl lk_X3_195 (hX.1 0 _ rfl) (by decide) rfl rfl (Nat.le_of_ble_eq_true rfl) (Nat.le_of_ble_eq_true rfl) (Nat.le_of_ble_eq_true rfl) (Nat.le_of_ble_eq_true rfl) (Nat.le_of_ble_eq_true rfl) (Nat.le_of_ble_eq_true rfl) (Nat.le_of_ble_eq_true rfl) (s_X3_withdrawAll (n := n) (nc := i) hst (hC.I (h1 3 1 (by decide) (by decide) (by decide)) (h1 3 6 (by decide) (by decide) (by decide))) (fun I3 g3 g4 => ?_))
        refine g_iret hx dX3_audit_60 rfl rfl (Nat.le_of_ble_eq_true rfl) (Nat.le_of_ble_eq_true rfl) ?_
        have eL : (fun k => L' (100 + k) 7) = fun k => L (100 + k) 7 := funext fun k => h2 _ _ (by omega) (by omega) (by omega)
        have eI : (fun k => I' (100 + k) 8) = fun k => I (100 + k) 8 := funext fun k => h1 _ _ (by omega) (by omega) (by omega)
        rw [eL, eI]
        refine hk I3 L' (fun a k k1 k2 k3 h => (g3 a k h).trans (h1 a k k1 k2 k3)) h2 (fun j hj => ?_)
        have g5 := g4 j hj
        rw [eL, eI, h1 _ _ (by omega) (by omega) (by omega)] at g5
        exact g5
      · exact absurd (by rw [h1 3 6 (by decide) (by decide) (by decide), hC.i6]; exact Int32.le_refl _) c9
    | succ r ih =>
      intro i I' L' hi h1 h2 w
      have hn : (nI i).toNatClampNeg = i := nI_clamp (by omega)
      obtain ⟨c, hce⟩ : ∃ c, c = 100 + i := ⟨_, rfl⟩
      have cS : S c = some (.inr 0) := by rw [hce]; exact (hC.cl (by omega)).1
      have hr6 : Rf 6 (nI i).toNatClampNeg = some c := by rw [hn, hce]; exact (hC.cl (by omega)).2
      refine g_iloadG_n hx dX3_audit_4 rfl (nx := 5) rfl rfl ?_
      refine g_aloadG_n hx dX3_audit_5 rfl (nx := 6) rfl rfl ?_
      refine g_getfo_i hx dX3_audit_6 (nx := 9) rfl fa_X3_198 rfl (hX.1 0 _ rfl) (by decide) ?_
      refine g_icmp_ge hx dX3_audit_9 (tg := 55) (by decide) (nx := 12) rfl (fun c9 => ?_) (fun c9 => ?_)
      · exact absurd c9 (by rw [h1 3 6 (by decide) (by decide) (by decide), hC.i6]; exact nI_ge (by omega) (by omega))
      · refine g_aloadG_n hx dX3_audit_12 rfl (nx := 13) rfl rfl ?_
        refine g_getfo_R hx dX3_audit_13 (nx := 16) rfl fa_X3_30 rfl (r9 := 6) hX.2.2.2.1 (hX.1 0 _ rfl) (by decide) ?_
        refine g_iloadG_n hx dX3_audit_16 rfl (nx := 17) rfl rfl ?_
        refine g_aaloadClaim_R hx dX3_audit_17 (nx := 18) rfl (hX.1 3 _ rfl) (by decide) (vp_in_nI (by omega) (by decide)) (r9 := c) hr6 ?_
        refine g_astore_4 hx dX3_audit_18 (nx := 20) rfl (by decide) rfl ?_
        refine g_aloadG hx dX3_audit_20 (nx := 22) rfl rfl ?_
        refine g_ifnull_R hx dX3_audit_22 (tg := 49) (by decide) (nx := 25) rfl ?_
        refine g_aloadG hx dX3_audit_25 (nx := 27) rfl rfl ?_
        refine g_getfn_i hx dX3_audit_27 (nx := 30) rfl fa_X3_156 rfl cS (by omega) ?_
        refine g_if_eq hx dX3_audit_30 (tg := 49) (by decide) (nx := 33) rfl (fun c30 => ?_) (fun c30 => ?_)
        · refine g_iinc_3 hx dX3_audit_49 (nx := 52) rfl (by decide) (v := 1) (by decide) rfl ?_
          refine g_goto hx dX3_audit_52 (tg := 4) (by decide) ?_
          rw [← nI_succ]
          have e8 : I' c 8 = I (100 + i) 8 := by rw [hce]; exact h1 _ _ (by omega) (by omega) (by omega)
          first
            | (have eg : usS (fun j => hlP I L (100 + j) (200 + 8 * sc j) (min (dc j) (oo (sc j)))) (fun j => I (100 + j) 8) (i + 1) = usS (fun j => hlP I L (100 + j) (200 + 8 * sc j) (min (dc j) (oo (sc j)))) (fun j => I (100 + j) 8) i := if_neg (fun z => z.1 (show I (100 + i) 8 = 0 from e8 ▸ c30))
               rw [← eg]
               exact ih (i + 1) I' L' (by omega) h1 h2 _)
            | (have eg : usS (fun j => hlP I L (100 + j) (200 + 8 * sc j) (min (dc j) (oo (sc j)))) (fun j => I (100 + j) 8) (i + 1) = usS (fun j => hlP I L (100 + j) (200 + 8 * sc j) (min (dc j) (oo (sc j)))) (fun j => I (100 + j) 8) i := if_neg (fun z => c39 z.2)
               rw [← eg]
               exact ih (i + 1) I2 L2 (by omega) (g1.trans h1) (g2.trans h2) _)
        · refine g_aloadG_n hx dX3_audit_33 rfl (nx := 34) rfl rfl ?_
          refine g_aloadG hx dX3_audit_34 (nx := 36) rfl rfl ?_
          refine g_callV_M hx [_] (k' := 0) (n' := 0) dX3_audit_36 (nx := 39) rfl lk_X3_201 (hX.1 0 _ rfl) (by decide) rfl rfl (Nat.le_of_ble_eq_true rfl) (Nat.le_of_ble_eq_true rfl) (Nat.le_of_ble_eq_true rfl) (Nat.le_of_ble_eq_true rfl) (Nat.le_of_ble_eq_true rfl) (Nat.le_of_ble_eq_true rfl) (Nat.le_of_ble_eq_true rfl) (s_X3_holds (n := n) (nc := nc) (k := sc i) (d := dc i) (oo := oo) hst (hC.I (h1 3 1 (by decide) (by decide) (by decide)) (h1 3 6 (by decide) (by decide) (by decide))) (fun k hk9 t ht => by rw [h1 _ _ (by omega) (by omega) (by omega)]; exact hsi k hk9 t ht) (fun k hk9 => by rw [h1 _ _ (by omega) (by omega) (by omega)]; exact hoo k hk9) cS (by omega) (hcf i (by omega)).1 (by rw [hce, h1 _ _ (by omega) (by omega) (by omega)]; exact (hcf i (by omega)).2.1) (by rw [hce, h1 _ _ (by omega) (by omega) (by omega)]; exact (hcf i (by omega)).2.2.1) (hcf i (by omega)).2.2.2 (fun I2 L2 g1 g2 => ?_))
          rw [show hlP I' L' c (200 + 8 * sc i) (min (dc i) (oo (sc i))) = hlP I L (100 + i) (200 + 8 * sc i) (min (dc i) (oo (sc i))) from by rw [hce]; exact propext (hlP_x h1 h2 (by omega) (by omega))]
          refine g_if_ne hx dX3_audit_39 (tg := 49) (by decide) (nx := 42) rfl (fun c39 => ?_) (fun c39 => ?_)
          · refine g_iinc_3 hx dX3_audit_49 (nx := 52) rfl (by decide) (v := 1) (by decide) rfl ?_
            refine g_goto hx dX3_audit_52 (tg := 4) (by decide) ?_
            rw [← nI_succ]
            have e8 : I' c 8 = I (100 + i) 8 := by rw [hce]; exact h1 _ _ (by omega) (by omega) (by omega)
            first
              | (have eg : usS (fun j => hlP I L (100 + j) (200 + 8 * sc j) (min (dc j) (oo (sc j)))) (fun j => I (100 + j) 8) (i + 1) = usS (fun j => hlP I L (100 + j) (200 + 8 * sc j) (min (dc j) (oo (sc j)))) (fun j => I (100 + j) 8) i := if_neg (fun z => z.1 (show I (100 + i) 8 = 0 from e8 ▸ c30))
                 rw [← eg]
                 exact ih (i + 1) I' L' (by omega) h1 h2 _)
              | (have eg : usS (fun j => hlP I L (100 + j) (200 + 8 * sc j) (min (dc j) (oo (sc j)))) (fun j => I (100 + j) 8) (i + 1) = usS (fun j => hlP I L (100 + j) (200 + 8 * sc j) (min (dc j) (oo (sc j)))) (fun j => I (100 + j) 8) i := if_neg (fun z => c39 z.2)
                 rw [← eg]
                 exact ih (i + 1) I2 L2 (by omega) (g1.trans h1) (g2.trans h2) _)
          · refine g_lloadG_n hx dX3_audit_42 rfl (nx := 43) rfl rfl ?_
            refine g_iloadG_n hx dX3_audit_43 rfl (nx := 44) rfl rfl ?_
            refine g_callS_M hx [_] (k' := 0) (n' := 0) dX3_audit_44 (nx := 47) rfl lk_X3_175 rfl (Nat.le_of_ble_eq_true rfl) (Nat.le_of_ble_eq_true rfl) (Nat.le_of_ble_eq_true rfl) (Nat.le_of_ble_eq_true rfl) (Nat.le_of_ble_eq_true rfl) (Nat.le_of_ble_eq_true rfl) (Nat.le_of_ble_eq_true rfl) (s_X3_bit hst ?_)
            refine g_lor hx dX3_audit_47 (nx := 48) rfl ?_
            refine g_lstore_1 hx dX3_audit_48 (nx := 49) rfl (by decide) rfl ?_
            refine g_iinc_3 hx dX3_audit_49 (nx := 52) rfl (by decide) (v := 1) (by decide) rfl ?_
            refine g_goto hx dX3_audit_52 (tg := 4) (by decide) ?_
            rw [← nI_succ]
            have e8 : I' c 8 = I (100 + i) 8 := by rw [hce]; exact h1 _ _ (by omega) (by omega) (by omega)
            have eg : usS (fun j => hlP I L (100 + j) (200 + 8 * sc j) (min (dc j) (oo (sc j)))) (fun j => I (100 + j) 8) (i + 1) = usS (fun j => hlP I L (100 + j) (200 + 8 * sc j) (min (dc j) (oo (sc j)))) (fun j => I (100 + j) 8) i ||| bitL (nI i) := if_pos ⟨(show I (100 + i) 8 ≠ 0 from e8 ▸ c30), c39⟩
            rw [← eg]
            exact ih (i + 1) I2 L2 (by omega) (g1.trans h1) (g2.trans h2) _
  refine g_lconst hx dX3_audit_0 (nx := 1) rfl (v := 0) (by decide) ?_
  refine g_lstore_1 hx dX3_audit_1 (nx := 2) rfl (by decide) rfl ?_
  refine g_iconst hx dX3_audit_2 (nx := 3) rfl (v := 0) (by decide) ?_
  refine g_istore_3 hx dX3_audit_3 (nx := 4) rfl (by decide) rfl ?_
  exact loop1 nc 0 I L (Nat.zero_add _) (eqX.refl I) (eqX.refl L) _

abbrev rmX3_ofClaim : Room := { frames := 7, cells := 2, slots := 12, locals := 111 }
set_option maxHeartbeats 4000000 in
set_option maxRecDepth 100000 in
theorem s_X3_ofClaim {l : Launch} {E : aE} {S : aS} {I : aI} {L : aL} {Rf : aR} {Kr : aK} {Kx : aX} (hst : l.stackTraces = false) {n nc : Nat} {x y : Int32} (hC : lyC S Rf I n nc) (hx1 : ¬ inN x nc → Kx eIO S I L Rf) (hx2 : inN x nc → ¬ inN y 6 → Kx eIA S I L Rf) (hk0 : ∀ i : Nat, i < nc → x = nI i → y = nI 0 → Kr (some (.int (I (100 + i) 0))) S I L Rf) (hk1 : ∀ i : Nat, i < nc → x = nI i → y = nI 1 → Kr (some (.int (I (100 + i) 1))) S I L Rf) (hk2 : ∀ i : Nat, i < nc → x = nI i → y = nI 2 → Kr (some (.int (I (100 + i) 2))) S I L Rf) (hk3 : ∀ i : Nat, i < nc → x = nI i → y = nI 3 → Kr (some (.int (I (100 + i) 6))) S I L Rf) (hk5 : ∀ i : Nat, i < nc → x = nI i → y = nI 5 → Kr (some (.int (bcnt (L (100 + i) 7)))) S I L Rf) (hk4 : ∀ i : Nat, i < nc → x = nI i → y = nI 4 → ∀ r : Int32, (r = 0 ∧ I (100 + i) 8 = 0) ∨ (r = 1 ∧ I (100 + i) 8 ≠ 0) → Kr (some (.int r)) S I L Rf) : aMet l E yX3_ofClaim cX3_ofClaim 4 (some .int) rmX3_ofClaim [.ref 3, .int x, .int y] (S) (I) (L) (Rf) Kr Kx := by
  refine aMet.of (lv0 := [.ref 3, .int x, .int y, aU]) (z := 1) (by decide +kernel) hst rfl (Nat.le_of_ble_eq_true rfl) ?_
  intro p e s m args below meth c io0 hx hin hno
  have hx : aCx p l s m args meth c RX3 cX3_ofClaim 4 (some .int) E := hx
  have hX := hC.1
  have hc40 := hC.2.2.1
  refine g_aloadG_n hx dX3_ofClaim_0 rfl (nx := 1) rfl rfl ?_
  refine g_iloadG_n hx dX3_ofClaim_1 rfl (nx := 2) rfl rfl ?_
  refine g_callV_X hx [_] (k' := 1) (n' := 6) dX3_ofClaim_2 (nx := 5) rfl lk_X3_139 (hX.1 0 _ rfl) (by decide) rfl rfl (Nat.le_of_ble_eq_true rfl) (Nat.le_of_ble_eq_true rfl) (Nat.le_of_ble_eq_true rfl) (Nat.le_of_ble_eq_true rfl) (Nat.le_of_ble_eq_true rfl) (Nat.le_of_ble_eq_true rfl) (Nat.le_of_ble_eq_true rfl) hno (Nat.le_of_ble_eq_true rfl) (Nat.le_of_ble_eq_true rfl) (s_X3_claimAt hst hC (fun i ih xi => ?_) (fun q => ?_))
  · subst xi
    obtain ⟨ic, ice⟩ : ∃ c, c = 100 + i := ⟨_, rfl⟩
    rw [← ice]
    have iS : S ic = some (.inr 0) := by rw [ice]; exact (hC.cl ih).1
    refine g_astore_3 hx dX3_ofClaim_5 (nx := 6) rfl (by decide) rfl ?_
    refine g_iloadG_n hx dX3_ofClaim_6 rfl (nx := 7) rfl rfl ?_
    by_cases hw9 : inN y 6
    · obtain ⟨w9, hw8, rfl⟩ := hw9
      match w9, hw8 with
      | 0, _ =>
        refine g_tabIn hx dX3_ofClaim_7 (off := 37) (tg := 44) (by decide) (by decide) (by decide) (by decide) ?_
        refine g_aloadG_n hx dX3_ofClaim_44 rfl (nx := 45) rfl rfl ?_
        refine g_getfn_i hx dX3_ofClaim_45 (nx := 48) rfl fa_X3_143 rfl iS (by omega) ?_
        refine g_iret hx dX3_ofClaim_48 rfl rfl (Nat.le_of_ble_eq_true rfl) (Nat.le_of_ble_eq_true rfl) ?_
        subst ice
        exact hk0 i ih rfl rfl
      | 1, _ =>
        refine g_tabIn hx dX3_ofClaim_7 (off := 42) (tg := 49) (by decide) (by decide) (by decide) (by decide) ?_
        refine g_aloadG_n hx dX3_ofClaim_49 rfl (nx := 50) rfl rfl ?_
        refine g_getfn_i hx dX3_ofClaim_50 (nx := 53) rfl fa_X3_148 rfl iS (by omega) ?_
        refine g_iret hx dX3_ofClaim_53 rfl rfl (Nat.le_of_ble_eq_true rfl) (Nat.le_of_ble_eq_true rfl) ?_
        subst ice
        exact hk1 i ih rfl rfl
      | 2, _ =>
        refine g_tabIn hx dX3_ofClaim_7 (off := 47) (tg := 54) (by decide) (by decide) (by decide) (by decide) ?_
        refine g_aloadG_n hx dX3_ofClaim_54 rfl (nx := 55) rfl rfl ?_
        refine g_getfn_i hx dX3_ofClaim_55 (nx := 58) rfl fa_X3_151 rfl iS (by omega) ?_
        refine g_iret hx dX3_ofClaim_58 rfl rfl (Nat.le_of_ble_eq_true rfl) (Nat.le_of_ble_eq_true rfl) ?_
        subst ice
        exact hk2 i ih rfl rfl
      | 3, _ =>
        refine g_tabIn hx dX3_ofClaim_7 (off := 52) (tg := 59) (by decide) (by decide) (by decide) (by decide) ?_
        refine g_aloadG_n hx dX3_ofClaim_59 rfl (nx := 60) rfl rfl ?_
        refine g_getfn_i hx dX3_ofClaim_60 (nx := 63) rfl fa_X3_172 rfl iS (by omega) ?_
        refine g_iret hx dX3_ofClaim_63 rfl rfl (Nat.le_of_ble_eq_true rfl) (Nat.le_of_ble_eq_true rfl) ?_
        subst ice
        exact hk3 i ih rfl rfl
      | 4, _ =>
        refine g_tabIn hx dX3_ofClaim_7 (off := 57) (tg := 64) (by decide) (by decide) (by decide) (by decide) ?_
        refine g_aloadG_n hx dX3_ofClaim_64 rfl (nx := 65) rfl rfl ?_
        refine g_getfn_i hx dX3_ofClaim_65 (nx := 68) rfl fa_X3_156 rfl iS (by omega) ?_
        refine g_if_eq hx dX3_ofClaim_68 (tg := 75) (by decide) (nx := 71) rfl (fun c68 => ?_) (fun c68 => ?_)
        · refine g_iconst hx dX3_ofClaim_75 (nx := 76) rfl (v := 0) (by decide) ?_
          refine g_iret hx dX3_ofClaim_76 rfl rfl (Nat.le_of_ble_eq_true rfl) (Nat.le_of_ble_eq_true rfl) ?_
          subst ice
          first | exact hk4 i ih rfl rfl 0 (Or.inl ⟨rfl, c68⟩) | exact hk4 i ih rfl rfl 1 (Or.inr ⟨rfl, c68⟩)
        · refine g_iconst hx dX3_ofClaim_71 (nx := 72) rfl (v := 1) (by decide) ?_
          refine g_goto hx dX3_ofClaim_72 (tg := 76) (by decide) ?_
          refine g_iret hx dX3_ofClaim_76 rfl rfl (Nat.le_of_ble_eq_true rfl) (Nat.le_of_ble_eq_true rfl) ?_
          subst ice
          first | exact hk4 i ih rfl rfl 0 (Or.inl ⟨rfl, c68⟩) | exact hk4 i ih rfl rfl 1 (Or.inr ⟨rfl, c68⟩)
      | 5, _ =>
        refine g_tabIn hx dX3_ofClaim_7 (off := 70) (tg := 77) (by decide) (by decide) (by decide) (by decide) ?_
        refine g_aloadG_n hx dX3_ofClaim_77 rfl (nx := 78) rfl rfl ?_
        refine g_getfn_l hx dX3_ofClaim_78 (nx := 81) rfl fa_X3_178 rfl iS (by omega) ?_
        refine g_callS_X hx [_] (k' := 1) (n' := 6) dX3_ofClaim_81 (nx := 84) rfl lk_X3_189 rfl (Nat.le_of_ble_eq_true rfl) (Nat.le_of_ble_eq_true rfl) (Nat.le_of_ble_eq_true rfl) (Nat.le_of_ble_eq_true rfl) (Nat.le_of_ble_eq_true rfl) (Nat.le_of_ble_eq_true rfl) (Nat.le_of_ble_eq_true rfl) hno (Nat.le_of_ble_eq_true rfl) (Nat.le_of_ble_eq_true rfl) (s_J13_bitCount_95d88 hst ?_)
        refine g_iret hx dX3_ofClaim_84 rfl rfl (Nat.le_of_ble_eq_true rfl) (Nat.le_of_ble_eq_true rfl) ?_
        subst ice
        exact hk5 i ih rfl rfl
      | w9 + 6, hw8 => exact absurd hw8 (by omega)
    · refine g_tabOut hx dX3_ofClaim_7 (tg := 85) (Decidable.byContradiction fun q => hw9 ?_) (by decide) ?_
      · rw [not_or] at q
        have q1 : ¬ y < 0 := fun z => by have := Int32.lt_iff_toInt_lt.mp z; rw [Int32.toInt_zero] at this; omega
        obtain ⟨j, hj, rfl⟩ := nI_of q1
        rw [nI_toInt hj] at q
        exact ⟨j, by omega, rfl⟩
      · refine g_throw hx th_X3_45_221_49 dX3_ofClaim_85 dX3_ofClaim_88 dX3_ofClaim_89 dX3_ofClaim_91 dX3_ofClaim_94 hno (Nat.le_of_ble_eq_true rfl) (Nat.le_of_ble_eq_true rfl) (Nat.le_of_ble_eq_true rfl) (Nat.le_of_ble_eq_true rfl) (Nat.le_of_ble_eq_true rfl) (Nat.le_of_ble_eq_true rfl) ?_
        exact hx2 ⟨i, ih, rfl⟩ hw9
  · exact hx1 q

