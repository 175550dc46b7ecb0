/-! the class's stars -/
def crS (f g : Nat → Int32) : Nat → Int32
  | 0 => 0
  | n + 1 => crS f g n + 1000 * f n / g n
def slS (g : Nat → Int32) : Nat → Int32
  | 0 => 0
  | 1 => 0
  | n + 2 => slS g (n + 1) + imax 0 (g n - g (n + 1))
def wtS (f : Nat → Int32) : Nat → Int32
  | 0 => 0
  | n + 1 => wtS f n + f n
def spS (f h : Nat → Int32) : Nat → Int32
  | 0 => 0
  | n + 1 => spS f h n + f n * h n
def rg0 (large small order degree : Int32) : Int32 := fdI (large * (2 * order + degree + 3)) 2 - small * degree * (degree + 1)
def rg1 (t core degree : Int32) : Int32 := if degree = 1 then if iabs (t - core) < 500 then (if t < core then t + -((500 - iabs (t - core)) / 2) else t + (500 - iabs (t - core)) / 2) else t else t
def rgD (large small turn core order degree part : Int32) : Int32 := rg1 (rg0 large small order degree) core degree + 10 * turn * part
abbrev rgS (I : aI) (b : Nat) (order degree part : Int32) : Int32 := rgD (I b 6) (I b 7) (I b 8) (I b 9) order degree part
/-- some tone of part 0 is near the spot -/
def nearS (I : aI) (b : Nat) (x : Int32) : Prop := ∃ i j : Nat, 1 ≤ i ∧ i ≤ 12 ∧ j ≤ 2 ∧ iabs (rgS I b (nI i) (nI j) 0 - x) < 20000
theorem step_units {s u : Nat} (hs : 0 < s) : 1000 * u / s + (1000 * u % s + 1000) / s = 1000 * (u + 1) / s ∧ (1000 * u % s + 1000) % s = 1000 * (u + 1) % s := by
  have e : 1000 * (u + 1) = s * (1000 * u / s) + (1000 * u % s + 1000) := by
    have := Nat.div_add_mod (1000 * u) s
    omega
  constructor
  · rw [e, Nat.mul_add_div hs]
  · rw [e, Nat.mul_add_mod]
abbrev rmX2_crossed : Room := { frames := 0, cells := 0, slots := 0, locals := 0 }
set_option maxHeartbeats 4000000 in
set_option maxRecDepth 100000 in
theorem s_X2_crossed {l : Launch} {E : aE} {S : aS} {I : aI} {L : aL} {Rf : aR} {Kr : aK} {Kx : aX} (hst : l.stackTraces = false) {b n : Nat} (hB : lyS S Rf b) (h3 : I b 3 = nI n) (h8 : n ≤ 8) (hsp : ∀ i, i < n → ¬ I (b + 2) i ≤ 0) (hk : Kr (some (.int (crS (fun i => I (b + 1) i) (fun i => I (b + 2) i) n))) S I L Rf) : aMet l E yX2_crossed cX2_crossed 3 (some .int) rmX2_crossed [.ref b] (S) (I) (L) (Rf) Kr Kx := by
  refine aMet.of (lv0 := [.ref b, aU, aU]) (z := 2) (by decide +kernel) hst rfl (Nat.le_of_ble_eq_true rfl) ?_
  intro p e s m args below meth c io0 hx hin hno
  have hx : aCx p l s m args meth c RX2 cX2_crossed 3 (some .int) E := hx
  have hb := hB.2.2
  have loop1 : ∀ (r i : Nat) , i + r = n → aG p l e rmX2_crossed s m args below meth c E io0 S 3 (vx_MQ below (aQc E io0 S Kr) (aXC E io0 S Kx) args s rmX2_crossed.cells rmX2_crossed.slots (aW E)) 4 [.ref b, .int (crS (fun i => I (b + 1) i) (fun i => I (b + 2) i) i), .int (nI i)] [] (S) (I) (L) (Rf) 0 0 := by
    intro r
    induction r with
    | zero =>
      intro i hi
      have hi : i = n := by omega
      refine g_iloadG_n hx dX2_crossed_4 rfl (nx := 5) rfl rfl ?_
      refine g_aloadG_n hx dX2_crossed_5 rfl (nx := 6) rfl rfl ?_
      refine g_getfo_i hx dX2_crossed_6 (nx := 9) rfl fa_X2_36 rfl (lyS.ob hB) (by omega) ?_
      refine g_icmp_ge hx dX2_crossed_9 (tg := 57) (by decide) (nx := 12) rfl (fun c9 => ?_) (fun c9 => ?_)
      · refine g_iloadG_n hx dX2_crossed_57 rfl (nx := 58) rfl rfl ?_
        refine g_iret hx dX2_crossed_58 rfl rfl (Nat.le_of_ble_eq_true rfl) (Nat.le_of_ble_eq_true rfl) ?_
        rw [hi]; exact hk
      · exact absurd (by rw [h3, hi]; exact Int32.le_refl _) c9
    | succ r ih =>
      intro i hi
      have hn : (nI i).toNatClampNeg = i := nI_clamp (by omega)
      have hin : vp_in (nI i) 8 := vp_in_nI (by omega) (by omega)
      have hs := hsp i (by omega)
      refine g_iloadG_n hx dX2_crossed_4 rfl (nx := 5) rfl rfl ?_
      refine g_aloadG_n hx dX2_crossed_5 rfl (nx := 6) rfl rfl ?_
      refine g_getfo_i hx dX2_crossed_6 (nx := 9) rfl fa_X2_36 rfl (lyS.ob hB) (by omega) ?_
      refine g_icmp_ge hx dX2_crossed_9 (tg := 57) (by decide) (nx := 12) rfl (fun c9 => ?_) (fun c9 => ?_)
      · exact absurd c9 (by rw [h3]; exact nI_ge (by omega) (by omega))
      · refine g_iloadG_n hx dX2_crossed_12 rfl (nx := 13) rfl rfl ?_
        refine g_bipush hx dX2_crossed_13 (nx := 15) rfl (v := 8) (by decide) ?_
        refine g_icmp_ge hx dX2_crossed_15 (tg := 57) (by decide) (nx := 18) rfl (fun c15 => ?_) (fun c15 => ?_)
        · exact absurd c15 (nI_ge (b := 8) (by omega) (by decide))
        · refine g_iloadG_n hx dX2_crossed_18 rfl (nx := 19) rfl rfl ?_
          refine g_aloadG_n hx dX2_crossed_19 rfl (nx := 20) rfl rfl ?_
          refine g_getfo_R hx dX2_crossed_20 (nx := 23) rfl fa_X2_15 rfl (r9 := b + 2) (hB.2.1 1 2 rfl) (lyS.ob hB) (by omega) ?_
          refine g_iloadG_n hx dX2_crossed_23 rfl (nx := 24) rfl rfl ?_
          refine g_iaload hx dX2_crossed_24 (nx := 25) rfl (hB.1 2 _ rfl) (by omega) hin ?_
          refine g_if_le hx dX2_crossed_25 (tg := 48) (by decide) (nx := 28) rfl (fun c25 => ?_) (fun c25 => ?_)
          · exact absurd c25 (by rw [hn]; exact hs)
          · refine g_sipush hx dX2_crossed_28 (nx := 31) rfl (v := 1000) (by decide) ?_
            refine g_aloadG_n hx dX2_crossed_31 rfl (nx := 32) rfl rfl ?_
            refine g_getfo_R hx dX2_crossed_32 (nx := 35) rfl fa_X2_9 rfl (r9 := b + 1) (hB.2.1 0 1 rfl) (lyS.ob hB) (by omega) ?_
            refine g_iloadG_n hx dX2_crossed_35 rfl (nx := 36) rfl rfl ?_
            refine g_iaload hx dX2_crossed_36 (nx := 37) rfl (hB.1 1 _ rfl) (by omega) hin ?_
            refine g_imul hx dX2_crossed_37 (nx := 38) rfl ?_
            refine g_aloadG_n hx dX2_crossed_38 rfl (nx := 39) rfl rfl ?_
            refine g_getfo_R hx dX2_crossed_39 (nx := 42) rfl fa_X2_15 rfl (r9 := b + 2) (hB.2.1 1 2 rfl) (lyS.ob hB) (by omega) ?_
            refine g_iloadG_n hx dX2_crossed_42 rfl (nx := 43) rfl rfl ?_
            refine g_iaload hx dX2_crossed_43 (nx := 44) rfl (hB.1 2 _ rfl) (by omega) hin ?_
            refine g_idiv hx dX2_crossed_44 (nx := 45) rfl (fun z => c25 (by rw [z]; exact Int32.le_refl _)) ?_
            refine g_goto hx dX2_crossed_45 (tg := 49) (by decide) ?_
            refine g_iadd hx dX2_crossed_49 (nx := 50) rfl ?_
            refine g_istore_1 hx dX2_crossed_50 (nx := 51) rfl (by decide) rfl ?_
            refine g_iinc_2 hx dX2_crossed_51 (nx := 54) rfl (by decide) (v := 1) (by decide) rfl ?_
            refine g_goto hx dX2_crossed_54 (tg := 4) (by decide) ?_
            rw [← nI_succ, hn]
            exact ih (i + 1) (by omega)
  refine g_iconst hx dX2_crossed_0 (nx := 1) rfl (v := 0) (by decide) ?_
  refine g_istore_1 hx dX2_crossed_1 (nx := 2) rfl (by decide) rfl ?_
  refine g_iconst hx dX2_crossed_2 (nx := 3) rfl (v := 0) (by decide) ?_
  refine g_istore_2 hx dX2_crossed_3 (nx := 4) rfl (by decide) rfl ?_
  exact loop1 n 0 (Nat.zero_add _)

theorem nI_mul (a b : Nat) : nI a * nI b = nI (a * b) := pk_mul a b
abbrev rmX2_crossedByUnits : Room := { frames := 0, cells := 0, slots := 0, locals := 0 }
set_option maxHeartbeats 4000000 in
set_option maxRecDepth 100000 in
theorem s_X2_crossedByUnits {l : Launch} {E : aE} {S : aS} {I : aI} {L : aL} {Rf : aR} {Kr : aK} {Kx : aX} (hst : l.stackTraces = false) {b n : Nat} {f g : Nat → Nat} (hB : lyS S Rf b) (h3 : I b 3 = nI n) (h8 : n ≤ 8) (hsh : ∀ i, i < n → I (b + 1) i = nI (f i) ∧ I (b + 2) i = nI (g i) ∧ f i ≤ 99 ∧ 1 ≤ g i ∧ g i ≤ 99) (hk : Kr (some (.int (crS (fun i => I (b + 1) i) (fun i => I (b + 2) i) n))) S I L Rf) : aMet l E yX2_crossedByUnits cX2_crossedByUnits 5 (some .int) rmX2_crossedByUnits [.ref b] (S) (I) (L) (Rf) Kr Kx := by
  refine aMet.of (lv0 := [.ref b, aU, aU, aU, aU]) (z := 4) (by decide +kernel) hst rfl (Nat.le_of_ble_eq_true rfl) ?_
  intro p e s m args below meth c io0 hx hin hno
  have hx : aCx p l s m args meth c RX2 cX2_crossedByUnits 5 (some .int) E := hx
  have hb := hB.2.2
  have inner : ∀ (j : Nat), j < n → (∀ w1 w2, aG p l e rmX2_crossedByUnits s m args below meth c E io0 S 5 (vx_MQ below (aQc E io0 S Kr) (aXC E io0 S Kx) args s rmX2_crossedByUnits.cells rmX2_crossedByUnits.slots (aW E)) 4 [.ref b, .int (crS (fun i => I (b + 1) i) (fun i => I (b + 2) i) (j + 1)), .int (nI (j + 1)), w1, w2] [] (S) (I) (L) (Rf) 0 0) → ∀ (r i : Nat), i + r = f j → aG p l e rmX2_crossedByUnits s m args below meth c E io0 S 5 (vx_MQ below (aQc E io0 S Kr) (aXC E io0 S Kx) args s rmX2_crossedByUnits.cells rmX2_crossedByUnits.slots (aW E)) 23 [.ref b, .int (crS (fun i => I (b + 1) i) (fun i => I (b + 2) i) j + nI (1000 * i / g j)), .int (nI j), .int (nI (1000 * i % g j)), .int (nI i)] [] (S) (I) (L) (Rf) 0 0 := by
    intro j hj knext r
    have hjn : (nI j).toNatClampNeg = j := nI_clamp (by omega)
    have hjin : vp_in (nI j) 8 := vp_in_nI (by omega) (by omega)
    obtain ⟨hf, hg, hf9, hg1, hg9⟩ := hsh j hj
    induction r with
    | zero =>
      intro i hi
      have hi : i = f j := by omega
      refine g_iloadG hx dX2_crossedByUnits_23 (nx := 25) rfl rfl ?_
      refine g_aloadG_n hx dX2_crossedByUnits_25 rfl (nx := 26) rfl rfl ?_
      refine g_getfo_R hx dX2_crossedByUnits_26 (nx := 29) rfl fa_X2_9 rfl (r9 := b + 1) (hB.2.1 0 1 rfl) (lyS.ob hB) (by omega) ?_
      refine g_iloadG_n hx dX2_crossedByUnits_29 rfl (nx := 30) rfl rfl ?_
      refine g_iaload hx dX2_crossedByUnits_30 (nx := 31) rfl (hB.1 1 _ rfl) (by omega) hjin ?_
      refine g_icmp_ge hx dX2_crossedByUnits_31 (tg := 75) (by decide) (nx := 34) rfl (fun c31 => ?_) (fun c31 => ?_)
      · refine g_iinc_2 hx dX2_crossedByUnits_75 (nx := 78) rfl (by decide) (v := 1) (by decide) rfl ?_
        refine g_goto hx dX2_crossedByUnits_78 (tg := 4) (by decide) ?_
        rw [← nI_succ]
        have e : crS (fun i => I (b + 1) i) (fun i => I (b + 2) i) j + nI (1000 * i / g j) = crS (fun i => I (b + 1) i) (fun i => I (b + 2) i) (j + 1) := by
          show _ = crS (fun i => I (b + 1) i) (fun i => I (b + 2) i) j + 1000 * I (b + 1) j / I (b + 2) j
          rw [hf, hg, hi, show (1000 : Int32) = nI 1000 from rfl, nI_mul, pk_div (by omega) (by omega) (by omega)]
        rw [e]
        exact knext _ _
      · exact absurd (by rw [hjn, hf, hi]; exact Int32.le_refl _) c31
    | succ r ih =>
      intro i hi
      have hu := step_units (s := g j) (u := i) (by omega)
      have hm : 1000 * i % g j < g j := Nat.mod_lt _ (by omega)
      refine g_iloadG hx dX2_crossedByUnits_23 (nx := 25) rfl rfl ?_
      refine g_aloadG_n hx dX2_crossedByUnits_25 rfl (nx := 26) rfl rfl ?_
      refine g_getfo_R hx dX2_crossedByUnits_26 (nx := 29) rfl fa_X2_9 rfl (r9 := b + 1) (hB.2.1 0 1 rfl) (lyS.ob hB) (by omega) ?_
      refine g_iloadG_n hx dX2_crossedByUnits_29 rfl (nx := 30) rfl rfl ?_
      refine g_iaload hx dX2_crossedByUnits_30 (nx := 31) rfl (hB.1 1 _ rfl) (by omega) hjin ?_
      refine g_icmp_ge hx dX2_crossedByUnits_31 (tg := 75) (by decide) (nx := 34) rfl (fun c31 => ?_) (fun c31 => ?_)
      · exact absurd c31 (by rw [hjn, hf]; exact nI_ge (by omega) (by omega))
      · refine g_aloadG_n hx dX2_crossedByUnits_34 rfl (nx := 35) rfl rfl ?_
        refine g_getfo_R hx dX2_crossedByUnits_35 (nx := 38) rfl fa_X2_15 rfl (r9 := b + 2) (hB.2.1 1 2 rfl) (lyS.ob hB) (by omega) ?_
        refine g_iloadG_n hx dX2_crossedByUnits_38 rfl (nx := 39) rfl rfl ?_
        refine g_iaload hx dX2_crossedByUnits_39 (nx := 40) rfl (hB.1 2 _ rfl) (by omega) hjin ?_
        refine g_if_le hx dX2_crossedByUnits_40 (tg := 75) (by decide) (nx := 43) rfl (fun c40 => ?_) (fun c40 => ?_)
        · exact absurd c40 (by rw [hjn, hg]; exact nI_nle (by omega) (by omega))
        · refine g_iincW_3 hx dX2_crossedByUnits_43 (nx := 49) rfl (by decide) (v := 1000) (by decide) rfl ?_
          refine g_iloadG_n hx dX2_crossedByUnits_49 rfl (nx := 50) rfl rfl ?_
          refine g_iloadG_n hx dX2_crossedByUnits_50 rfl (nx := 51) rfl rfl ?_
          refine g_aloadG_n hx dX2_crossedByUnits_51 rfl (nx := 52) rfl rfl ?_
          refine g_getfo_R hx dX2_crossedByUnits_52 (nx := 55) rfl fa_X2_15 rfl (r9 := b + 2) (hB.2.1 1 2 rfl) (lyS.ob hB) (by omega) ?_
          refine g_iloadG_n hx dX2_crossedByUnits_55 rfl (nx := 56) rfl rfl ?_
          refine g_iaload hx dX2_crossedByUnits_56 (nx := 57) rfl (hB.1 2 _ rfl) (by omega) hjin ?_
          refine g_idiv hx dX2_crossedByUnits_57 (nx := 58) rfl (by rw [hjn, hg]; exact nI_ne0 (by omega) (by omega)) ?_
          refine g_iadd hx dX2_crossedByUnits_58 (nx := 59) rfl ?_
          refine g_istore_1 hx dX2_crossedByUnits_59 (nx := 60) rfl (by decide) rfl ?_
          refine g_iloadG_n hx dX2_crossedByUnits_60 rfl (nx := 61) rfl rfl ?_
          refine g_aloadG_n hx dX2_crossedByUnits_61 rfl (nx := 62) rfl rfl ?_
          refine g_getfo_R hx dX2_crossedByUnits_62 (nx := 65) rfl fa_X2_15 rfl (r9 := b + 2) (hB.2.1 1 2 rfl) (lyS.ob hB) (by omega) ?_
          refine g_iloadG_n hx dX2_crossedByUnits_65 rfl (nx := 66) rfl rfl ?_
          refine g_iaload hx dX2_crossedByUnits_66 (nx := 67) rfl (hB.1 2 _ rfl) (by omega) hjin ?_
          refine g_irem hx dX2_crossedByUnits_67 (nx := 68) rfl (by rw [hjn, hg]; exact nI_ne0 (by omega) (by omega)) ?_
          refine g_istore_3 hx dX2_crossedByUnits_68 (nx := 69) rfl (by decide) rfl ?_
          refine g_iinc_4 hx dX2_crossedByUnits_69 (nx := 72) rfl (by decide) (v := 1) (by decide) rfl ?_
          refine g_goto hx dX2_crossedByUnits_72 (tg := 23) (by decide) ?_
          rw [hjn, hg, ← nI_succ, show (1000 : Int32) = nI 1000 from rfl, nI_add, pk_rem (by omega) (by omega) (by omega), pk_div (by omega) (by omega) (by omega), Int32.add_assoc, nI_add, hu.1, hu.2]
          exact ih (i + 1) (by omega)
  have loop1 : ∀ (r i : Nat) , i + r = n → ∀ w1 w2, aG p l e rmX2_crossedByUnits s m args below meth c E io0 S 5 (vx_MQ below (aQc E io0 S Kr) (aXC E io0 S Kx) args s rmX2_crossedByUnits.cells rmX2_crossedByUnits.slots (aW E)) 4 [.ref b, .int (crS (fun i => I (b + 1) i) (fun i => I (b + 2) i) i), .int (nI i), w1, w2] [] (S) (I) (L) (Rf) 0 0 := by
    intro r
    induction r with
    | zero =>
      intro i hi w1 w2
      have hi : i = n := by omega
      refine g_iloadG_n hx dX2_crossedByUnits_4 rfl (nx := 5) rfl rfl ?_
      refine g_aloadG_n hx dX2_crossedByUnits_5 rfl (nx := 6) rfl rfl ?_
      refine g_getfo_i hx dX2_crossedByUnits_6 (nx := 9) rfl fa_X2_36 rfl (lyS.ob hB) (by omega) ?_
      refine g_icmp_ge hx dX2_crossedByUnits_9 (tg := 81) (by decide) (nx := 12) rfl (fun c9 => ?_) (fun c9 => ?_)
      · refine g_iloadG_n hx dX2_crossedByUnits_81 rfl (nx := 82) rfl rfl ?_
        refine g_iret hx dX2_crossedByUnits_82 rfl rfl (Nat.le_of_ble_eq_true rfl) (Nat.le_of_ble_eq_true rfl) ?_
        rw [hi]; exact hk
      · exact absurd (by rw [h3, hi]; exact Int32.le_refl _) c9
    | succ r ih =>
      intro i hi w1 w2
      refine g_iloadG_n hx dX2_crossedByUnits_4 rfl (nx := 5) rfl rfl ?_
      refine g_aloadG_n hx dX2_crossedByUnits_5 rfl (nx := 6) rfl rfl ?_
      refine g_getfo_i hx dX2_crossedByUnits_6 (nx := 9) rfl fa_X2_36 rfl (lyS.ob hB) (by omega) ?_
      refine g_icmp_ge hx dX2_crossedByUnits_9 (tg := 81) (by decide) (nx := 12) rfl (fun c9 => ?_) (fun c9 => ?_)
      · exact absurd c9 (by rw [h3]; exact nI_ge (by omega) (by omega))
      · refine g_iloadG_n hx dX2_crossedByUnits_12 rfl (nx := 13) rfl rfl ?_
        refine g_bipush hx dX2_crossedByUnits_13 (nx := 15) rfl (v := 8) (by decide) ?_
        refine g_icmp_ge hx dX2_crossedByUnits_15 (tg := 81) (by decide) (nx := 18) rfl (fun c15 => ?_) (fun c15 => ?_)
        · exact absurd c15 (nI_ge (b := 8) (by omega) (by decide))
        · refine g_iconst hx dX2_crossedByUnits_18 (nx := 19) rfl (v := 0) (by decide) ?_
          refine g_istore_3 hx dX2_crossedByUnits_19 (nx := 20) rfl (by decide) rfl ?_
          refine g_iconst hx dX2_crossedByUnits_20 (nx := 21) rfl (v := 0) (by decide) ?_
          refine g_istore_4 hx dX2_crossedByUnits_21 (nx := 23) rfl (by decide) rfl ?_
          have K := inner i (by omega) (fun w1 w2 => ih (i + 1) (by omega) w1 w2) (f i) 0 (Nat.zero_add _)
          rw [Nat.mul_zero, Nat.zero_div, Nat.zero_mod, show nI 0 = 0 from rfl, Int32.add_zero] at K
          exact K
  refine g_iconst hx dX2_crossedByUnits_0 (nx := 1) rfl (v := 0) (by decide) ?_
  refine g_istore_1 hx dX2_crossedByUnits_1 (nx := 2) rfl (by decide) rfl ?_
  refine g_iconst hx dX2_crossedByUnits_2 (nx := 3) rfl (v := 0) (by decide) ?_
  refine g_istore_2 hx dX2_crossedByUnits_3 (nx := 4) rfl (by decide) rfl ?_
  exact loop1 n 0 (Nat.zero_add _) _ _

abbrev rmX2_slowed : Room := { frames := 1, cells := 0, slots := 0, locals := 21 }
set_option maxHeartbeats 4000000 in
set_option maxRecDepth 100000 in
theorem s_X2_slowed {l : Launch} {E : aE} {S : aS} {I : aI} {L : aL} {Rf : aR} {Kr : aK} {Kx : aX} (hst : l.stackTraces = false) {b n : Nat} (hB : lyS S Rf b) (h3 : I b 3 = nI n) (h0 : 0 < n) (h8 : n ≤ 8) (hk : Kr (some (.int (slS (fun i => I (b + 2) i) n))) S I L Rf) : aMet l E yX2_slowed cX2_slowed 3 (some .int) rmX2_slowed [.ref b] (S) (I) (L) (Rf) Kr Kx := by
  refine aMet.of (lv0 := [.ref b, aU, aU]) (z := 2) (by decide +kernel) hst rfl (Nat.le_of_ble_eq_true rfl) ?_
  intro p e s m args below meth c io0 hx hin hno
  have hx : aCx p l s m args meth c RX2 cX2_slowed 3 (some .int) E := hx
  have hb := hB.2.2
  have loop1 : ∀ (r i : Nat) , i + r = n - 1 → aG p l e rmX2_slowed s m args below meth c E io0 S 3 (vx_MQ below (aQc E io0 S Kr) (aXC E io0 S Kx) args s rmX2_slowed.cells rmX2_slowed.slots (aW E)) 4 [.ref b, .int (slS (fun i => I (b + 2) i) (i + 1)), .int (nI (i + 1))] [] (S) (I) (L) (Rf) 0 0 := by
    intro r
    induction r with
    | zero =>
      intro i hi
      have hi : i = n - 1 := by omega
      refine g_iloadG_n hx dX2_slowed_4 rfl (nx := 5) rfl rfl ?_
      refine g_aloadG_n hx dX2_slowed_5 rfl (nx := 6) rfl rfl ?_
      refine g_getfo_i hx dX2_slowed_6 (nx := 9) rfl fa_X2_36 rfl (lyS.ob hB) (by omega) ?_
      refine g_icmp_ge hx dX2_slowed_9 (tg := 46) (by decide) (nx := 12) rfl (fun c9 => ?_) (fun c9 => ?_)
      · refine g_iloadG_n hx dX2_slowed_46 rfl (nx := 47) rfl rfl ?_
        refine g_iret hx dX2_slowed_47 rfl rfl (Nat.le_of_ble_eq_true rfl) (Nat.le_of_ble_eq_true rfl) ?_
        rw [show i + 1 = n by omega]; exact hk
      · exact absurd (by rw [h3]; exact nI_le (by omega) (by omega)) c9
    | succ r ih =>
      intro i hi
      have hn : (nI (i + 1)).toNatClampNeg = i + 1 := nI_clamp (by omega)
      have hin : vp_in (nI (i + 1)) 8 := vp_in_nI (by omega) (by omega)
      have e1 : nI (i + 1) - 1 = nI i := nI_pred i
      have hn0 : (nI i).toNatClampNeg = i := nI_clamp (by omega)
      refine g_iloadG_n hx dX2_slowed_4 rfl (nx := 5) rfl rfl ?_
      refine g_aloadG_n hx dX2_slowed_5 rfl (nx := 6) rfl rfl ?_
      refine g_getfo_i hx dX2_slowed_6 (nx := 9) rfl fa_X2_36 rfl (lyS.ob hB) (by omega) ?_
      refine g_icmp_ge hx dX2_slowed_9 (tg := 46) (by decide) (nx := 12) rfl (fun c9 => ?_) (fun c9 => ?_)
      · exact absurd c9 (by rw [h3]; exact nI_ge (by omega) (by omega))
      · refine g_iloadG_n hx dX2_slowed_12 rfl (nx := 13) rfl rfl ?_
        refine g_bipush hx dX2_slowed_13 (nx := 15) rfl (v := 8) (by decide) ?_
        refine g_icmp_ge hx dX2_slowed_15 (tg := 46) (by decide) (nx := 18) rfl (fun c15 => ?_) (fun c15 => ?_)
        · exact absurd c15 (nI_ge (b := 8) (by omega) (by decide))
        · refine g_iloadG_n hx dX2_slowed_18 rfl (nx := 19) rfl rfl ?_
          refine g_iconst hx dX2_slowed_19 (nx := 20) rfl (v := 0) (by decide) ?_
          refine g_aloadG_n hx dX2_slowed_20 rfl (nx := 21) rfl rfl ?_
          refine g_getfo_R hx dX2_slowed_21 (nx := 24) rfl fa_X2_15 rfl (r9 := b + 2) (hB.2.1 1 2 rfl) (lyS.ob hB) (by omega) ?_
          refine g_iloadG_n hx dX2_slowed_24 rfl (nx := 25) rfl rfl ?_
          refine g_iconst hx dX2_slowed_25 (nx := 26) rfl (v := 1) (by decide) ?_
          refine g_isub hx dX2_slowed_26 (nx := 27) rfl ?_
          refine g_iaload hx dX2_slowed_27 (nx := 28) rfl (hB.1 2 _ rfl) (by omega) (by rw [e1]; exact vp_in_nI (by omega) (by omega)) ?_
          refine g_aloadG_n hx dX2_slowed_28 rfl (nx := 29) rfl rfl ?_
          refine g_getfo_R hx dX2_slowed_29 (nx := 32) rfl fa_X2_15 rfl (r9 := b + 2) (hB.2.1 1 2 rfl) (lyS.ob hB) (by omega) ?_
          refine g_iloadG_n hx dX2_slowed_32 rfl (nx := 33) rfl rfl ?_
          refine g_iaload hx dX2_slowed_33 (nx := 34) rfl (hB.1 2 _ rfl) (by omega) hin ?_
          refine g_isub hx dX2_slowed_34 (nx := 35) rfl ?_
          refine g_callS_M hx [_, _] (k' := 0) (n' := 0) dX2_slowed_35 (nx := 38) rfl lk_X2_69 rfl (Nat.le_of_ble_eq_true rfl) (Nat.le_of_ble_eq_true rfl) (Nat.le_of_ble_eq_true rfl) (Nat.le_of_ble_eq_true rfl) (Nat.le_of_ble_eq_true rfl) (Nat.le_of_ble_eq_true rfl) (Nat.le_of_ble_eq_true rfl) (s_J9_max_7cf53 hst ?_)
          refine g_iadd hx dX2_slowed_38 (nx := 39) rfl ?_
          refine g_istore_1 hx dX2_slowed_39 (nx := 40) rfl (by decide) rfl ?_
          refine g_iinc_2 hx dX2_slowed_40 (nx := 43) rfl (by decide) (v := 1) (by decide) rfl ?_
          refine g_goto hx dX2_slowed_43 (tg := 4) (by decide) ?_
          rw [← nI_succ, hn, e1, hn0]
          exact ih (i + 1) (by omega)
  refine g_iconst hx dX2_slowed_0 (nx := 1) rfl (v := 0) (by decide) ?_
  refine g_istore_1 hx dX2_slowed_1 (nx := 2) rfl (by decide) rfl ?_
  refine g_iconst hx dX2_slowed_2 (nx := 3) rfl (v := 1) (by decide) ?_
  refine g_istore_2 hx dX2_slowed_3 (nx := 4) rfl (by decide) rfl ?_
  exact loop1 (n - 1) 0 (Nat.zero_add _)

abbrev rmX2_turned : Room := { frames := 0, cells := 0, slots := 0, locals := 0 }
set_option maxHeartbeats 4000000 in
set_option maxRecDepth 100000 in
theorem s_X2_turned {l : Launch} {E : aE} {S : aS} {I : aI} {L : aL} {Rf : aR} {Kr : aK} {Kx : aX} (hst : l.stackTraces = false) {b n : Nat} (hB : lyS S Rf b) (h3 : I b 3 = nI n) (h8 : n ≤ 8) (hw : ¬ wtS (fun i => I (b + 1) i) n ≤ 0) (hk : Kr (some (.int (spS (fun i => I (b + 1) i) (fun i => I (b + 3) i) n / wtS (fun i => I (b + 1) i) n))) S I L Rf) : aMet l E yX2_turned cX2_turned 4 (some .int) rmX2_turned [.ref b] (S) (I) (L) (Rf) Kr Kx := by
  refine aMet.of (lv0 := [.ref b, aU, aU, aU]) (z := 3) (by decide +kernel) hst rfl (Nat.le_of_ble_eq_true rfl) ?_
  intro p e s m args below meth c io0 hx hin hno
  have hx : aCx p l s m args meth c RX2 cX2_turned 4 (some .int) E := hx
  have hb := hB.2.2
  have loop1 : ∀ (r i : Nat) , i + r = n → aG p l e rmX2_turned s m args below meth c E io0 S 4 (vx_MQ below (aQc E io0 S Kr) (aXC E io0 S Kx) args s rmX2_turned.cells rmX2_turned.slots (aW E)) 6 [.ref b, .int (wtS (fun i => I (b + 1) i) i), .int (spS (fun i => I (b + 1) i) (fun i => I (b + 3) i) i), .int (nI i)] [] (S) (I) (L) (Rf) 0 0 := by
    intro r
    induction r with
    | zero =>
      intro i hi
      have hi : i = n := by omega
      subst hi
      refine g_iloadG_n hx dX2_turned_6 rfl (nx := 7) rfl rfl ?_
      refine g_aloadG_n hx dX2_turned_7 rfl (nx := 8) rfl rfl ?_
      refine g_getfo_i hx dX2_turned_8 (nx := 11) rfl fa_X2_36 rfl (lyS.ob hB) (by omega) ?_
      refine g_icmp_ge hx dX2_turned_11 (tg := 51) (by decide) (nx := 14) rfl (fun c11 => ?_) (fun c11 => ?_)
      · refine g_iloadG_n hx dX2_turned_51 rfl (nx := 52) rfl rfl ?_
        refine g_if_le hx dX2_turned_52 (tg := 61) (by decide) (nx := 55) rfl (fun c52 => ?_) (fun c52 => ?_)
        · exact absurd c52 hw
        · refine g_iloadG_n hx dX2_turned_55 rfl (nx := 56) rfl rfl ?_
          refine g_iloadG_n hx dX2_turned_56 rfl (nx := 57) rfl rfl ?_
          refine g_idiv hx dX2_turned_57 (nx := 58) rfl (fun z => hw (by rw [z]; exact Int32.le_refl _)) ?_
          refine g_goto hx dX2_turned_58 (tg := 62) (by decide) ?_
          refine g_iret hx dX2_turned_62 rfl rfl (Nat.le_of_ble_eq_true rfl) (Nat.le_of_ble_eq_true rfl) ?_
          exact hk
      · exact absurd (by rw [h3]; exact Int32.le_refl _) c11
    | succ r ih =>
      intro i hi
      have hn : (nI i).toNatClampNeg = i := nI_clamp (by omega)
      have hin : vp_in (nI i) 8 := vp_in_nI (by omega) (by omega)
      refine g_iloadG_n hx dX2_turned_6 rfl (nx := 7) rfl rfl ?_
      refine g_aloadG_n hx dX2_turned_7 rfl (nx := 8) rfl rfl ?_
      refine g_getfo_i hx dX2_turned_8 (nx := 11) rfl fa_X2_36 rfl (lyS.ob hB) (by omega) ?_
      refine g_icmp_ge hx dX2_turned_11 (tg := 51) (by decide) (nx := 14) rfl (fun c11 => ?_) (fun c11 => ?_)
      · exact absurd c11 (by rw [h3]; exact nI_ge (by omega) (by omega))
      · refine g_iloadG_n hx dX2_turned_14 rfl (nx := 15) rfl rfl ?_
        refine g_bipush hx dX2_turned_15 (nx := 17) rfl (v := 8) (by decide) ?_
        refine g_icmp_ge hx dX2_turned_17 (tg := 51) (by decide) (nx := 20) rfl (fun c17 => ?_) (fun c17 => ?_)
        · exact absurd c17 (nI_ge (b := 8) (by omega) (by decide))
        · refine g_iloadG_n hx dX2_turned_20 rfl (nx := 21) rfl rfl ?_
          refine g_aloadG_n hx dX2_turned_21 rfl (nx := 22) rfl rfl ?_
          refine g_getfo_R hx dX2_turned_22 (nx := 25) rfl fa_X2_9 rfl (r9 := b + 1) (hB.2.1 0 1 rfl) (lyS.ob hB) (by omega) ?_
          refine g_iloadG_n hx dX2_turned_25 rfl (nx := 26) rfl rfl ?_
          refine g_iaload hx dX2_turned_26 (nx := 27) rfl (hB.1 1 _ rfl) (by omega) hin ?_
          refine g_iadd hx dX2_turned_27 (nx := 28) rfl ?_
          refine g_istore_1 hx dX2_turned_28 (nx := 29) rfl (by decide) rfl ?_
          refine g_iloadG_n hx dX2_turned_29 rfl (nx := 30) rfl rfl ?_
          refine g_aloadG_n hx dX2_turned_30 rfl (nx := 31) rfl rfl ?_
          refine g_getfo_R hx dX2_turned_31 (nx := 34) rfl fa_X2_9 rfl (r9 := b + 1) (hB.2.1 0 1 rfl) (lyS.ob hB) (by omega) ?_
          refine g_iloadG_n hx dX2_turned_34 rfl (nx := 35) rfl rfl ?_
          refine g_iaload hx dX2_turned_35 (nx := 36) rfl (hB.1 1 _ rfl) (by omega) hin ?_
          refine g_aloadG_n hx dX2_turned_36 rfl (nx := 37) rfl rfl ?_
          refine g_getfo_R hx dX2_turned_37 (nx := 40) rfl fa_X2_18 rfl (r9 := b + 3) (hB.2.1 2 3 rfl) (lyS.ob hB) (by omega) ?_
          refine g_iloadG_n hx dX2_turned_40 rfl (nx := 41) rfl rfl ?_
          refine g_iaload hx dX2_turned_41 (nx := 42) rfl (hB.1 3 _ rfl) (by omega) hin ?_
          refine g_imul hx dX2_turned_42 (nx := 43) rfl ?_
          refine g_iadd hx dX2_turned_43 (nx := 44) rfl ?_
          refine g_istore_2 hx dX2_turned_44 (nx := 45) rfl (by decide) rfl ?_
          refine g_iinc_3 hx dX2_turned_45 (nx := 48) rfl (by decide) (v := 1) (by decide) rfl ?_
          refine g_goto hx dX2_turned_48 (tg := 6) (by decide) ?_
          rw [← nI_succ, hn]
          exact ih (i + 1) (by omega)
  refine g_iconst hx dX2_turned_0 (nx := 1) rfl (v := 0) (by decide) ?_
  refine g_istore_1 hx dX2_turned_1 (nx := 2) rfl (by decide) rfl ?_
  refine g_iconst hx dX2_turned_2 (nx := 3) rfl (v := 0) (by decide) ?_
  refine g_istore_2 hx dX2_turned_3 (nx := 4) rfl (by decide) rfl ?_
  refine g_iconst hx dX2_turned_4 (nx := 5) rfl (v := 0) (by decide) ?_
  refine g_istore_3 hx dX2_turned_5 (nx := 6) rfl (by decide) rfl ?_
  exact loop1 n 0 (Nat.zero_add _)

section RG
variable {La Sm Tu Co x y z : Int32}
theorem rg_a (h : y ≠ 1) : rgD La Sm Tu Co x y z = rg0 La Sm x y + 10 * Tu * z := by rw [rgD, rg1, if_neg h]
theorem rg_b (h : y = 1) (h2 : 500 ≤ iabs (rg0 La Sm x y - Co)) : rgD La Sm Tu Co x y z = rg0 La Sm x y + 10 * Tu * z := by rw [rgD, rg1, if_pos h, if_neg (Int32.not_lt.mpr h2)]
theorem rg_c (h : y = 1) (h2 : ¬ 500 ≤ iabs (rg0 La Sm x y - Co)) (h3 : rg0 La Sm x y < Co) : rgD La Sm Tu Co x y z = rg0 La Sm x y + -((500 - iabs (rg0 La Sm x y - Co)) / 2) + 10 * Tu * z := by rw [rgD, rg1, if_pos h, if_pos (Int32.not_le.mp h2), if_pos h3]
theorem rg_d (h : y = 1) (h2 : ¬ 500 ≤ iabs (rg0 La Sm x y - Co)) (h3 : ¬ rg0 La Sm x y < Co) : rgD La Sm Tu Co x y z = rg0 La Sm x y + (500 - iabs (rg0 La Sm x y - Co)) / 2 + 10 * Tu * z := by rw [rgD, rg1, if_pos h, if_pos (Int32.not_le.mp h2), if_neg h3]
end RG
abbrev rmX2_ring : Room := { frames := 1, cells := 0, slots := 0, locals := 22 }
set_option maxHeartbeats 4000000 in
set_option maxRecDepth 100000 in
theorem s_X2_ring {l : Launch} {E : aE} {S : aS} {I : aI} {L : aL} {Rf : aR} {Kr : aK} {Kx : aX} (hst : l.stackTraces = false) {b : Nat} {x y z : Int32} (hB : lyS S Rf b) (hk : Kr (some (.int (rgS I b x y z))) S I L Rf) : aMet l E yX2_ring cX2_ring 7 (some .int) rmX2_ring [.ref b, .int x, .int y, .int z] (S) (I) (L) (Rf) Kr Kx := by
  refine aMet.of (lv0 := [.ref b, .int x, .int y, .int z, aU, aU, aU]) (z := 3) (by decide +kernel) hst rfl (Nat.le_of_ble_eq_true rfl) ?_
  intro p e s m args below meth c io0 hx hin hno
  have hx : aCx p l s m args meth c RX2 cX2_ring 7 (some .int) E := hx
  have hb := hB.2.2
  refine g_aloadG_n hx dX2_ring_0 rfl (nx := 1) rfl rfl ?_
  refine g_getfo_i hx dX2_ring_1 (nx := 4) rfl fa_X2_51 rfl (lyS.ob hB) (by omega) ?_
  refine g_iconst hx dX2_ring_4 (nx := 5) rfl (v := 2) (by decide) ?_
  refine g_iloadG_n hx dX2_ring_5 rfl (nx := 6) rfl rfl ?_
  refine g_imul hx dX2_ring_6 (nx := 7) rfl ?_
  refine g_iloadG_n hx dX2_ring_7 rfl (nx := 8) rfl rfl ?_
  refine g_iadd hx dX2_ring_8 (nx := 9) rfl ?_
  refine g_iconst hx dX2_ring_9 (nx := 10) rfl (v := 3) (by decide) ?_
  refine g_iadd hx dX2_ring_10 (nx := 11) rfl ?_
  refine g_imul hx dX2_ring_11 (nx := 12) rfl ?_
  refine g_iconst hx dX2_ring_12 (nx := 13) rfl (v := 2) (by decide) ?_
  refine g_callS_M hx [_, _] (k' := 0) (n' := 0) dX2_ring_13 (nx := 16) rfl lk_X2_79 rfl (Nat.le_of_ble_eq_true rfl) (Nat.le_of_ble_eq_true rfl) (Nat.le_of_ble_eq_true rfl) (Nat.le_of_ble_eq_true rfl) (Nat.le_of_ble_eq_true rfl) (Nat.le_of_ble_eq_true rfl) (Nat.le_of_ble_eq_true rfl) (s_J9_floorDiv_7cf53 hst (by decide) ?_)
  refine g_aloadG_n hx dX2_ring_16 rfl (nx := 17) rfl rfl ?_
  refine g_getfo_i hx dX2_ring_17 (nx := 20) rfl fa_X2_57 rfl (lyS.ob hB) (by omega) ?_
  refine g_iloadG_n hx dX2_ring_20 rfl (nx := 21) rfl rfl ?_
  refine g_imul hx dX2_ring_21 (nx := 22) rfl ?_
  refine g_iloadG_n hx dX2_ring_22 rfl (nx := 23) rfl rfl ?_
  refine g_iconst hx dX2_ring_23 (nx := 24) rfl (v := 1) (by decide) ?_
  refine g_iadd hx dX2_ring_24 (nx := 25) rfl ?_
  refine g_imul hx dX2_ring_25 (nx := 26) rfl ?_
  refine g_isub hx dX2_ring_26 (nx := 27) rfl ?_
  refine g_istore_4 hx dX2_ring_27 (nx := 29) rfl (by decide) rfl ?_
  refine g_iloadG hx dX2_ring_29 (nx := 31) rfl rfl ?_
  refine g_aloadG_n hx dX2_ring_31 rfl (nx := 32) rfl rfl ?_
  refine g_getfo_i hx dX2_ring_32 (nx := 35) rfl fa_X2_66 rfl (lyS.ob hB) (by omega) ?_
  refine g_isub hx dX2_ring_35 (nx := 36) rfl ?_
  refine g_callS_M hx [_] (k' := 0) (n' := 0) dX2_ring_36 (nx := 39) rfl lk_X2_75 rfl (Nat.le_of_ble_eq_true rfl) (Nat.le_of_ble_eq_true rfl) (Nat.le_of_ble_eq_true rfl) (Nat.le_of_ble_eq_true rfl) (Nat.le_of_ble_eq_true rfl) (Nat.le_of_ble_eq_true rfl) (Nat.le_of_ble_eq_true rfl) (s_J9_abs_0f7a4 hst ?_)
  refine g_istore_5 hx dX2_ring_39 (nx := 41) rfl (by decide) rfl ?_
  refine g_iloadG_n hx dX2_ring_41 rfl (nx := 42) rfl rfl ?_
  refine g_iconst hx dX2_ring_42 (nx := 43) rfl (v := 1) (by decide) ?_
  refine g_icmp_ne hx dX2_ring_43 (tg := 86) (by decide) (nx := 46) rfl (fun c43 => ?_) (fun c43 => ?_)
  · refine g_iloadG hx dX2_ring_86 (nx := 88) rfl rfl ?_
    refine g_bipush hx dX2_ring_88 (nx := 90) rfl (v := 10) (by decide) ?_
    refine g_aloadG_n hx dX2_ring_90 rfl (nx := 91) rfl rfl ?_
    refine g_getfo_i hx dX2_ring_91 (nx := 94) rfl fa_X2_63 rfl (lyS.ob hB) (by omega) ?_
    refine g_imul hx dX2_ring_94 (nx := 95) rfl ?_
    refine g_iloadG_n hx dX2_ring_95 rfl (nx := 96) rfl rfl ?_
    refine g_imul hx dX2_ring_96 (nx := 97) rfl ?_
    refine g_iadd hx dX2_ring_97 (nx := 98) rfl ?_
    refine g_iret hx dX2_ring_98 rfl rfl (Nat.le_of_ble_eq_true rfl) (Nat.le_of_ble_eq_true rfl) ?_
    first
      | (rw [rgS, rg_a c43] at hk; exact hk)
      | (rw [rgS, rg_b c43 c51] at hk; exact hk)
      | (rw [rgS, rg_c c43 c51 c72] at hk; exact hk)
      | (rw [rgS, rg_d c43 c51 c72] at hk; exact hk)
  · refine g_iloadG hx dX2_ring_46 (nx := 48) rfl rfl ?_
    refine g_sipush hx dX2_ring_48 (nx := 51) rfl (v := 500) (by decide) ?_
    refine g_icmp_ge hx dX2_ring_51 (tg := 86) (by decide) (nx := 54) rfl (fun c51 => ?_) (fun c51 => ?_)
    · refine g_iloadG hx dX2_ring_86 (nx := 88) rfl rfl ?_
      refine g_bipush hx dX2_ring_88 (nx := 90) rfl (v := 10) (by decide) ?_
      refine g_aloadG_n hx dX2_ring_90 rfl (nx := 91) rfl rfl ?_
      refine g_getfo_i hx dX2_ring_91 (nx := 94) rfl fa_X2_63 rfl (lyS.ob hB) (by omega) ?_
      refine g_imul hx dX2_ring_94 (nx := 95) rfl ?_
      refine g_iloadG_n hx dX2_ring_95 rfl (nx := 96) rfl rfl ?_
      refine g_imul hx dX2_ring_96 (nx := 97) rfl ?_
      refine g_iadd hx dX2_ring_97 (nx := 98) rfl ?_
      refine g_iret hx dX2_ring_98 rfl rfl (Nat.le_of_ble_eq_true rfl) (Nat.le_of_ble_eq_true rfl) ?_
      first
        | (rw [rgS, rg_a c43] at hk; exact hk)
        | (rw [rgS, rg_b c43 c51] at hk; exact hk)
        | (rw [rgS, rg_c c43 c51 c72] at hk; exact hk)
        | (rw [rgS, rg_d c43 c51 c72] at hk; exact hk)
    · refine g_sipush hx dX2_ring_54 (nx := 57) rfl (v := 500) (by decide) ?_
      refine g_iloadG hx dX2_ring_57 (nx := 59) rfl rfl ?_
      refine g_isub hx dX2_ring_59 (nx := 60) rfl ?_
      refine g_iconst hx dX2_ring_60 (nx := 61) rfl (v := 2) (by decide) ?_
      refine g_idiv hx dX2_ring_61 (nx := 62) rfl (by decide) ?_
      refine g_istore_6 hx dX2_ring_62 (nx := 64) rfl (by decide) rfl ?_
      refine g_iloadG hx dX2_ring_64 (nx := 66) rfl rfl ?_
      refine g_iloadG hx dX2_ring_66 (nx := 68) rfl rfl ?_
      refine g_aloadG_n hx dX2_ring_68 rfl (nx := 69) rfl rfl ?_
      refine g_getfo_i hx dX2_ring_69 (nx := 72) rfl fa_X2_66 rfl (lyS.ob hB) (by omega) ?_
      refine g_icmp_lt hx dX2_ring_72 (tg := 80) (by decide) (nx := 75) rfl (fun c72 => ?_) (fun c72 => ?_)
      · refine g_iloadG hx dX2_ring_80 (nx := 82) rfl rfl ?_
        refine g_ineg hx dX2_ring_82 (nx := 83) rfl ?_
        refine g_iadd hx dX2_ring_83 (nx := 84) rfl ?_
        refine g_istore_4 hx dX2_ring_84 (nx := 86) rfl (by decide) rfl ?_
        refine g_iloadG hx dX2_ring_86 (nx := 88) rfl rfl ?_
        refine g_bipush hx dX2_ring_88 (nx := 90) rfl (v := 10) (by decide) ?_
        refine g_aloadG_n hx dX2_ring_90 rfl (nx := 91) rfl rfl ?_
        refine g_getfo_i hx dX2_ring_91 (nx := 94) rfl fa_X2_63 rfl (lyS.ob hB) (by omega) ?_
        refine g_imul hx dX2_ring_94 (nx := 95) rfl ?_
        refine g_iloadG_n hx dX2_ring_95 rfl (nx := 96) rfl rfl ?_
        refine g_imul hx dX2_ring_96 (nx := 97) rfl ?_
        refine g_iadd hx dX2_ring_97 (nx := 98) rfl ?_
        refine g_iret hx dX2_ring_98 rfl rfl (Nat.le_of_ble_eq_true rfl) (Nat.le_of_ble_eq_true rfl) ?_
        first
          | (rw [rgS, rg_a c43] at hk; exact hk)
          | (rw [rgS, rg_b c43 c51] at hk; exact hk)
          | (rw [rgS, rg_c c43 c51 c72] at hk; exact hk)
          | (rw [rgS, rg_d c43 c51 c72] at hk; exact hk)
      · refine g_iloadG hx dX2_ring_75 (nx := 77) rfl rfl ?_
        refine g_goto hx dX2_ring_77 (tg := 83) (by decide) ?_
        refine g_iadd hx dX2_ring_83 (nx := 84) rfl ?_
        refine g_istore_4 hx dX2_ring_84 (nx := 86) rfl (by decide) rfl ?_
        refine g_iloadG hx dX2_ring_86 (nx := 88) rfl rfl ?_
        refine g_bipush hx dX2_ring_88 (nx := 90) rfl (v := 10) (by decide) ?_
        refine g_aloadG_n hx dX2_ring_90 rfl (nx := 91) rfl rfl ?_
        refine g_getfo_i hx dX2_ring_91 (nx := 94) rfl fa_X2_63 rfl (lyS.ob hB) (by omega) ?_
        refine g_imul hx dX2_ring_94 (nx := 95) rfl ?_
        refine g_iloadG_n hx dX2_ring_95 rfl (nx := 96) rfl rfl ?_
        refine g_imul hx dX2_ring_96 (nx := 97) rfl ?_
        refine g_iadd hx dX2_ring_97 (nx := 98) rfl ?_
        refine g_iret hx dX2_ring_98 rfl rfl (Nat.le_of_ble_eq_true rfl) (Nat.le_of_ble_eq_true rfl) ?_
        first
          | (rw [rgS, rg_a c43] at hk; exact hk)
          | (rw [rgS, rg_b c43 c51] at hk; exact hk)
          | (rw [rgS, rg_c c43 c51 c72] at hk; exact hk)
          | (rw [rgS, rg_d c43 c51 c72] at hk; exact hk)

abbrev rmX2_awayFrom : Room := { frames := 1, cells := 0, slots := 0, locals := 20 }
set_option maxHeartbeats 4000000 in
set_option maxRecDepth 100000 in
theorem s_X2_awayFrom {l : Launch} {E : aE} {S : aS} {I : aI} {L : aL} {Rf : aR} {Kr : aK} {Kx : aX} (hst : l.stackTraces = false) {b : Nat} {x : Int32} (hB : lyS S Rf b) (hk : Kr (some (.int (iabs (I b 6 - x)))) S I L Rf) : aMet l E yX2_awayFrom cX2_awayFrom 2 (some .int) rmX2_awayFrom [.ref b, .int x] (S) (I) (L) (Rf) Kr Kx := by
  refine aMet.of (lv0 := [.ref b, .int x]) (z := 0) (by decide +kernel) hst rfl (Nat.le_of_ble_eq_true rfl) ?_
  intro p e s m args below meth c io0 hx hin hno
  have hx : aCx p l s m args meth c RX2 cX2_awayFrom 2 (some .int) E := hx
  have hb := hB.2.2
  refine g_aloadG_n hx dX2_awayFrom_0 rfl (nx := 1) rfl rfl ?_
  refine g_getfo_i hx dX2_awayFrom_1 (nx := 4) rfl fa_X2_51 rfl (lyS.ob hB) (by omega) ?_
  refine g_iloadG_n hx dX2_awayFrom_4 rfl (nx := 5) rfl rfl ?_
  refine g_isub hx dX2_awayFrom_5 (nx := 6) rfl ?_
  refine g_callS_M hx [_] (k' := 0) (n' := 0) dX2_awayFrom_6 (nx := 9) rfl lk_X2_75 rfl (Nat.le_of_ble_eq_true rfl) (Nat.le_of_ble_eq_true rfl) (Nat.le_of_ble_eq_true rfl) (Nat.le_of_ble_eq_true rfl) (Nat.le_of_ble_eq_true rfl) (Nat.le_of_ble_eq_true rfl) (Nat.le_of_ble_eq_true rfl) (s_J9_abs_0f7a4 hst ?_)
  refine g_iret hx dX2_awayFrom_9 rfl rfl (Nat.le_of_ble_eq_true rfl) (Nat.le_of_ble_eq_true rfl) ?_
  exact hk

noncomputable def zI (p : Prop) : Int32 := @ite Int32 p (Classical.propDecidable p) 1 0
theorem zI_t {p : Prop} (h : p) : zI p = 1 := @if_pos p (Classical.propDecidable p) h Int32 1 0
theorem zI_f {p : Prop} (h : ¬ p) : zI p = 0 := @if_neg p (Classical.propDecidable p) h Int32 1 0
abbrev rmX2_ringsNear : Room := { frames := 2, cells := 0, slots := 0, locals := 48 }
set_option maxHeartbeats 4000000 in
set_option maxRecDepth 100000 in
theorem s_X2_ringsNear {l : Launch} {E : aE} {S : aS} {I : aI} {L : aL} {Rf : aR} {Kr : aK} {Kx : aX} (hst : l.stackTraces = false) {b : Nat} {x : Int32} (hB : lyS S Rf b) (hk : Kr (some (.int (zI (nearS I b x)))) S I L Rf) : aMet l E yX2_ringsNear cX2_ringsNear 4 (some .boolean) rmX2_ringsNear [.ref b, .int x] (S) (I) (L) (Rf) Kr Kx := by
  refine aMet.of (lv0 := [.ref b, .int x, aU, aU]) (z := 2) (by decide +kernel) hst rfl (Nat.le_of_ble_eq_true rfl) ?_
  intro p e s m args below meth c io0 hx hin hno
  have hx : aCx p l s m args meth c RX2 cX2_ringsNear 4 (some .boolean) E := hx
  have hb := hB.2.2
  have inner : ∀ (o : Nat), 1 ≤ o → o ≤ 12 → ((∀ j : Nat, j ≤ 2 → ¬ iabs (rgS I b (nI o) (nI j) 0 - x) < 20000) → ∀ w, aG p l e rmX2_ringsNear s m args below meth c E io0 S 4 (vx_MQ below (aQc E io0 S Kr) (aXC E io0 S Kx) args s rmX2_ringsNear.cells rmX2_ringsNear.slots (aW E)) 2 [.ref b, .int x, .int (nI (o + 1)), w] [] (S) (I) (L) (Rf) 0 0) → ∀ (r i : Nat), i + r = 3 → (∀ j : Nat, j < i → ¬ iabs (rgS I b (nI o) (nI j) 0 - x) < 20000) → aG p l e rmX2_ringsNear s m args below meth c E io0 S 4 (vx_MQ below (aQc E io0 S Kr) (aXC E io0 S Kx) args s rmX2_ringsNear.cells rmX2_ringsNear.slots (aW E)) 10 [.ref b, .int x, .int (nI o), .int (nI i)] [] (S) (I) (L) (Rf) 0 0 := by
    intro o ho1 ho2 knext r
    induction r with
    | zero =>
      intro i hi hnot
      refine g_iloadG_n hx dX2_ringsNear_10 rfl (nx := 11) rfl rfl ?_
      refine g_iconst hx dX2_ringsNear_11 (nx := 12) rfl (v := 2) (by decide) ?_
      refine g_icmp_gt hx dX2_ringsNear_12 (tg := 41) (by decide) (nx := 15) rfl (fun c12 => ?_) (fun c12 => ?_)
      · refine g_iinc_2 hx dX2_ringsNear_41 (nx := 44) rfl (by decide) (v := 1) (by decide) rfl ?_
        refine g_goto hx dX2_ringsNear_44 (tg := 2) (by decide) ?_
        rw [← nI_succ]
        exact knext (fun j hj => hnot j (by omega)) _
      · exact absurd (nI_lt (a := 2) (by omega) (by omega)) c12
    | succ r ih =>
      intro i hi hnot
      refine g_iloadG_n hx dX2_ringsNear_10 rfl (nx := 11) rfl rfl ?_
      refine g_iconst hx dX2_ringsNear_11 (nx := 12) rfl (v := 2) (by decide) ?_
      refine g_icmp_gt hx dX2_ringsNear_12 (tg := 41) (by decide) (nx := 15) rfl (fun c12 => ?_) (fun c12 => ?_)
      · exact absurd c12 (nI_nlt (b := i) (a := 2) (by omega) (by decide))
      · refine g_aloadG_n hx dX2_ringsNear_15 rfl (nx := 16) rfl rfl ?_
        refine g_iloadG_n hx dX2_ringsNear_16 rfl (nx := 17) rfl rfl ?_
        refine g_iloadG_n hx dX2_ringsNear_17 rfl (nx := 18) rfl rfl ?_
        refine g_iconst hx dX2_ringsNear_18 (nx := 19) rfl (v := 0) (by decide) ?_
        refine g_callV_M hx [_, _, _] (k' := 0) (n' := 0) dX2_ringsNear_19 (nx := 22) rfl lk_X2_82 (lyS.ob hB) (by omega) rfl rfl (Nat.le_of_ble_eq_true rfl) (Nat.le_of_ble_eq_true rfl) (Nat.le_of_ble_eq_true rfl) (Nat.le_of_ble_eq_true rfl) (Nat.le_of_ble_eq_true rfl) (Nat.le_of_ble_eq_true rfl) (Nat.le_of_ble_eq_true rfl) (s_X2_ring hst hB ?_)
        refine g_iloadG_n hx dX2_ringsNear_22 rfl (nx := 23) rfl rfl ?_
        refine g_isub hx dX2_ringsNear_23 (nx := 24) rfl ?_
        refine g_callS_M hx [_] (k' := 0) (n' := 0) dX2_ringsNear_24 (nx := 27) rfl lk_X2_75 rfl (Nat.le_of_ble_eq_true rfl) (Nat.le_of_ble_eq_true rfl) (Nat.le_of_ble_eq_true rfl) (Nat.le_of_ble_eq_true rfl) (Nat.le_of_ble_eq_true rfl) (Nat.le_of_ble_eq_true rfl) (Nat.le_of_ble_eq_true rfl) (s_J9_abs_0f7a4 hst ?_)
        refine g_sipush hx dX2_ringsNear_27 (nx := 30) rfl (v := 20000) (by decide) ?_
        refine g_icmp_ge hx dX2_ringsNear_30 (tg := 35) (by decide) (nx := 33) rfl (fun c30 => ?_) (fun c30 => ?_)
        · refine g_iinc_3 hx dX2_ringsNear_35 (nx := 38) rfl (by decide) (v := 1) (by decide) rfl ?_
          refine g_goto hx dX2_ringsNear_38 (tg := 10) (by decide) ?_
          rw [← nI_succ]
          refine ih (i + 1) (by omega) (fun j hj => ?_)
          by_cases e : j = i
          · rw [e]; exact fun z => absurd z (Int32.not_lt.mpr c30)
          · exact hnot j (by omega)
        · refine g_iconst hx dX2_ringsNear_33 (nx := 34) rfl (v := 1) (by decide) ?_
          refine g_iret hx dX2_ringsNear_34 rfl rfl (Nat.le_of_ble_eq_true rfl) (Nat.le_of_ble_eq_true rfl) ?_
          rw [zI_t (show nearS I b x from ⟨o, i, ho1, ho2, by omega, Int32.not_le.mp c30⟩)] at hk; exact hk
  have loop1 : ∀ (r i : Nat) , i + r = 12 → (∀ j k : Nat, 1 ≤ j → j ≤ i → k ≤ 2 → ¬ iabs (rgS I b (nI j) (nI k) 0 - x) < 20000) → ∀ w, aG p l e rmX2_ringsNear s m args below meth c E io0 S 4 (vx_MQ below (aQc E io0 S Kr) (aXC E io0 S Kx) args s rmX2_ringsNear.cells rmX2_ringsNear.slots (aW E)) 2 [.ref b, .int x, .int (nI (i + 1)), w] [] (S) (I) (L) (Rf) 0 0 := by
    intro r
    induction r with
    | zero =>
      intro i hi hnot w
      have hi : i = 12 := by omega
      refine g_iloadG_n hx dX2_ringsNear_2 rfl (nx := 3) rfl rfl ?_
      refine g_bipush hx dX2_ringsNear_3 (nx := 5) rfl (v := 12) (by decide) ?_
      refine g_icmp_gt hx dX2_ringsNear_5 (tg := 47) (by decide) (nx := 8) rfl (fun c5 => ?_) (fun c5 => ?_)
      · refine g_iconst hx dX2_ringsNear_47 (nx := 48) rfl (v := 0) (by decide) ?_
        refine g_iret hx dX2_ringsNear_48 rfl rfl (Nat.le_of_ble_eq_true rfl) (Nat.le_of_ble_eq_true rfl) ?_
        rw [zI_f (show ¬ nearS I b x from fun ⟨j, k, h1, h2, h3, h4⟩ => hnot j k h1 (by omega) h3 h4)] at hk; exact hk
      · exact absurd (nI_lt (a := 12) (by omega) (by omega)) c5
    | succ r ih =>
      intro i hi hnot w
      refine g_iloadG_n hx dX2_ringsNear_2 rfl (nx := 3) rfl rfl ?_
      refine g_bipush hx dX2_ringsNear_3 (nx := 5) rfl (v := 12) (by decide) ?_
      refine g_icmp_gt hx dX2_ringsNear_5 (tg := 47) (by decide) (nx := 8) rfl (fun c5 => ?_) (fun c5 => ?_)
      · exact absurd c5 (nI_nlt (b := i + 1) (a := 12) (by omega) (by decide))
      · refine g_iconst hx dX2_ringsNear_8 (nx := 9) rfl (v := 0) (by decide) ?_
        refine g_istore_3 hx dX2_ringsNear_9 (nx := 10) rfl (by decide) rfl ?_
        refine inner (i + 1) (by omega) (by omega) (fun hno2 w => ih (i + 1) (by omega) (fun j k h1 h2 h3 => ?_) w) 3 0 rfl (fun j hj => absurd hj (Nat.not_lt_zero _))
        by_cases e : j = i + 1
        · rw [e]; exact hno2 k h3
        · exact hnot j k h1 (by omega) h3
  refine g_iconst hx dX2_ringsNear_0 (nx := 1) rfl (v := 1) (by decide) ?_
  refine g_istore_2 hx dX2_ringsNear_1 (nx := 2) rfl (by decide) rfl ?_
  exact loop1 12 0 rfl (fun j k h1 h2 _ => absurd h2 (by omega)) _

abbrev rmX2_addShell : Room := { frames := 0, cells := 0, slots := 0, locals := 0 }
set_option maxHeartbeats 4000000 in
set_option maxRecDepth 100000 in
theorem s_X2_addShell {l : Launch} {E : aE} {S : aS} {I : aI} {L : aL} {Rf : aR} {Kr : aK} {Kx : aX} (hst : l.stackTraces = false) {b n : Nat} {x y z : Int32} (hB : lyS S Rf b) (h3 : I b 3 = nI n) (h8 : n < 8) (hk : Kr none S (au2 (au2 (au2 (au2 I (b + 1) n x) (b + 2) n y) (b + 3) n z) b 3 (nI (n + 1))) L Rf) : aMet l E yX2_addShell cX2_addShell 4 none rmX2_addShell [.ref b, .int x, .int y, .int z] (S) (I) (L) (Rf) Kr Kx := by
  refine aMet.of (lv0 := [.ref b, .int x, .int y, .int z]) (z := 0) (by decide +kernel) hst rfl (Nat.le_of_ble_eq_true rfl) ?_
  intro p e s m args below meth c io0 hx hin hno
  have hx : aCx p l s m args meth c RX2 cX2_addShell 4 none E := hx
  have hb := hB.2.2
  have hn : (nI n).toNatClampNeg = n := nI_clamp (by omega)
  have hin : vp_in (nI n) 8 := vp_in_nI (by omega) (by omega)
  refine g_aloadG_n hx dX2_addShell_0 rfl (nx := 1) rfl rfl ?_
  refine g_getfo_i hx dX2_addShell_1 (nx := 4) rfl fa_X2_36 rfl (lyS.ob hB) (by omega) ?_
  refine g_bipush hx dX2_addShell_4 (nx := 6) rfl (v := 8) (by decide) ?_
  refine g_icmp_ge hx dX2_addShell_6 (tg := 49) (by decide) (nx := 9) rfl (fun c6 => ?_) (fun c6 => ?_)
  · exact absurd c6 (by rw [h3]; exact nI_ge (b := 8) (by omega) (by decide))
  · refine g_aloadG_n hx dX2_addShell_9 rfl (nx := 10) rfl rfl ?_
    refine g_getfo_R hx dX2_addShell_10 (nx := 13) rfl fa_X2_9 rfl (r9 := b + 1) (hB.2.1 0 1 rfl) (lyS.ob hB) (by omega) ?_
    refine g_aloadG_n hx dX2_addShell_13 rfl (nx := 14) rfl rfl ?_
    refine g_getfo_i hx dX2_addShell_14 (nx := 17) rfl fa_X2_36 rfl (lyS.ob hB) (by omega) ?_
    refine g_iloadG_n hx dX2_addShell_17 rfl (nx := 18) rfl rfl ?_
    refine g_iastore hx dX2_addShell_18 (nx := 19) rfl (hB.1 1 _ rfl) (by omega) (by rw [h3]; exact hin) ?_
    refine g_aloadG_n hx dX2_addShell_19 rfl (nx := 20) rfl rfl ?_
    refine g_getfo_R hx dX2_addShell_20 (nx := 23) rfl fa_X2_15 rfl (r9 := b + 2) (hB.2.1 1 2 rfl) (lyS.ob hB) (by omega) ?_
    refine g_aloadG_n hx dX2_addShell_23 rfl (nx := 24) rfl rfl ?_
    refine g_getfo_i hx dX2_addShell_24 (nx := 27) rfl fa_X2_36 rfl (lyS.ob hB) (by omega) ?_
    refine g_iloadG_n hx dX2_addShell_27 rfl (nx := 28) rfl rfl ?_
    refine g_iastore hx dX2_addShell_28 (nx := 29) rfl (hB.1 2 _ rfl) (by omega) (by rw [au2_n (by omega), h3]; exact hin) ?_
    refine g_aloadG_n hx dX2_addShell_29 rfl (nx := 30) rfl rfl ?_
    refine g_getfo_R hx dX2_addShell_30 (nx := 33) rfl fa_X2_18 rfl (r9 := b + 3) (hB.2.1 2 3 rfl) (lyS.ob hB) (by omega) ?_
    refine g_aloadG_n hx dX2_addShell_33 rfl (nx := 34) rfl rfl ?_
    refine g_getfo_i hx dX2_addShell_34 (nx := 37) rfl fa_X2_36 rfl (lyS.ob hB) (by omega) ?_
    refine g_iloadG_n hx dX2_addShell_37 rfl (nx := 38) rfl rfl ?_
    refine g_iastore hx dX2_addShell_38 (nx := 39) rfl (hB.1 3 _ rfl) (by omega) (by rw [au2_n (by omega), au2_n (by omega), h3]; exact hin) ?_
    refine g_aloadG_n hx dX2_addShell_39 rfl (nx := 40) rfl rfl ?_
    refine g_dup hx dX2_addShell_40 (nx := 41) rfl rfl ?_
    refine g_getfo_i hx dX2_addShell_41 (nx := 44) rfl fa_X2_36 rfl (lyS.ob hB) (by omega) ?_
    refine g_iconst hx dX2_addShell_44 (nx := 45) rfl (v := 1) (by decide) ?_
    refine g_iadd hx dX2_addShell_45 (nx := 46) rfl ?_
    refine g_putfo_i hx dX2_addShell_46 (nx := 49) rfl fa_X2_36 rfl rfl rfl (fun r h => by cases h; rfl) (lyS.ob hB) (by omega) ?_
    refine g_vret hx dX2_addShell_49 rfl (Nat.le_of_ble_eq_true rfl) (Nat.le_of_ble_eq_true rfl) ?_
    have e1 : ∀ (v w u : Int32) (a d f : Nat), au2 (au2 (au2 I (b + 1) a v) (b + 2) d w) (b + 3) f u b 3 = nI n := fun v w u a d f => by rw [au2_n (by omega), au2_n (by omega), au2_n (by omega), h3]
    have e2 : ∀ (v w : Int32) (a d : Nat), au2 (au2 I (b + 1) a v) (b + 2) d w b 3 = nI n := fun v w a d => by rw [au2_n (by omega), au2_n (by omega), h3]
    have e3 : ∀ (v : Int32) (a : Nat), au2 I (b + 1) a v b 3 = nI n := fun v a => by rw [au2_n (by omega), h3]
    rw [e1, e2, e3, h3, hn, ← nI_succ]
    exact hk

abbrev rmX2_settle : Room := { frames := 2, cells := 0, slots := 0, locals := 43 }
set_option maxHeartbeats 4000000 in
set_option maxRecDepth 100000 in
theorem s_X2_settle {l : Launch} {E : aE} {S : aS} {I : aI} {L : aL} {Rf : aR} {Kr : aK} {Kx : aX} (hst : l.stackTraces = false) {b n : Nat} {y : Int32} (hB : lyS S Rf b) (h3 : I b 3 = nI n) (h0 : 0 < n) (h8 : n ≤ 8) (hsp : ∀ i, i < n → ¬ I (b + 2) i ≤ 0) (hc : ¬ crS (fun i => I (b + 1) i) (fun i => I (b + 2) i) n ≤ 0) (hw : ¬ wtS (fun i => I (b + 1) i) n ≤ 0) (hk : ∀ I', (∀ a k, ¬ (a = b ∧ 4 ≤ k ∧ k ≤ 9) → I' a k = I a k) → I' b 4 = y → I' b 5 = crS (fun i => I (b + 1) i) (fun i => I (b + 2) i) n → I' b 6 = 10000000 / crS (fun i => I (b + 1) i) (fun i => I (b + 2) i) n → I' b 7 = slS (fun i => I (b + 2) i) n → I' b 8 = spS (fun i => I (b + 1) i) (fun i => I (b + 3) i) n / wtS (fun i => I (b + 1) i) n → I' b 9 = 3 * (10000000 / crS (fun i => I (b + 1) i) (fun i => I (b + 2) i) n) + 100 * I (b + 2) 0 → Kr none S I' L Rf) : aMet l E yX2_settle cX2_settle 2 none rmX2_settle [.ref b, .int y] (S) (I) (L) (Rf) Kr Kx := by
  refine aMet.of (lv0 := [.ref b, .int y]) (z := 0) (by decide +kernel) hst rfl (Nat.le_of_ble_eq_true rfl) ?_
  intro p e s m args below meth c io0 hx hin hno
  have hx : aCx p l s m args meth c RX2 cX2_settle 2 none E := hx
  have hb := hB.2.2
  have f1 : ∀ (J : aI), (∀ a k, a ≠ b → J a k = I a k) → (fun i => J (b + 1) i) = fun i => I (b + 1) i := fun J h => funext fun i => h _ _ (by omega)
  have f2 : ∀ (J : aI), (∀ a k, a ≠ b → J a k = I a k) → (fun i => J (b + 2) i) = fun i => I (b + 2) i := fun J h => funext fun i => h _ _ (by omega)
  have f3 : ∀ (J : aI), (∀ a k, a ≠ b → J a k = I a k) → (fun i => J (b + 3) i) = fun i => I (b + 3) i := fun J h => funext fun i => h _ _ (by omega)
  have g0 : ∀ (J : aI) (k : Nat) (v : Int32), (∀ a k, a ≠ b → J a k = I a k) → ∀ a j, a ≠ b → au2 J b k v a j = I a j := fun J k v h a j ha => (au2_n (fun z => ha z.1)).trans (h a j ha)
  have hI : ∀ a k, a ≠ b → I a k = I a k := fun _ _ _ => rfl
  refine g_aloadG_n hx dX2_settle_0 rfl (nx := 1) rfl rfl ?_
  refine g_iloadG_n hx dX2_settle_1 rfl (nx := 2) rfl rfl ?_
  refine g_putfo_i hx dX2_settle_2 (nx := 5) rfl fa_X2_40 rfl rfl rfl (fun r h => by cases h; rfl) (lyS.ob hB) (by omega) ?_
  refine g_aloadG_n hx dX2_settle_5 rfl (nx := 6) rfl rfl ?_
  refine g_aloadG_n hx dX2_settle_6 rfl (nx := 7) rfl rfl ?_
  refine g_callV_M hx [] (k' := 0) (n' := 0) dX2_settle_7 (nx := 10) rfl lk_X2_43 (lyS.ob hB) (by omega) rfl rfl (Nat.le_of_ble_eq_true rfl) (Nat.le_of_ble_eq_true rfl) (Nat.le_of_ble_eq_true rfl) (Nat.le_of_ble_eq_true rfl) (Nat.le_of_ble_eq_true rfl) (Nat.le_of_ble_eq_true rfl) (Nat.le_of_ble_eq_true rfl) (s_X2_crossed (n := n) hst hB ?_ h8 (fun i hi => ?_) ?_)
  · rw [au2_n (by omega)]; exact h3
  · rw [au2_n (by omega)]; exact hsp i hi
  · rw [f1 _ (g0 I 4 y hI), f2 _ (g0 I 4 y hI)]
    refine g_putfo_i hx dX2_settle_10 (nx := 13) rfl fa_X2_47 rfl rfl rfl (fun r h => by cases h; rfl) (lyS.ob hB) (by omega) ?_
    have k1 := g0 _ 5 (crS (fun i => I (b + 1) i) (fun i => I (b + 2) i) n) (g0 _ 4 y hI)
    refine g_aloadG_n hx dX2_settle_13 rfl (nx := 14) rfl rfl ?_
    refine g_aloadG_n hx dX2_settle_14 rfl (nx := 15) rfl rfl ?_
    refine g_getfo_i hx dX2_settle_15 (nx := 18) rfl fa_X2_47 rfl (lyS.ob hB) (by omega) ?_
    refine g_if_le hx dX2_settle_18 (tg := 31) (by decide) (nx := 21) rfl (fun c18 => ?_) (fun c18 => ?_)
    · exact absurd c18 (by rw [au2_s]; exact hc)
    · refine g_ldc hx dX2_settle_21 (nx := 23) rfl kc_X2_50 ?_
      refine g_aloadG_n hx dX2_settle_23 rfl (nx := 24) rfl rfl ?_
      refine g_getfo_i hx dX2_settle_24 (nx := 27) rfl fa_X2_47 rfl (lyS.ob hB) (by omega) ?_
      refine g_idiv hx dX2_settle_27 (nx := 28) rfl (fun z => hc (by rw [au2_s] at z; rw [z]; exact Int32.le_refl _)) ?_
      refine g_goto hx dX2_settle_28 (tg := 32) (by decide) ?_
      refine g_putfo_i hx dX2_settle_32 (nx := 35) rfl fa_X2_51 rfl rfl rfl (fun r h => by cases h; rfl) (lyS.ob hB) (by omega) ?_
      refine g_aloadG_n hx dX2_settle_35 rfl (nx := 36) rfl rfl ?_
      refine g_aloadG_n hx dX2_settle_36 rfl (nx := 37) rfl rfl ?_
      refine g_callV_M hx [] (k' := 0) (n' := 0) dX2_settle_37 (nx := 40) rfl lk_X2_54 (lyS.ob hB) (by omega) rfl rfl (Nat.le_of_ble_eq_true rfl) (Nat.le_of_ble_eq_true rfl) (Nat.le_of_ble_eq_true rfl) (Nat.le_of_ble_eq_true rfl) (Nat.le_of_ble_eq_true rfl) (Nat.le_of_ble_eq_true rfl) (Nat.le_of_ble_eq_true rfl) (s_X2_slowed (n := n) hst hB ?_ h0 h8 ?_)
      · rw [au2_n (by omega), au2_n (by omega), au2_n (by omega)]; exact h3
      · rw [f2 _ (g0 _ 6 _ (g0 _ 5 _ (g0 I 4 y hI)))]
        refine g_putfo_i hx dX2_settle_40 (nx := 43) rfl fa_X2_57 rfl rfl rfl (fun r h => by cases h; rfl) (lyS.ob hB) (by omega) ?_
        refine g_aloadG_n hx dX2_settle_43 rfl (nx := 44) rfl rfl ?_
        refine g_aloadG_n hx dX2_settle_44 rfl (nx := 45) rfl rfl ?_
        refine g_callV_M hx [] (k' := 0) (n' := 0) dX2_settle_45 (nx := 48) rfl lk_X2_60 (lyS.ob hB) (by omega) rfl rfl (Nat.le_of_ble_eq_true rfl) (Nat.le_of_ble_eq_true rfl) (Nat.le_of_ble_eq_true rfl) (Nat.le_of_ble_eq_true rfl) (Nat.le_of_ble_eq_true rfl) (Nat.le_of_ble_eq_true rfl) (Nat.le_of_ble_eq_true rfl) (s_X2_turned (n := n) hst hB ?_ h8 ?_ ?_)
        · rw [au2_n (by omega), au2_n (by omega), au2_n (by omega), au2_n (by omega)]; exact h3
        · rw [f1 _ (g0 _ 7 _ (g0 _ 6 _ (g0 _ 5 _ (g0 I 4 y hI))))]; exact hw
        · rw [f1 _ (g0 _ 7 _ (g0 _ 6 _ (g0 _ 5 _ (g0 I 4 y hI)))), f3 _ (g0 _ 7 _ (g0 _ 6 _ (g0 _ 5 _ (g0 I 4 y hI))))]
          refine g_putfo_i hx dX2_settle_48 (nx := 51) rfl fa_X2_63 rfl rfl rfl (fun r h => by cases h; rfl) (lyS.ob hB) (by omega) ?_
          refine g_aloadG_n hx dX2_settle_51 rfl (nx := 52) rfl rfl ?_
          refine g_iconst hx dX2_settle_52 (nx := 53) rfl (v := 3) (by decide) ?_
          refine g_aloadG_n hx dX2_settle_53 rfl (nx := 54) rfl rfl ?_
          refine g_getfo_i hx dX2_settle_54 (nx := 57) rfl fa_X2_51 rfl (lyS.ob hB) (by omega) ?_
          refine g_imul hx dX2_settle_57 (nx := 58) rfl ?_
          refine g_bipush hx dX2_settle_58 (nx := 60) rfl (v := 100) (by decide) ?_
          refine g_aloadG_n hx dX2_settle_60 rfl (nx := 61) rfl rfl ?_
          refine g_getfo_R hx dX2_settle_61 (nx := 64) rfl fa_X2_15 rfl (r9 := b + 2) (hB.2.1 1 2 rfl) (lyS.ob hB) (by omega) ?_
          refine g_iconst hx dX2_settle_64 (nx := 65) rfl (v := 0) (by decide) ?_
          refine g_iaload hx dX2_settle_65 (nx := 66) rfl (hB.1 2 _ rfl) (by omega) (vin (by decide)) ?_
          refine g_imul hx dX2_settle_66 (nx := 67) rfl ?_
          refine g_iadd hx dX2_settle_67 (nx := 68) rfl ?_
          refine g_putfo_i hx dX2_settle_68 (nx := 71) rfl fa_X2_66 rfl rfl rfl (fun r h => by cases h; rfl) (lyS.ob hB) (by omega) ?_
          refine g_vret hx dX2_settle_71 rfl (Nat.le_of_ble_eq_true rfl) (Nat.le_of_ble_eq_true rfl) ?_
          refine hk _ (fun a k h => ?_) ?_ ?_ ?_ ?_ ?_ ?_
          · simp only [au2]; rw [if_neg (by omega), if_neg (by omega), if_neg (by omega), if_neg (by omega), if_neg (by omega), if_neg (by omega)]
          · simp [au2, show (0 : Int32).toNatClampNeg = 0 from rfl]
          · simp [au2, show (0 : Int32).toNatClampNeg = 0 from rfl]
          · simp [au2, show (0 : Int32).toNatClampNeg = 0 from rfl]
          · simp [au2, show (0 : Int32).toNatClampNeg = 0 from rfl]
          · simp [au2, show (0 : Int32).toNatClampNeg = 0 from rfl]
          · simp [au2, show (0 : Int32).toNatClampNeg = 0 from rfl]

abbrev rmX2_init : Room := { frames := 1, cells := 6, slots := 542, locals := 24 }
set_option maxHeartbeats 4000000 in
set_option maxRecDepth 100000 in
theorem s_X2_init {l : Launch} {E : aE} {S : aS} {I : aI} {L : aL} {Rf : aR} {Kr : aK} {Kx : aX} (hst : l.stackTraces = false) {b : Nat} (hb : 100 ≤ b) (hS0 : S b = some (.inr 2)) (hn : ∀ j, 1 ≤ j → j ≤ 6 → S (b + j) = none) (hk : ∀ S' I' L' R', (∀ a, (a ≤ b ∨ b + 6 < a) → S' a = S a) → lyS S' R' b → (∀ a k, (a < b ∨ b + 6 < a) → I' a k = I a k ∧ L' a k = L a k ∧ R' a k = Rf a k) → (∀ k, I' b k = I b k) → (∀ t, t < 256 → I' (b + 4) t = -1) → (∀ t, I' (b + 5) t = 0) → Kr none S' I' L' R') : aMet l E yX2_init cX2_init 1 none rmX2_init [.ref b] (S) (I) (L) (Rf) Kr Kx := by
  refine aMet.of (lv0 := [.ref b]) (z := 0) (by decide +kernel) hst rfl (Nat.le_of_ble_eq_true rfl) ?_
  intro p e s m args below meth c io0 hx hin hno
  have hx : aCx p l s m args meth c RX2 cX2_init 1 none E := hx
  refine g_aloadG_n hx dX2_init_0 rfl (nx := 1) rfl rfl ?_
  refine g_objInit hx dX2_init_1 (nx := 4) rfl oi_X2 oi_i oi_c (Nat.le_of_ble_eq_true rfl) (Nat.le_of_ble_eq_true rfl) ?_
  refine g_aloadG_n hx dX2_init_4 rfl (nx := 5) rfl rfl ?_
  refine g_bipush hx dX2_init_5 (nx := 7) rfl (v := 8) (by decide) ?_
  refine g_newarrayint hx dX2_init_7 (nx := 9) rfl ac_i (by decide) (N := 8) (by decide) (by decide) (q := b + 1) (hn 1 (by decide) (by decide)) (by omega) (k' := 1) rfl (n' := 8) rfl (Nat.le_of_ble_eq_true rfl) (Nat.le_of_ble_eq_true rfl) ?_
  refine g_putff_r hx dX2_init_9 (nx := 12) rfl fa_X2_9 rfl (fun r h => by cases h; exact ⟨rfl, rfl⟩) hin (by rw [au1_n (by omega)]; exact hS0) (by omega) ?_
  refine g_aloadG_n hx dX2_init_12 rfl (nx := 13) rfl rfl ?_
  refine g_bipush hx dX2_init_13 (nx := 15) rfl (v := 8) (by decide) ?_
  refine g_newarrayint hx dX2_init_15 (nx := 17) rfl ac_i (by decide) (N := 8) (by decide) (by decide) (q := b + 2) (by rw [au1_n (by omega)]; exact hn 2 (by decide) (by decide)) (by omega) (k' := 2) rfl (n' := 16) rfl (Nat.le_of_ble_eq_true rfl) (Nat.le_of_ble_eq_true rfl) ?_
  refine g_putff_r hx dX2_init_17 (nx := 20) rfl fa_X2_15 rfl (fun r h => by cases h; exact ⟨rfl, rfl⟩) hin (by rw [au1_n (by omega), au1_n (by omega)]; exact hS0) (by omega) ?_
  refine g_aloadG_n hx dX2_init_20 rfl (nx := 21) rfl rfl ?_
  refine g_bipush hx dX2_init_21 (nx := 23) rfl (v := 8) (by decide) ?_
  refine g_newarrayint hx dX2_init_23 (nx := 25) rfl ac_i (by decide) (N := 8) (by decide) (by decide) (q := b + 3) (by rw [au1_n (by omega), au1_n (by omega)]; exact hn 3 (by decide) (by decide)) (by omega) (k' := 3) rfl (n' := 24) rfl (Nat.le_of_ble_eq_true rfl) (Nat.le_of_ble_eq_true rfl) ?_
  refine g_putff_r hx dX2_init_25 (nx := 28) rfl fa_X2_18 rfl (fun r h => by cases h; exact ⟨rfl, rfl⟩) hin (by rw [au1_n (by omega), au1_n (by omega), au1_n (by omega)]; exact hS0) (by omega) ?_
  refine g_aloadG_n hx dX2_init_28 rfl (nx := 29) rfl rfl ?_
  refine g_sipush hx dX2_init_29 (nx := 32) rfl (v := 256) (by decide) ?_
  refine g_newarrayint hx dX2_init_32 (nx := 34) rfl ac_i (by decide) (N := 256) (by decide) (by decide) (q := b + 4) (by rw [au1_n (by omega), au1_n (by omega), au1_n (by omega)]; exact hn 4 (by decide) (by decide)) (by omega) (k' := 4) rfl (n' := 280) rfl (Nat.le_of_ble_eq_true rfl) (Nat.le_of_ble_eq_true rfl) ?_
  refine g_putff_r hx dX2_init_34 (nx := 37) rfl fa_X2_21 rfl (fun r h => by cases h; exact ⟨rfl, rfl⟩) hin (by rw [au1_n (by omega), au1_n (by omega), au1_n (by omega), au1_n (by omega)]; exact hS0) (by omega) ?_
  refine g_aloadG_n hx dX2_init_37 rfl (nx := 38) rfl rfl ?_
  refine g_sipush hx dX2_init_38 (nx := 41) rfl (v := 256) (by decide) ?_
  refine g_newarrayint hx dX2_init_41 (nx := 43) rfl ac_i (by decide) (N := 256) (by decide) (by decide) (q := b + 5) (by rw [au1_n (by omega), au1_n (by omega), au1_n (by omega), au1_n (by omega)]; exact hn 5 (by decide) (by decide)) (by omega) (k' := 5) rfl (n' := 536) rfl (Nat.le_of_ble_eq_true rfl) (Nat.le_of_ble_eq_true rfl) ?_
  refine g_putff_r hx dX2_init_43 (nx := 46) rfl fa_X2_24 rfl (fun r h => by cases h; exact ⟨rfl, rfl⟩) hin (by rw [au1_n (by omega), au1_n (by omega), au1_n (by omega), au1_n (by omega), au1_n (by omega)]; exact hS0) (by omega) ?_
  refine g_aloadG_n hx dX2_init_46 rfl (nx := 47) rfl rfl ?_
  refine g_bipush hx dX2_init_47 (nx := 49) rfl (v := 6) (by decide) ?_
  refine g_newarrayint hx dX2_init_49 (nx := 51) rfl ac_i (by decide) (N := 6) (by decide) (by decide) (q := b + 6) (by rw [au1_n (by omega), au1_n (by omega), au1_n (by omega), au1_n (by omega), au1_n (by omega)]; exact hn 6 (by decide) (by decide)) (by omega) (k' := 6) rfl (n' := 542) rfl (Nat.le_of_ble_eq_true rfl) (Nat.le_of_ble_eq_true rfl) ?_
  refine g_putff_r hx dX2_init_51 (nx := 54) rfl fa_X2_27 rfl (fun r h => by cases h; exact ⟨rfl, rfl⟩) hin (by rw [au1_n (by omega), au1_n (by omega), au1_n (by omega), au1_n (by omega), au1_n (by omega), au1_n (by omega)]; exact hS0) (by omega) ?_
  refine g_aloadG_n hx dX2_init_54 rfl (nx := 55) rfl rfl ?_
  refine g_getfo_R hx dX2_init_55 (nx := 58) rfl fa_X2_21 rfl (r9 := b + 4) (by simp [au2, azr]) (by rw [au1_n (by omega), au1_n (by omega), au1_n (by omega), au1_n (by omega), au1_n (by omega), au1_n (by omega)]; exact hS0) (by omega) ?_
  refine g_iconst hx dX2_init_58 (nx := 59) rfl (v := (-1)) (by decide) ?_
  refine g_callS_M hx [_, _] (k' := 6) (n' := 542) dX2_init_59 (nx := 62) rfl lk_X2_30 rfl (Nat.le_of_ble_eq_true rfl) (Nat.le_of_ble_eq_true rfl) (Nat.le_of_ble_eq_true rfl) (Nat.le_of_ble_eq_true rfl) (Nat.le_of_ble_eq_true rfl) (Nat.le_of_ble_eq_true rfl) (Nat.le_of_ble_eq_true rfl) (s_J7_fill_53178 hst (q := b + 4) (N := 256) (by simp [au1]) (by omega) (by decide) (fun I' h1 h2 => ?_))
  refine g_vret hx dX2_init_62 rfl (Nat.le_of_ble_eq_true rfl) (Nat.le_of_ble_eq_true rfl) ?_
  refine hk _ I' _ _ (fun a h => ?_) ⟨?_, ?_, hb⟩ (fun a k h => ⟨?_, ?_, ?_⟩) (fun k => ?_) h2 (fun k => ?_)
  · simp only [au1]; rw [if_neg (by omega), if_neg (by omega), if_neg (by omega), if_neg (by omega), if_neg (by omega), if_neg (by omega)]
  · intro j x hj
    match j, hj with
    | 0, hj => cases hj; simp [au1, hS0]
    | 1, hj => cases hj; simp [au1]
    | 2, hj => cases hj; simp [au1]
    | 3, hj => cases hj; simp [au1]
    | 4, hj => cases hj; simp [au1]
    | 5, hj => cases hj; simp [au1]
    | 6, hj => cases hj; simp [au1]
    | n + 7, hj => cases hj
  · intro k j hj
    simp only [sO, Bool.or_eq_true, Bool.and_eq_true, beq_iff_eq] at hj
    rcases hj with ((((h | h) | h) | h) | h) | h <;> (obtain ⟨rfl, rfl⟩ := h; simp [au2, azr])
  · rw [h1 _ _ (by omega)]; simp only [azr]; rw [if_neg (by omega), if_neg (by omega), if_neg (by omega), if_neg (by omega), if_neg (by omega), if_neg (by omega)]
  · simp only [azr]; rw [if_neg (by omega), if_neg (by omega), if_neg (by omega), if_neg (by omega), if_neg (by omega), if_neg (by omega)]
  · simp only [azr, au2]; simp [show a ≠ b by omega, show a ≠ b + 1 by omega, show a ≠ b + 2 by omega, show a ≠ b + 3 by omega, show a ≠ b + 4 by omega, show a ≠ b + 5 by omega, show a ≠ b + 6 by omega]
  · rw [h1 _ _ (by omega)]; simp [azr]
  · rw [h1 _ _ (by omega)]; simp [azr]

abbrev rmX0_init : Room := { frames := 1, cells := 0, slots := 0, locals := 24 }
set_option maxHeartbeats 4000000 in
set_option maxRecDepth 100000 in
theorem s_X0_init {l : Launch} {E : aE} {S : aS} {I : aI} {L : aL} {Rf : aR} {Kr : aK} {Kx : aX} (hst : l.stackTraces = false) {b : Nat} {x y z : Int32} (hb : 100 ≤ b) (hS0 : S b = some (.inr 0)) (hk : ∀ I', (∀ a k, a ≠ b → I' a k = I a k) → I' b 0 = x → I' b 1 = y → I' b 2 = z → I' b 3 = I b 3 → I' b 4 = I b 4 → I' b 6 = -1 → I' b 8 = 1 → Kr none S I' L Rf) : aMet l E yX0_init cX0_init 4 none rmX0_init [.ref b, .int x, .int y, .int z] (S) (I) (L) (Rf) Kr Kx := by
  refine aMet.of (lv0 := [.ref b, .int x, .int y, .int z]) (z := 0) (by decide +kernel) hst rfl (Nat.le_of_ble_eq_true rfl) ?_
  intro p e s m args below meth c io0 hx hin hno
  have hx : aCx p l s m args meth c RX0 cX0_init 4 none E := hx
  refine g_aloadG_n hx dX0_init_0 rfl (nx := 1) rfl rfl ?_
  refine g_objInit hx dX0_init_1 (nx := 4) rfl oi_X0 oi_i oi_c (Nat.le_of_ble_eq_true rfl) (Nat.le_of_ble_eq_true rfl) ?_
  refine g_aloadG_n hx dX0_init_4 rfl (nx := 5) rfl rfl ?_
  refine g_iconst hx dX0_init_5 (nx := 6) rfl (v := (-1)) (by decide) ?_
  refine g_putfo_i hx dX0_init_6 (nx := 9) rfl fa_X0_9 rfl rfl rfl (fun r h => by cases h; rfl) hS0 (by omega) ?_
  refine g_aloadG_n hx dX0_init_9 rfl (nx := 10) rfl rfl ?_
  refine g_iconst hx dX0_init_10 (nx := 11) rfl (v := 1) (by decide) ?_
  refine g_putfo_i hx dX0_init_11 (nx := 14) rfl fa_X0_15 rfl rfl rfl (fun r h => by cases h; rfl) hS0 (by omega) ?_
  refine g_aloadG_n hx dX0_init_14 rfl (nx := 15) rfl rfl ?_
  refine g_iloadG_n hx dX0_init_15 rfl (nx := 16) rfl rfl ?_
  refine g_putff_i hx dX0_init_16 (nx := 19) rfl fa_X0_19 rfl rfl rfl (fun r h => by cases h; exact ⟨rfl, rfl⟩) hin hS0 (by omega) ?_
  refine g_aloadG_n hx dX0_init_19 rfl (nx := 20) rfl rfl ?_
  refine g_iloadG_n hx dX0_init_20 rfl (nx := 21) rfl rfl ?_
  refine g_putff_i hx dX0_init_21 (nx := 24) rfl fa_X0_22 rfl rfl rfl (fun r h => by cases h; exact ⟨rfl, rfl⟩) hin hS0 (by omega) ?_
  refine g_aloadG_n hx dX0_init_24 rfl (nx := 25) rfl rfl ?_
  refine g_iloadG_n hx dX0_init_25 rfl (nx := 26) rfl rfl ?_
  refine g_putff_i hx dX0_init_26 (nx := 29) rfl fa_X0_25 rfl rfl rfl (fun r h => by cases h; exact ⟨rfl, rfl⟩) hin hS0 (by omega) ?_
  refine g_vret hx dX0_init_29 rfl (Nat.le_of_ble_eq_true rfl) (Nat.le_of_ble_eq_true rfl) ?_
  refine hk _ (fun a k h => ?_) ?_ ?_ ?_ ?_ ?_ ?_ ?_
  · simp only [au2]; simp [h]
  · simp [au2]
  · simp [au2]
  · simp [au2]
  · simp [au2]
  · simp [au2]
  · simp [au2]
  · simp [au2]

