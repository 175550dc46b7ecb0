/-! the reference: its light -/
def tbM (I : aI) : Prop := ∀ k, k < 64 → I 37 k = acos k
theorem icos_N {x : Int32} {m : Nat} (hx : x = nI m) (h : m < 2 ^ 31) : icos x = acos (m % 64) := by
  rw [icos, hx, pk_andN (by omega) 6 (by decide), nI_clamp (by omega)]
theorem isin_N {x : Int32} {m : Nat} (hx : x = nI m) (h : m < 2 ^ 30) : isin x = acos ((m + 48) % 64) := by
  have e : nI m - 16 = nI (m + 48) - 64 := by
    rw [← nI_add]
    apply Int32.toBitVec_inj.mp
    show (nI m).toBitVec - 16#32 = (nI m).toBitVec + 48#32 - 64#32
    generalize (nI m).toBitVec = z
    apply BitVec.eq_of_toNat_eq
    simp only [BitVec.toNat_sub, BitVec.toNat_add, BitVec.toNat_ofNat]
    omega
  have e2 : ∀ z : Int32, z - 64 &&& 63 = z &&& 63 := fun z => by
    rw [pk_and _ 6 (by decide), pk_and _ 6 (by decide)]
    congr 1
    show (z.toBitVec - 64#32).toNat % 2 ^ 6 = _
    simp only [BitVec.toNat_sub, BitVec.toNat_ofNat]
    omega
  rw [isin, icos, hx, e, e2, pk_andN (by omega) 6 (by decide), nI_clamp (by omega)]
def trM (s x : Int32) (t : Nat) : Int64 := if s = 0 then cosL x t else sinL x t
def Mrep (I : aI) (L : aL) (q : Nat → Bool) (V : Nat → Int64) : Prop := (∀ t, t < 256 → I 40 t = (if q t = true then 1 else 0)) ∧ (∀ t, t < 256 → L 39 t = (if q t = true then V t else 0)) ∧ I 20 18 = nI (aT q).length
def eM (J I : aI) : Prop := ∀ a b, ¬ (a = 20 ∧ b = 18) → a ≠ 40 → J a b = I a b
def eL (J I : aL) : Prop := ∀ a b, a ≠ 39 → J a b = I a b
theorem eM.refl (I : aI) : eM I I := fun _ _ _ _ => rfl
theorem eL.refl (I : aL) : eL I I := fun _ _ _ => rfl
theorem eM.trans {I J K : aI} (a : eM I J) (b : eM J K) : eM I K := fun x y h1 h2 => (a x y h1 h2).trans (b x y h1 h2)
theorem eL.trans {I J K : aL} (a : eL I J) (b : eL J K) : eL I K := fun x y h1 => (a x y h1).trans (b x y h1)
theorem tbM.x {I J : aI} (h : tbM I) (e : eM J I) : tbM J := fun k hk => (e 37 k (by omega) (by decide)).trans (h k hk)
theorem ji9 {j i : Nat} (h : j < 64) (h2 : i < 256) : j * i < 2 ^ 20 := Nat.lt_of_le_of_lt (Nat.mul_le_mul (by omega : j ≤ 63) (by omega : i ≤ 255)) (by decide)
abbrev rmX4_cosine : Room := { frames := 0, cells := 0, slots := 0, locals := 0 }
set_option maxHeartbeats 4000000 in
set_option maxRecDepth 100000 in
theorem s_X4_cosine {l : Launch} {E : aE} {S : aS} {I : aI} {L : aL} {Rf : aR} {Kr : aK} {Kx : aX} (hst : l.stackTraces = false) {x : Int32} {g : Nat} (hM : lyM S Rf) (hT : tbM I) (hx9 : x = nI g) (hm9 : g < 2 ^ 20) (hk : Kr (some (.long (icos x).toInt64)) S I L Rf) : aMet l E yX4_cosine cX4_cosine 2 (some .long) rmX4_cosine [.ref 20, .int x] (S) (I) (L) (Rf) Kr Kx := by
  refine aMet.of (lv0 := [.ref 20, .int x]) (z := 0) (by decide +kernel) hst rfl (Nat.le_of_ble_eq_true rfl) ?_
  intro p e s m args below meth c io0 hx hin hno
  have hx : aCx p l s m args meth c RX4 cX4_cosine 2 (some .long) E := hx
  have e9 : x - x / 64 * 64 = nI (g % 64) := by rw [hx9, show (64 : Int32) = nI 64 from rfl, pk_rem (by omega) (by omega) (by omega)]
  refine g_aloadG_n hx dX4_cosine_0 rfl (nx := 1) rfl rfl ?_
  refine g_getfo_R hx dX4_cosine_1 (nx := 4) rfl fa_X4_57 rfl (r9 := 37) (hM.2 17 rfl) (hM.1 0 _ rfl) (by decide) ?_
  refine g_iloadG_n hx dX4_cosine_4 rfl (nx := 5) rfl rfl ?_
  refine g_bipush hx dX4_cosine_5 (nx := 7) rfl (v := 64) (by decide) ?_
  refine g_irem hx dX4_cosine_7 (nx := 8) rfl (by decide) ?_
  refine g_iaload hx dX4_cosine_8 (nx := 9) rfl (hM.1 17 _ rfl) (by decide) (by rw [e9]; exact vp_in_nI (Nat.mod_lt _ (by decide)) (by decide)) ?_
  refine g_i2l hx dX4_cosine_9 (nx := 10) rfl ?_
  refine g_lret hx dX4_cosine_10 rfl (Nat.le_of_ble_eq_true rfl) (Nat.le_of_ble_eq_true rfl) ?_
  rw [e9, nI_clamp (by omega), hT _ (Nat.mod_lt _ (by decide)), ← icos_N hx9 (by omega)]
  exact hk

abbrev rmX4_sine : Room := { frames := 0, cells := 0, slots := 0, locals := 0 }
set_option maxHeartbeats 4000000 in
set_option maxRecDepth 100000 in
theorem s_X4_sine {l : Launch} {E : aE} {S : aS} {I : aI} {L : aL} {Rf : aR} {Kr : aK} {Kx : aX} (hst : l.stackTraces = false) {x : Int32} {g : Nat} (hM : lyM S Rf) (hT : tbM I) (hx9 : x = nI g) (hm9 : g < 2 ^ 20) (hk : Kr (some (.long (isin x).toInt64)) S I L Rf) : aMet l E yX4_sine cX4_sine 2 (some .long) rmX4_sine [.ref 20, .int x] (S) (I) (L) (Rf) Kr Kx := by
  refine aMet.of (lv0 := [.ref 20, .int x]) (z := 0) (by decide +kernel) hst rfl (Nat.le_of_ble_eq_true rfl) ?_
  intro p e s m args below meth c io0 hx hin hno
  have hx : aCx p l s m args meth c RX4 cX4_sine 2 (some .long) E := hx
  have e9 : (x + 48) - (x + 48) / 64 * 64 = nI ((g + 48) % 64) := by rw [hx9, show (64 : Int32) = nI 64 from rfl, show (48 : Int32) = nI 48 from rfl, nI_add, pk_rem (by omega) (by omega) (by omega)]
  refine g_aloadG_n hx dX4_sine_0 rfl (nx := 1) rfl rfl ?_
  refine g_getfo_R hx dX4_sine_1 (nx := 4) rfl fa_X4_57 rfl (r9 := 37) (hM.2 17 rfl) (hM.1 0 _ rfl) (by decide) ?_
  refine g_iloadG_n hx dX4_sine_4 rfl (nx := 5) rfl rfl ?_
  refine g_bipush hx dX4_sine_5 (nx := 7) rfl (v := 48) (by decide) ?_
  refine g_iadd hx dX4_sine_7 (nx := 8) rfl ?_
  refine g_bipush hx dX4_sine_8 (nx := 10) rfl (v := 64) (by decide) ?_
  refine g_irem hx dX4_sine_10 (nx := 11) rfl (by decide) ?_
  refine g_iaload hx dX4_sine_11 (nx := 12) rfl (hM.1 17 _ rfl) (by decide) (by rw [e9]; exact vp_in_nI (Nat.mod_lt _ (by decide)) (by decide)) ?_
  refine g_i2l hx dX4_sine_12 (nx := 13) rfl ?_
  refine g_lret hx dX4_sine_13 rfl (Nat.le_of_ble_eq_true rfl) (Nat.le_of_ble_eq_true rfl) ?_
  rw [e9, nI_clamp (by omega), hT _ (Nat.mod_lt _ (by decide)), ← isin_N hx9 (by omega)]
  exact hk

abbrev rmX4_sum : Room := { frames := 1, cells := 0, slots := 0, locals := 21 }
set_option maxHeartbeats 4000000 in
set_option maxRecDepth 100000 in
theorem s_X4_sum {l : Launch} {E : aE} {S : aS} {I : aI} {L : aL} {Rf : aR} {Kr : aK} {Kx : aX} (hst : l.stackTraces = false) {x s9 : Int32} {j : Nat} {q : Nat → Bool} {V : Nat → Int64} (hM : lyM S Rf) (hT : tbM I) (hR : Mrep I L q V) (hxj : x = nI j) (hj : j < 64) (hk : Kr (some (.long (lsum (aT q) (fun t => V t * trM s9 x t)))) S I L Rf) : aMet l E yX4_sum cX4_sum 6 (some .long) rmX4_sum [.ref 20, .int x, .int s9] (S) (I) (L) (Rf) Kr Kx := by
  refine aMet.of (lv0 := [.ref 20, .int x, .int s9, aU, aU, aU]) (z := 3) (by decide +kernel) hst rfl (Nat.le_of_ble_eq_true rfl) ?_
  intro p e s m args below meth c io0 hx hin hno
  have hx : aCx p l s m args meth c RX4 cX4_sum 6 (some .long) E := hx
  have loop1 : ∀ (r i : Nat) , i + r = 256 → aG p l e rmX4_sum s m args below meth c E io0 S 6 (vx_MQ below (aQc E io0 S Kr) (aXC E io0 S Kx) args s rmX4_sum.cells rmX4_sum.slots (aW E)) 5 [.ref 20, .int x, .int s9, .long (lsum (tl q i) (fun t => V t * trM s9 x t)), aU, .int (nI i)] [] (S) (I) (L) (Rf) 0 0 := by
    intro r
    induction r with
    | zero =>
      intro i hi
      have hi : i = 256 := by omega
      refine g_iloadG hx dX4_sum_5 (nx := 7) rfl rfl ?_
      refine g_sipush hx dX4_sum_7 (nx := 10) rfl (v := 256) (by decide) ?_
      refine g_icmp_ge hx dX4_sum_10 (tg := 67) (by decide) (nx := 13) rfl (fun c10 => ?_) (fun c10 => ?_)
      · refine g_lloadG_n hx dX4_sum_67 rfl (nx := 68) rfl rfl ?_
        refine g_lret hx dX4_sum_68 rfl (Nat.le_of_ble_eq_true rfl) (Nat.le_of_ble_eq_true rfl) ?_
        rw [hi]; exact hk
      · exact absurd (by rw [hi]; decide) c10
    | succ r ih =>
      intro i hi
      have hn : (nI i).toNatClampNeg = i := nI_clamp (by omega)
      have hin : vp_in (nI i) 256 := vp_in_nI (by omega) (by decide)
      refine g_iloadG hx dX4_sum_5 (nx := 7) rfl rfl ?_
      refine g_sipush hx dX4_sum_7 (nx := 10) rfl (v := 256) (by decide) ?_
      refine g_icmp_ge hx dX4_sum_10 (tg := 67) (by decide) (nx := 13) rfl (fun c10 => ?_) (fun c10 => ?_)
      · exact absurd c10 (nI_ge (b := 256) (by omega) (by decide))
      · refine g_lloadG_n hx dX4_sum_13 rfl (nx := 14) rfl rfl ?_
        refine g_aloadG_n hx dX4_sum_14 rfl (nx := 15) rfl rfl ?_
        refine g_getfo_R hx dX4_sum_15 (nx := 18) rfl fa_X4_64 rfl (r9 := 40) (hM.2 20 rfl) (hM.1 0 _ rfl) (by decide) ?_
        refine g_iloadG hx dX4_sum_18 (nx := 20) rfl rfl ?_
        refine g_baload hx dX4_sum_20 (nx := 21) rfl (hM.1 20 _ rfl) (by decide) hin ?_
        have hb := hR.1 i (by omega)
        have hv := hR.2.1 i (by omega)
        rw [hn]
        refine g_if_eq hx dX4_sum_21 (tg := 58) (by decide) (nx := 24) rfl (fun c21 => ?_) (fun c21 => ?_)
        · refine g_lconst hx dX4_sum_58 (nx := 59) rfl (v := 0) (by decide) ?_
          refine g_ladd hx dX4_sum_59 (nx := 60) rfl ?_
          refine g_lstore_3 hx dX4_sum_60 (nx := 61) rfl (by decide) rfl ?_
          refine g_iinc_5 hx dX4_sum_61 (nx := 64) rfl (by decide) (v := 1) (by decide) rfl ?_
          refine g_goto hx dX4_sum_64 (tg := 5) (by decide) ?_
          rw [← nI_succ]
          have K := ih (i + 1) (by omega)
          rcases hq : q i with _ | _
          · rw [tl_f hq] at K
            first
              | (rw [Int64.add_zero]; exact K)
              | (rw [hq] at hb; exact absurd hb c21)
          · rw [tl_t hq, lsum_snoc] at K
            rw [hq] at hb hv
            first
              | exact absurd (hb.symm.trans c21) (by decide)
              | (rw [show trM s9 x i = cosL x i from if_pos c32] at K; rw [hn, hv]; exact K)
              | (rw [show trM s9 x i = sinL x i from if_neg c32] at K; rw [hn, hv]; exact K)
        · refine g_aloadG_n hx dX4_sum_24 rfl (nx := 25) rfl rfl ?_
          refine g_getfo_R hx dX4_sum_25 (nx := 28) rfl fa_X4_60 rfl (r9 := 39) (hM.2 19 rfl) (hM.1 0 _ rfl) (by decide) ?_
          refine g_iloadG hx dX4_sum_28 (nx := 30) rfl rfl ?_
          refine g_laload hx dX4_sum_30 (nx := 31) rfl (hM.1 19 _ rfl) (by decide) hin ?_
          refine g_iloadG_n hx dX4_sum_31 rfl (nx := 32) rfl rfl ?_
          refine g_if_eq hx dX4_sum_32 (tg := 46) (by decide) (nx := 35) rfl (fun c32 => ?_) (fun c32 => ?_)
          · refine g_aloadG_n hx dX4_sum_46 rfl (nx := 47) rfl rfl ?_
            refine g_iloadG_n hx dX4_sum_47 rfl (nx := 48) rfl rfl ?_
            refine g_iloadG hx dX4_sum_48 (nx := 50) rfl rfl ?_
            refine g_imul hx dX4_sum_50 (nx := 51) rfl ?_
            refine g_callV_M hx [_] (k' := 0) (n' := 0) dX4_sum_51 (nx := 54) rfl lk_X4_134 (hM.1 0 _ rfl) (by decide) rfl rfl (Nat.le_of_ble_eq_true rfl) (Nat.le_of_ble_eq_true rfl) (Nat.le_of_ble_eq_true rfl) (Nat.le_of_ble_eq_true rfl) (Nat.le_of_ble_eq_true rfl) (Nat.le_of_ble_eq_true rfl) (Nat.le_of_ble_eq_true rfl) (s_X4_cosine (g := j * i) hst hM hT (by rw [hxj]; exact nI_mul j i) (ji9 hj (by omega)) ?_)
            refine g_lmul hx dX4_sum_54 (nx := 55) rfl ?_
            refine g_goto hx dX4_sum_55 (tg := 59) (by decide) ?_
            refine g_ladd hx dX4_sum_59 (nx := 60) rfl ?_
            refine g_lstore_3 hx dX4_sum_60 (nx := 61) rfl (by decide) rfl ?_
            refine g_iinc_5 hx dX4_sum_61 (nx := 64) rfl (by decide) (v := 1) (by decide) rfl ?_
            refine g_goto hx dX4_sum_64 (tg := 5) (by decide) ?_
            rw [← nI_succ]
            have K := ih (i + 1) (by omega)
            rcases hq : q i with _ | _
            · rw [tl_f hq] at K
              first
                | (rw [Int64.add_zero]; exact K)
                | (rw [hq] at hb; exact absurd hb c21)
            · rw [tl_t hq, lsum_snoc] at K
              rw [hq] at hb hv
              first
                | exact absurd (hb.symm.trans c21) (by decide)
                | (rw [show trM s9 x i = cosL x i from if_pos c32] at K; rw [hn, hv]; exact K)
                | (rw [show trM s9 x i = sinL x i from if_neg c32] at K; rw [hn, hv]; exact K)
          · refine g_aloadG_n hx dX4_sum_35 rfl (nx := 36) rfl rfl ?_
            refine g_iloadG_n hx dX4_sum_36 rfl (nx := 37) rfl rfl ?_
            refine g_iloadG hx dX4_sum_37 (nx := 39) rfl rfl ?_
            refine g_imul hx dX4_sum_39 (nx := 40) rfl ?_
            refine g_callV_M hx [_] (k' := 0) (n' := 0) dX4_sum_40 (nx := 43) rfl lk_X4_130 (hM.1 0 _ rfl) (by decide) rfl rfl (Nat.le_of_ble_eq_true rfl) (Nat.le_of_ble_eq_true rfl) (Nat.le_of_ble_eq_true rfl) (Nat.le_of_ble_eq_true rfl) (Nat.le_of_ble_eq_true rfl) (Nat.le_of_ble_eq_true rfl) (Nat.le_of_ble_eq_true rfl) (s_X4_sine (g := j * i) hst hM hT (by rw [hxj]; exact nI_mul j i) (ji9 hj (by omega)) ?_)
            refine g_goto hx dX4_sum_43 (tg := 54) (by decide) ?_
            refine g_lmul hx dX4_sum_54 (nx := 55) rfl ?_
            refine g_goto hx dX4_sum_55 (tg := 59) (by decide) ?_
            refine g_ladd hx dX4_sum_59 (nx := 60) rfl ?_
            refine g_lstore_3 hx dX4_sum_60 (nx := 61) rfl (by decide) rfl ?_
            refine g_iinc_5 hx dX4_sum_61 (nx := 64) rfl (by decide) (v := 1) (by decide) rfl ?_
            refine g_goto hx dX4_sum_64 (tg := 5) (by decide) ?_
            rw [← nI_succ]
            have K := ih (i + 1) (by omega)
            rcases hq : q i with _ | _
            · rw [tl_f hq] at K
              first
                | (rw [Int64.add_zero]; exact K)
                | (rw [hq] at hb; exact absurd hb c21)
            · rw [tl_t hq, lsum_snoc] at K
              rw [hq] at hb hv
              first
                | exact absurd (hb.symm.trans c21) (by decide)
                | (rw [show trM s9 x i = cosL x i from if_pos c32] at K; rw [hn, hv]; exact K)
                | (rw [show trM s9 x i = sinL x i from if_neg c32] at K; rw [hn, hv]; exact K)
  refine g_lconst hx dX4_sum_0 (nx := 1) rfl (v := 0) (by decide) ?_
  refine g_lstore_3 hx dX4_sum_1 (nx := 2) rfl (by decide) rfl ?_
  refine g_iconst hx dX4_sum_2 (nx := 3) rfl (v := 0) (by decide) ?_
  refine g_istore_5 hx dX4_sum_3 (nx := 5) rfl (by decide) rfl ?_
  exact loop1 256 0 (Nat.zero_add _)

theorem trM_0 (x : Int32) : trM 0 x = cosL x := funext fun _ => if_pos rfl
theorem trM_1 (x : Int32) : trM 1 x = sinL x := funext fun _ => if_neg (by decide)
abbrev rmX4_powerOf : Room := { frames := 2, cells := 0, slots := 0, locals := 46 }
set_option maxHeartbeats 4000000 in
set_option maxRecDepth 100000 in
theorem s_X4_powerOf {l : Launch} {E : aE} {S : aS} {I : aI} {L : aL} {Rf : aR} {Kr : aK} {Kx : aX} (hst : l.stackTraces = false) {x : Int32} {j : Nat} {q : Nat → Bool} {V : Nat → Int64} (hM : lyM S Rf) (hT : tbM I) (hR : Mrep I L q V) (hxj : x = nI j) (hj : j < 64) (hk : Kr (some (.long (pw q V x))) S I L Rf) : aMet l E yX4_powerOf cX4_powerOf 6 (some .long) rmX4_powerOf [.ref 20, .int x] (S) (I) (L) (Rf) Kr Kx := by
  refine aMet.of (lv0 := [.ref 20, .int x, aU, aU, aU, aU]) (z := 4) (by decide +kernel) hst rfl (Nat.le_of_ble_eq_true rfl) ?_
  intro p e s m args below meth c io0 hx hin hno
  have hx : aCx p l s m args meth c RX4 cX4_powerOf 6 (some .long) E := hx
  refine g_aloadG_n hx dX4_powerOf_0 rfl (nx := 1) rfl rfl ?_
  refine g_iloadG_n hx dX4_powerOf_1 rfl (nx := 2) rfl rfl ?_
  refine g_iconst hx dX4_powerOf_2 (nx := 3) rfl (v := 0) (by decide) ?_
  refine g_callV_M hx [_, _] (k' := 0) (n' := 0) dX4_powerOf_3 (nx := 6) rfl lk_X4_137 (hM.1 0 _ rfl) (by decide) rfl rfl (Nat.le_of_ble_eq_true rfl) (Nat.le_of_ble_eq_true rfl) (Nat.le_of_ble_eq_true rfl) (Nat.le_of_ble_eq_true rfl) (Nat.le_of_ble_eq_true rfl) (Nat.le_of_ble_eq_true rfl) (Nat.le_of_ble_eq_true rfl) (s_X4_sum hst hM hT hR hxj hj ?_)
  refine g_ldc2 hx dX4_powerOf_6 (nx := 9) rfl kl_X4_141 ?_
  refine g_ldiv hx dX4_powerOf_9 (nx := 10) rfl (by decide) ?_
  refine g_lstore_2 hx dX4_powerOf_10 (nx := 11) rfl (by decide) rfl ?_
  refine g_aloadG_n hx dX4_powerOf_11 rfl (nx := 12) rfl rfl ?_
  refine g_iloadG_n hx dX4_powerOf_12 rfl (nx := 13) rfl rfl ?_
  refine g_iconst hx dX4_powerOf_13 (nx := 14) rfl (v := 1) (by decide) ?_
  refine g_callV_M hx [_, _] (k' := 0) (n' := 0) dX4_powerOf_14 (nx := 17) rfl lk_X4_137 (hM.1 0 _ rfl) (by decide) rfl rfl (Nat.le_of_ble_eq_true rfl) (Nat.le_of_ble_eq_true rfl) (Nat.le_of_ble_eq_true rfl) (Nat.le_of_ble_eq_true rfl) (Nat.le_of_ble_eq_true rfl) (Nat.le_of_ble_eq_true rfl) (Nat.le_of_ble_eq_true rfl) (s_X4_sum hst hM hT hR hxj hj ?_)
  refine g_ldc2 hx dX4_powerOf_17 (nx := 20) rfl kl_X4_141 ?_
  refine g_ldiv hx dX4_powerOf_20 (nx := 21) rfl (by decide) ?_
  refine g_lstore_4 hx dX4_powerOf_21 (nx := 23) rfl (by decide) rfl ?_
  refine g_lloadG_n hx dX4_powerOf_23 rfl (nx := 24) rfl rfl ?_
  refine g_lloadG_n hx dX4_powerOf_24 rfl (nx := 25) rfl rfl ?_
  refine g_lmul hx dX4_powerOf_25 (nx := 26) rfl ?_
  refine g_lloadG hx dX4_powerOf_26 (nx := 28) rfl rfl ?_
  refine g_lloadG hx dX4_powerOf_28 (nx := 30) rfl rfl ?_
  refine g_lmul hx dX4_powerOf_30 (nx := 31) rfl ?_
  refine g_ladd hx dX4_powerOf_31 (nx := 32) rfl ?_
  refine g_lret hx dX4_powerOf_32 rfl (Nat.le_of_ble_eq_true rfl) (Nat.le_of_ble_eq_true rfl) ?_
  rw [trM_0, trM_1]
  exact hk

abbrev rmX4_lays : Room := { frames := 0, cells := 0, slots := 0, locals := 0 }
set_option maxHeartbeats 4000000 in
set_option maxRecDepth 100000 in
theorem s_X4_lays {l : Launch} {E : aE} {S : aS} {I : aI} {L : aL} {Rf : aR} {Kr : aK} {Kx : aX} (hst : l.stackTraces = false) {s9 : Int32} {k : Nat} {q : Nat → Bool} (hM : lyM S Rf) (hk6 : k < 6) (hq : ∀ t, t < 256 → q t = (decide (I 31 (256 * k + t) ≠ -1) && decide (I 33 (I 32 (256 * k + t)).toNatClampNeg = 0))) (hsi : ∀ t, t < 256 → vp_in (I 32 (256 * k + t)) 4) (hk : ∀ I' L', eM I' I → eL L' L → Mrep I' L' q (fun t => if s9 = 0 then (I 31 (256 * k + t)).toInt64 else 1) → Kr none S I' L' Rf) : aMet l E yX4_lays cX4_lays 5 none rmX4_lays [.ref 20, .int (nI k), .int s9] (S) (I) (L) (Rf) Kr Kx := by
  refine aMet.of (lv0 := [.ref 20, .int (nI k), .int s9, aU, aU]) (z := 2) (by decide +kernel) hst rfl (Nat.le_of_ble_eq_true rfl) ?_
  intro p e s m args below meth c io0 hx hin hno
  have hx : aCx p l s m args meth c RX4 cX4_lays 5 none E := hx
  have loop1 : ∀ (r i : Nat) (I' : aI) (L' : aL), i + r = 256 → eM I' I → eL L' L → (∀ t, t < i → I' 40 t = (if q t = true then 1 else 0)) → (∀ t, t < i → L' 39 t = (if q t = true then (if s9 = 0 then (I 31 (256 * k + t)).toInt64 else 1) else 0)) → I' 20 18 = nI (tl q i).length → ∀ w1, aG p l e rmX4_lays s m args below meth c E io0 S 5 (vx_MQ below (aQc E io0 S Kr) (aXC E io0 S Kx) args s rmX4_lays.cells rmX4_lays.slots (aW E)) 7 [.ref 20, .int (nI k), .int s9, .int (nI i), w1] [] (S) (I') (L') (Rf) 0 0 := by
    intro r
    induction r with
    | zero =>
      intro i I' L' hi h1 h2 h3 h4 h5 w1
      have hi : i = 256 := by omega
      subst hi
      refine g_iloadG_n hx dX4_lays_7 rfl (nx := 8) rfl rfl ?_
      refine g_sipush hx dX4_lays_8 (nx := 11) rfl (v := 256) (by decide) ?_
      refine g_icmp_ge hx dX4_lays_11 (tg := 124) (by decide) (nx := 14) rfl (fun c11 => ?_) (fun c11 => ?_)
      · refine g_vret hx dX4_lays_124 rfl (Nat.le_of_ble_eq_true rfl) (Nat.le_of_ble_eq_true rfl) ?_
        exact hk I' L' h1 h2 ⟨h3, h4, h5⟩
      · exact absurd (by decide) c11
    | succ r ih =>
      intro i I' L' hi h1 h2 h3 h4 h5 w1
      have hn : (nI i).toNatClampNeg = i := nI_clamp (by omega)
      have hin : vp_in (nI i) 256 := vp_in_nI (by omega) (by decide)
      have e9 := ix256 k i
      have hin9 : vp_in (256 * nI k + nI i) 1536 := by rw [e9]; exact vp_in_nI (by omega) (by decide)
      have hc9 : (256 * nI k + nI i).toNatClampNeg = 256 * k + i := by rw [e9]; exact nI_clamp (by omega)
      refine g_iloadG_n hx dX4_lays_7 rfl (nx := 8) rfl rfl ?_
      refine g_sipush hx dX4_lays_8 (nx := 11) rfl (v := 256) (by decide) ?_
      refine g_icmp_ge hx dX4_lays_11 (tg := 124) (by decide) (nx := 14) rfl (fun c11 => ?_) (fun c11 => ?_)
      · exact absurd c11 (nI_ge (b := 256) (by omega) (by decide))
      · refine g_aloadG_n hx dX4_lays_14 rfl (nx := 15) rfl rfl ?_
        refine g_getfo_R hx dX4_lays_15 (nx := 18) rfl fa_X4_37 rfl (r9 := 31) (hM.2 11 rfl) (hM.1 0 _ rfl) (by decide) ?_
        refine g_sipush hx dX4_lays_18 (nx := 21) rfl (v := 256) (by decide) ?_
        refine g_iloadG_n hx dX4_lays_21 rfl (nx := 22) rfl rfl ?_
        refine g_imul hx dX4_lays_22 (nx := 23) rfl ?_
        refine g_iloadG_n hx dX4_lays_23 rfl (nx := 24) rfl rfl ?_
        refine g_iadd hx dX4_lays_24 (nx := 25) rfl ?_
        refine g_iaload hx dX4_lays_25 (nx := 26) rfl (hM.1 11 _ rfl) (by decide) hin9 ?_
        rw [hc9, h1 31 _ (by omega) (by omega)]
        refine g_istore_4 hx dX4_lays_26 (nx := 28) rfl (by decide) rfl ?_
        refine g_aloadG_n hx dX4_lays_28 rfl (nx := 29) rfl rfl ?_
        refine g_getfo_R hx dX4_lays_29 (nx := 32) rfl fa_X4_64 rfl (r9 := 40) (hM.2 20 rfl) (hM.1 0 _ rfl) (by decide) ?_
        refine g_iloadG_n hx dX4_lays_32 rfl (nx := 33) rfl rfl ?_
        refine g_iloadG hx dX4_lays_33 (nx := 35) rfl rfl ?_
        refine g_iconst hx dX4_lays_35 (nx := 36) rfl (v := (-1)) (by decide) ?_
        refine g_icmp_eq hx dX4_lays_36 (tg := 63) (by decide) (nx := 39) rfl (fun c36 => ?_) (fun c36 => ?_)
        · refine g_iconst hx dX4_lays_63 (nx := 64) rfl (v := 0) (by decide) ?_
          refine g_bastore hx dX4_lays_64 (nx := 65) rfl (hM.1 20 _ rfl) (by decide) hin rfl ?_
          refine g_aloadG_n hx dX4_lays_65 rfl (nx := 66) rfl rfl ?_
          refine g_getfo_R hx dX4_lays_66 (nx := 69) rfl fa_X4_60 rfl (r9 := 39) (hM.2 19 rfl) (hM.1 0 _ rfl) (by decide) ?_
          refine g_iloadG_n hx dX4_lays_69 rfl (nx := 70) rfl rfl ?_
          refine g_aloadG_n hx dX4_lays_70 rfl (nx := 71) rfl rfl ?_
          refine g_getfo_R hx dX4_lays_71 (nx := 74) rfl fa_X4_64 rfl (r9 := 40) (hM.2 20 rfl) (hM.1 0 _ rfl) (by decide) ?_
          refine g_iloadG_n hx dX4_lays_74 rfl (nx := 75) rfl rfl ?_
          refine g_baload hx dX4_lays_75 (nx := 76) rfl (hM.1 20 _ rfl) (by decide) hin ?_
          rw [hn, au2_s]
          refine g_if_ne hx dX4_lays_76 (tg := 83) (by decide) (nx := 79) rfl (fun c76 => ?_) (fun c76 => ?_)
          · exact absurd c76 (by decide)
          · refine g_lconst hx dX4_lays_79 (nx := 80) rfl (v := 0) (by decide) ?_
            refine g_goto hx dX4_lays_80 (tg := 94) (by decide) ?_
            refine g_lastore hx dX4_lays_94 (nx := 95) rfl (hM.1 19 _ rfl) (by decide) hin ?_
            refine g_aloadG_n hx dX4_lays_95 rfl (nx := 96) rfl rfl ?_
            refine g_dup hx dX4_lays_96 (nx := 97) rfl rfl ?_
            refine g_getfo_i hx dX4_lays_97 (nx := 100) rfl fa_X4_143 rfl (hM.1 0 _ rfl) (by decide) ?_
            refine g_aloadG_n hx dX4_lays_100 rfl (nx := 101) rfl rfl ?_
            refine g_getfo_R hx dX4_lays_101 (nx := 104) rfl fa_X4_64 rfl (r9 := 40) (hM.2 20 rfl) (hM.1 0 _ rfl) (by decide) ?_
            refine g_iloadG_n hx dX4_lays_104 rfl (nx := 105) rfl rfl ?_
            refine g_baload hx dX4_lays_105 (nx := 106) rfl (hM.1 20 _ rfl) (by decide) hin ?_
            rw [hn, au2_s]
            refine g_if_eq hx dX4_lays_106 (tg := 113) (by decide) (nx := 109) rfl (fun c106 => ?_) (fun c106 => ?_)
            · refine g_iconst hx dX4_lays_113 (nx := 114) rfl (v := 0) (by decide) ?_
              refine g_iadd hx dX4_lays_114 (nx := 115) rfl ?_
              refine g_putfo_i hx dX4_lays_115 (nx := 118) rfl fa_X4_143 rfl rfl rfl (fun r h => by cases h; rfl) (hM.1 0 _ rfl) (by decide) ?_
              refine g_iinc_3 hx dX4_lays_118 (nx := 121) rfl (by decide) (v := 1) (by decide) rfl ?_
              refine g_goto hx dX4_lays_121 (tg := 7) (by decide) ?_
              rw [← nI_succ]
              have hqi : q i = false := by
                rw [hq i (by omega)]
                first | (simp [c36]; done) | (simp [c36, c56]; done)
              refine ih (i + 1) _ _ (by omega) (fun a b z1 z2 => ?_) (fun a b z1 => ?_) (fun t ht => ?_) (fun t ht => ?_) ?_ _
              · rw [au2_n z1, au2_n (fun z => z2 z.1)]; exact h1 a b z1 z2
              · rw [au2_n (fun z => z1 z.1)]; exact h2 a b z1
              · rw [au2_n (by omega)]
                by_cases e : t = i
                · subst e; rw [au2_s, hqi]; rfl
                · rw [au2_n (by omega)]; exact h3 t (by omega)
              · by_cases e : t = i
                · subst e; rw [au2_s, hqi]; rfl
                · rw [au2_n (by omega)]; exact h4 t (by omega)
              · rw [au2_s, au2_n (by omega), h5, tl_f hqi, Int32.add_zero]
            · exact absurd c106 (by decide)
        · refine g_aloadG_n hx dX4_lays_39 rfl (nx := 40) rfl rfl ?_
          refine g_getfo_R hx dX4_lays_40 (nx := 43) rfl fa_X4_43 rfl (r9 := 33) (hM.2 13 rfl) (hM.1 0 _ rfl) (by decide) ?_
          refine g_aloadG_n hx dX4_lays_43 rfl (nx := 44) rfl rfl ?_
          refine g_getfo_R hx dX4_lays_44 (nx := 47) rfl fa_X4_40 rfl (r9 := 32) (hM.2 12 rfl) (hM.1 0 _ rfl) (by decide) ?_
          refine g_sipush hx dX4_lays_47 (nx := 50) rfl (v := 256) (by decide) ?_
          refine g_iloadG_n hx dX4_lays_50 rfl (nx := 51) rfl rfl ?_
          refine g_imul hx dX4_lays_51 (nx := 52) rfl ?_
          refine g_iloadG_n hx dX4_lays_52 rfl (nx := 53) rfl rfl ?_
          refine g_iadd hx dX4_lays_53 (nx := 54) rfl ?_
          refine g_iaload hx dX4_lays_54 (nx := 55) rfl (hM.1 12 _ rfl) (by decide) hin9 ?_
          rw [hc9, h1 32 _ (by omega) (by omega)]
          refine g_baload hx dX4_lays_55 (nx := 56) rfl (hM.1 13 _ rfl) (by decide) (hsi i (by omega)) ?_
          rw [h1 33 _ (by omega) (by omega)]
          refine g_if_ne hx dX4_lays_56 (tg := 63) (by decide) (nx := 59) rfl (fun c56 => ?_) (fun c56 => ?_)
          · refine g_iconst hx dX4_lays_63 (nx := 64) rfl (v := 0) (by decide) ?_
            refine g_bastore hx dX4_lays_64 (nx := 65) rfl (hM.1 20 _ rfl) (by decide) hin rfl ?_
            refine g_aloadG_n hx dX4_lays_65 rfl (nx := 66) rfl rfl ?_
            refine g_getfo_R hx dX4_lays_66 (nx := 69) rfl fa_X4_60 rfl (r9 := 39) (hM.2 19 rfl) (hM.1 0 _ rfl) (by decide) ?_
            refine g_iloadG_n hx dX4_lays_69 rfl (nx := 70) rfl rfl ?_
            refine g_aloadG_n hx dX4_lays_70 rfl (nx := 71) rfl rfl ?_
            refine g_getfo_R hx dX4_lays_71 (nx := 74) rfl fa_X4_64 rfl (r9 := 40) (hM.2 20 rfl) (hM.1 0 _ rfl) (by decide) ?_
            refine g_iloadG_n hx dX4_lays_74 rfl (nx := 75) rfl rfl ?_
            refine g_baload hx dX4_lays_75 (nx := 76) rfl (hM.1 20 _ rfl) (by decide) hin ?_
            rw [hn, au2_s]
            refine g_if_ne hx dX4_lays_76 (tg := 83) (by decide) (nx := 79) rfl (fun c76 => ?_) (fun c76 => ?_)
            · exact absurd c76 (by decide)
            · refine g_lconst hx dX4_lays_79 (nx := 80) rfl (v := 0) (by decide) ?_
              refine g_goto hx dX4_lays_80 (tg := 94) (by decide) ?_
              refine g_lastore hx dX4_lays_94 (nx := 95) rfl (hM.1 19 _ rfl) (by decide) hin ?_
              refine g_aloadG_n hx dX4_lays_95 rfl (nx := 96) rfl rfl ?_
              refine g_dup hx dX4_lays_96 (nx := 97) rfl rfl ?_
              refine g_getfo_i hx dX4_lays_97 (nx := 100) rfl fa_X4_143 rfl (hM.1 0 _ rfl) (by decide) ?_
              refine g_aloadG_n hx dX4_lays_100 rfl (nx := 101) rfl rfl ?_
              refine g_getfo_R hx dX4_lays_101 (nx := 104) rfl fa_X4_64 rfl (r9 := 40) (hM.2 20 rfl) (hM.1 0 _ rfl) (by decide) ?_
              refine g_iloadG_n hx dX4_lays_104 rfl (nx := 105) rfl rfl ?_
              refine g_baload hx dX4_lays_105 (nx := 106) rfl (hM.1 20 _ rfl) (by decide) hin ?_
              rw [hn, au2_s]
              refine g_if_eq hx dX4_lays_106 (tg := 113) (by decide) (nx := 109) rfl (fun c106 => ?_) (fun c106 => ?_)
              · refine g_iconst hx dX4_lays_113 (nx := 114) rfl (v := 0) (by decide) ?_
                refine g_iadd hx dX4_lays_114 (nx := 115) rfl ?_
                refine g_putfo_i hx dX4_lays_115 (nx := 118) rfl fa_X4_143 rfl rfl rfl (fun r h => by cases h; rfl) (hM.1 0 _ rfl) (by decide) ?_
                refine g_iinc_3 hx dX4_lays_118 (nx := 121) rfl (by decide) (v := 1) (by decide) rfl ?_
                refine g_goto hx dX4_lays_121 (tg := 7) (by decide) ?_
                rw [← nI_succ]
                have hqi : q i = false := by
                  rw [hq i (by omega)]
                  first | (simp [c36]; done) | (simp [c36, c56]; done)
                refine ih (i + 1) _ _ (by omega) (fun a b z1 z2 => ?_) (fun a b z1 => ?_) (fun t ht => ?_) (fun t ht => ?_) ?_ _
                · rw [au2_n z1, au2_n (fun z => z2 z.1)]; exact h1 a b z1 z2
                · rw [au2_n (fun z => z1 z.1)]; exact h2 a b z1
                · rw [au2_n (by omega)]
                  by_cases e : t = i
                  · subst e; rw [au2_s, hqi]; rfl
                  · rw [au2_n (by omega)]; exact h3 t (by omega)
                · by_cases e : t = i
                  · subst e; rw [au2_s, hqi]; rfl
                  · rw [au2_n (by omega)]; exact h4 t (by omega)
                · rw [au2_s, au2_n (by omega), h5, tl_f hqi, Int32.add_zero]
              · exact absurd c106 (by decide)
          · refine g_iconst hx dX4_lays_59 (nx := 60) rfl (v := 1) (by decide) ?_
            refine g_goto hx dX4_lays_60 (tg := 64) (by decide) ?_
            refine g_bastore hx dX4_lays_64 (nx := 65) rfl (hM.1 20 _ rfl) (by decide) hin rfl ?_
            refine g_aloadG_n hx dX4_lays_65 rfl (nx := 66) rfl rfl ?_
            refine g_getfo_R hx dX4_lays_66 (nx := 69) rfl fa_X4_60 rfl (r9 := 39) (hM.2 19 rfl) (hM.1 0 _ rfl) (by decide) ?_
            refine g_iloadG_n hx dX4_lays_69 rfl (nx := 70) rfl rfl ?_
            refine g_aloadG_n hx dX4_lays_70 rfl (nx := 71) rfl rfl ?_
            refine g_getfo_R hx dX4_lays_71 (nx := 74) rfl fa_X4_64 rfl (r9 := 40) (hM.2 20 rfl) (hM.1 0 _ rfl) (by decide) ?_
            refine g_iloadG_n hx dX4_lays_74 rfl (nx := 75) rfl rfl ?_
            refine g_baload hx dX4_lays_75 (nx := 76) rfl (hM.1 20 _ rfl) (by decide) hin ?_
            rw [hn, au2_s]
            refine g_if_ne hx dX4_lays_76 (tg := 83) (by decide) (nx := 79) rfl (fun c76 => ?_) (fun c76 => ?_)
            · refine g_iloadG_n hx dX4_lays_83 rfl (nx := 84) rfl rfl ?_
              refine g_if_eq hx dX4_lays_84 (tg := 91) (by decide) (nx := 87) rfl (fun c84 => ?_) (fun c84 => ?_)
              · refine g_iloadG hx dX4_lays_91 (nx := 93) rfl rfl ?_
                refine g_i2l hx dX4_lays_93 (nx := 94) rfl ?_
                refine g_lastore hx dX4_lays_94 (nx := 95) rfl (hM.1 19 _ rfl) (by decide) hin ?_
                refine g_aloadG_n hx dX4_lays_95 rfl (nx := 96) rfl rfl ?_
                refine g_dup hx dX4_lays_96 (nx := 97) rfl rfl ?_
                refine g_getfo_i hx dX4_lays_97 (nx := 100) rfl fa_X4_143 rfl (hM.1 0 _ rfl) (by decide) ?_
                refine g_aloadG_n hx dX4_lays_100 rfl (nx := 101) rfl rfl ?_
                refine g_getfo_R hx dX4_lays_101 (nx := 104) rfl fa_X4_64 rfl (r9 := 40) (hM.2 20 rfl) (hM.1 0 _ rfl) (by decide) ?_
                refine g_iloadG_n hx dX4_lays_104 rfl (nx := 105) rfl rfl ?_
                refine g_baload hx dX4_lays_105 (nx := 106) rfl (hM.1 20 _ rfl) (by decide) hin ?_
                rw [hn, au2_s]
                refine g_if_eq hx dX4_lays_106 (tg := 113) (by decide) (nx := 109) rfl (fun c106 => ?_) (fun c106 => ?_)
                · exact absurd c106 (by decide)
                · refine g_iconst hx dX4_lays_109 (nx := 110) rfl (v := 1) (by decide) ?_
                  refine g_goto hx dX4_lays_110 (tg := 114) (by decide) ?_
                  refine g_iadd hx dX4_lays_114 (nx := 115) rfl ?_
                  refine g_putfo_i hx dX4_lays_115 (nx := 118) rfl fa_X4_143 rfl rfl rfl (fun r h => by cases h; rfl) (hM.1 0 _ rfl) (by decide) ?_
                  refine g_iinc_3 hx dX4_lays_118 (nx := 121) rfl (by decide) (v := 1) (by decide) rfl ?_
                  refine g_goto hx dX4_lays_121 (tg := 7) (by decide) ?_
                  rw [← nI_succ]
                  have hqi : q i = true := by rw [hq i (by omega)]; simp [c36, c56]
                  refine ih (i + 1) _ _ (by omega) (fun a b z1 z2 => ?_) (fun a b z1 => ?_) (fun t ht => ?_) (fun t ht => ?_) ?_ _
                  · rw [au2_n z1, au2_n (fun z => z2 z.1)]; exact h1 a b z1 z2
                  · rw [au2_n (fun z => z1 z.1)]; exact h2 a b z1
                  · rw [au2_n (by omega)]
                    by_cases e : t = i
                    · subst e; rw [au2_s, hqi]; rfl
                    · rw [au2_n (by omega)]; exact h3 t (by omega)
                  · by_cases e : t = i
                    · subst e; rw [au2_s, hqi]; first | rfl | (rw [if_pos rfl, if_pos c84]; done) | (rw [if_pos rfl, if_neg c84]; done)
                    · rw [au2_n (by omega)]; exact h4 t (by omega)
                  · rw [au2_s, au2_n (by omega), h5, tl_t hqi, List.length_append, ← nI_succ]; rfl
              · refine g_lconst hx dX4_lays_87 (nx := 88) rfl (v := 1) (by decide) ?_
                refine g_goto hx dX4_lays_88 (tg := 94) (by decide) ?_
                refine g_lastore hx dX4_lays_94 (nx := 95) rfl (hM.1 19 _ rfl) (by decide) hin ?_
                refine g_aloadG_n hx dX4_lays_95 rfl (nx := 96) rfl rfl ?_
                refine g_dup hx dX4_lays_96 (nx := 97) rfl rfl ?_
                refine g_getfo_i hx dX4_lays_97 (nx := 100) rfl fa_X4_143 rfl (hM.1 0 _ rfl) (by decide) ?_
                refine g_aloadG_n hx dX4_lays_100 rfl (nx := 101) rfl rfl ?_
                refine g_getfo_R hx dX4_lays_101 (nx := 104) rfl fa_X4_64 rfl (r9 := 40) (hM.2 20 rfl) (hM.1 0 _ rfl) (by decide) ?_
                refine g_iloadG_n hx dX4_lays_104 rfl (nx := 105) rfl rfl ?_
                refine g_baload hx dX4_lays_105 (nx := 106) rfl (hM.1 20 _ rfl) (by decide) hin ?_
                rw [hn, au2_s]
                refine g_if_eq hx dX4_lays_106 (tg := 113) (by decide) (nx := 109) rfl (fun c106 => ?_) (fun c106 => ?_)
                · exact absurd c106 (by decide)
                · refine g_iconst hx dX4_lays_109 (nx := 110) rfl (v := 1) (by decide) ?_
                  refine g_goto hx dX4_lays_110 (tg := 114) (by decide) ?_
                  refine g_iadd hx dX4_lays_114 (nx := 115) rfl ?_
                  refine g_putfo_i hx dX4_lays_115 (nx := 118) rfl fa_X4_143 rfl rfl rfl (fun r h => by cases h; rfl) (hM.1 0 _ rfl) (by decide) ?_
                  refine g_iinc_3 hx dX4_lays_118 (nx := 121) rfl (by decide) (v := 1) (by decide) rfl ?_
                  refine g_goto hx dX4_lays_121 (tg := 7) (by decide) ?_
                  rw [← nI_succ]
                  have hqi : q i = true := by rw [hq i (by omega)]; simp [c36, c56]
                  refine ih (i + 1) _ _ (by omega) (fun a b z1 z2 => ?_) (fun a b z1 => ?_) (fun t ht => ?_) (fun t ht => ?_) ?_ _
                  · rw [au2_n z1, au2_n (fun z => z2 z.1)]; exact h1 a b z1 z2
                  · rw [au2_n (fun z => z1 z.1)]; exact h2 a b z1
                  · rw [au2_n (by omega)]
                    by_cases e : t = i
                    · subst e; rw [au2_s, hqi]; rfl
                    · rw [au2_n (by omega)]; exact h3 t (by omega)
                  · by_cases e : t = i
                    · subst e; rw [au2_s, hqi]; first | rfl | (rw [if_pos rfl, if_pos c84]; done) | (rw [if_pos rfl, if_neg c84]; done)
                    · rw [au2_n (by omega)]; exact h4 t (by omega)
                  · rw [au2_s, au2_n (by omega), h5, tl_t hqi, List.length_append, ← nI_succ]; rfl
            · exact absurd c76 (by decide)
  refine g_aloadG_n hx dX4_lays_0 rfl (nx := 1) rfl rfl ?_
  refine g_iconst hx dX4_lays_1 (nx := 2) rfl (v := 0) (by decide) ?_
  refine g_putfo_i hx dX4_lays_2 (nx := 5) rfl fa_X4_143 rfl rfl rfl (fun r h => by cases h; rfl) (hM.1 0 _ rfl) (by decide) ?_
  refine g_iconst hx dX4_lays_5 (nx := 6) rfl (v := 0) (by decide) ?_
  refine g_istore_3 hx dX4_lays_6 (nx := 7) rfl (by decide) rfl ?_
  exact loop1 256 0 _ L (Nat.zero_add _) (fun a b z1 z2 => au2_n z1) (eL.refl L) (fun t h => absurd h (Nat.not_lt_zero _)) (fun t h => absurd h (Nat.not_lt_zero _)) (au2_s _ _ _ _) _

