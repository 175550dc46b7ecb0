/-! the reference: small methods -/
theorem iout_m1 {x : Int32} {n : Nat} (hn : n < 2 ^ 31) : iout x 0 (nI n - 1) = 0 ↔ inN x n := by
  match n, hn with
  | 0, _ =>
    constructor
    · intro h
      unfold iout at h
      split at h
      · cases h
      · rename_i z
        have a1 : ¬ x < 0 := fun w => z (Or.inl w)
        have a2 : ¬ (nI 0 - 1) < x := fun w => z (Or.inr w)
        obtain ⟨j, hj, rfl⟩ := nI_of a1
        have e : nI 0 - 1 = (-1 : Int32) := by decide
        rw [e, Int32.lt_iff_toInt_lt, nI_toInt hj] at a2
        have e2 : (-1 : Int32).toInt = -1 := by decide
        omega
    · rintro ⟨k, h, _⟩; omega
  | n + 1, hn =>
    have e : nI (n + 1) - 1 = nI n := nI_pred n
    rw [e]
    exact (iout_z (lo := 0) (by omega) (by omega)).trans rgN_in
theorem ix256 (k t : Nat) : (256 : Int32) * nI k + nI t = nI (256 * k + t) := by
  rw [show (256 : Int32) = nI 256 from rfl, nI_mul, nI_add]
theorem ix6 (k t : Nat) : (6 : Int32) * nI k + nI t = nI (6 * k + t) := by
  rw [show (6 : Int32) = nI 6 from rfl, nI_mul, nI_add]
abbrev rmX4_can : Room := { frames := 0, cells := 0, slots := 0, locals := 0 }
set_option maxHeartbeats 4000000 in
set_option maxRecDepth 100000 in
theorem s_X4_can {l : Launch} {E : aE} {S : aS} {I : aI} {L : aL} {Rf : aR} {Kr : aK} {Kx : aX} (hst : l.stackTraces = false) {x : Int32} (hM : lyM S Rf) (h1 : x = 0 → Kr (some (.int 1)) S (au2 I 20 31 x) L Rf) (h0 : x ≠ 0 → Kr (some (.int 0)) S (au2 I 20 31 x) L Rf) : aMet l E yX4_can cX4_can 2 (some .boolean) rmX4_can [.ref 20, .int x] (S) (I) (L) (Rf) Kr Kx := by
  refine aMet.of (lv0 := [.ref 20, .int x]) (z := 0) (by decide +kernel) hst rfl (Nat.le_of_ble_eq_true rfl) ?_
  intro p e s m args below meth c io0 hx hin hno
  have hx : aCx p l s m args meth c RX4 cX4_can 2 (some .boolean) E := hx
  refine g_aloadG_n hx dX4_can_0 rfl (nx := 1) rfl rfl ?_
  refine g_iloadG_n hx dX4_can_1 rfl (nx := 2) rfl rfl ?_
  refine g_putfo_i hx dX4_can_2 (nx := 5) rfl fa_X4_98 rfl rfl rfl (fun r h => by cases h; rfl) (hM.1 0 _ rfl) (by decide) ?_
  refine g_iloadG_n hx dX4_can_5 rfl (nx := 6) rfl rfl ?_
  refine g_if_ne hx dX4_can_6 (tg := 13) (by decide) (nx := 9) rfl (fun c6 => ?_) (fun c6 => ?_)
  · refine g_iconst hx dX4_can_13 (nx := 14) rfl (v := 0) (by decide) ?_
    refine g_iret hx dX4_can_14 rfl rfl (Nat.le_of_ble_eq_true rfl) (Nat.le_of_ble_eq_true rfl) ?_
    first | exact h1 c6 | exact h0 c6 | exact h1 (Classical.byContradiction c6)
  · refine g_iconst hx dX4_can_9 (nx := 10) rfl (v := 1) (by decide) ?_
    refine g_goto hx dX4_can_10 (tg := 14) (by decide) ?_
    refine g_iret hx dX4_can_14 rfl rfl (Nat.le_of_ble_eq_true rfl) (Nat.le_of_ble_eq_true rfl) ?_
    first | exact h1 c6 | exact h0 c6 | exact h1 (Classical.byContradiction c6)

abbrev rmX4_isIn : Room := { frames := 0, cells := 0, slots := 0, locals := 0 }
set_option maxHeartbeats 4000000 in
set_option maxRecDepth 100000 in
theorem s_X4_isIn {l : Launch} {E : aE} {S : aS} {I : aI} {L : aL} {Rf : aR} {Kr : aK} {Kx : aX} (hst : l.stackTraces = false) {x y z : Int32} (h1 : iout x y z = 0 → Kr (some (.int 1)) S I L Rf) (h0 : ¬ iout x y z = 0 → Kr (some (.int 0)) S I L Rf) : aMet l E yX4_isIn cX4_isIn 3 (some .boolean) rmX4_isIn [.int x, .int y, .int z] (S) (I) (L) (Rf) Kr Kx := by
  refine aMet.of (lv0 := [.int x, .int y, .int z]) (z := 0) (by decide +kernel) hst rfl (Nat.le_of_ble_eq_true rfl) ?_
  intro p e s m args below meth c io0 hx hin hno
  have hx : aCx p l s m args meth c RX4 cX4_isIn 3 (some .boolean) E := hx
  refine g_iloadG_n hx dX4_isIn_0 rfl (nx := 1) rfl rfl ?_
  refine g_iloadG_n hx dX4_isIn_1 rfl (nx := 2) rfl rfl ?_
  refine g_icmp_lt hx dX4_isIn_2 (tg := 14) (by decide) (nx := 5) rfl (fun c2 => ?_) (fun c2 => ?_)
  · refine g_iconst hx dX4_isIn_14 (nx := 15) rfl (v := 0) (by decide) ?_
    refine g_iret hx dX4_isIn_15 rfl rfl (Nat.le_of_ble_eq_true rfl) (Nat.le_of_ble_eq_true rfl) ?_
    first
      | exact h1 (iout_0 c2 (Int32.not_lt.mp c7))
      | exact h0 (by rw [iout_1l c2]; decide)
      | exact h0 (by rw [iout_1r (Int32.not_le.mpr c7)]; decide)
  · refine g_iloadG_n hx dX4_isIn_5 rfl (nx := 6) rfl rfl ?_
    refine g_iloadG_n hx dX4_isIn_6 rfl (nx := 7) rfl rfl ?_
    refine g_icmp_gt hx dX4_isIn_7 (tg := 14) (by decide) (nx := 10) rfl (fun c7 => ?_) (fun c7 => ?_)
    · refine g_iconst hx dX4_isIn_14 (nx := 15) rfl (v := 0) (by decide) ?_
      refine g_iret hx dX4_isIn_15 rfl rfl (Nat.le_of_ble_eq_true rfl) (Nat.le_of_ble_eq_true rfl) ?_
      first
        | exact h1 (iout_0 c2 (Int32.not_lt.mp c7))
        | exact h0 (by rw [iout_1l c2]; decide)
        | exact h0 (by rw [iout_1r (Int32.not_le.mpr c7)]; decide)
    · refine g_iconst hx dX4_isIn_10 (nx := 11) rfl (v := 1) (by decide) ?_
      refine g_goto hx dX4_isIn_11 (tg := 15) (by decide) ?_
      refine g_iret hx dX4_isIn_15 rfl rfl (Nat.le_of_ble_eq_true rfl) (Nat.le_of_ble_eq_true rfl) ?_
      first
        | exact h1 (iout_0 c2 (Int32.not_lt.mp c7))
        | exact h0 (by rw [iout_1l c2]; decide)
        | exact h0 (by rw [iout_1r (Int32.not_le.mpr c7)]; decide)

theorem s_X4_isInN {l : Launch} {E : aE} {S : aS} {I : aI} {L : aL} {Rf : aR} {Kr : aK} {Kx : aX} (hst : l.stackTraces = false) {x : Int32} (lo hi : Nat) (h2 : lo < 2 ^ 31) (h3 : hi < 2 ^ 31) (h1 : rgN x lo hi → Kr (some (.int 1)) S I L Rf) (h0 : ¬ rgN x lo hi → Kr (some (.int 0)) S I L Rf) : aMet l E yX4_isIn cX4_isIn 3 (some .boolean) rmX4_isIn [.int x, .int (nI lo), .int (nI hi)] S I L Rf Kr Kx :=
  s_X4_isIn hst (fun q => h1 ((iout_z h3 h2).mp q)) (fun q => h0 fun r => q ((iout_z h3 h2).mpr r))
abbrev rmX4_isStar : Room := { frames := 1, cells := 0, slots := 0, locals := 22 }
set_option maxHeartbeats 4000000 in
set_option maxRecDepth 100000 in
theorem s_X4_isStar {l : Launch} {E : aE} {S : aS} {I : aI} {L : aL} {Rf : aR} {Kr : aK} {Kx : aX} (hst : l.stackTraces = false) {n : Nat} {x : Int32} (hM : lyM S Rf) (hi : I 20 4 = nI n) (hn : n ≤ 40) (h1 : ∀ k, k < n → x = nI k → Kr (some (.int 1)) S I L Rf) (h0 : ¬ inN x n → Kr (some (.int 0)) S I L Rf) : aMet l E yX4_isStar cX4_isStar 2 (some .boolean) rmX4_isStar [.ref 20, .int x] (S) (I) (L) (Rf) Kr Kx := by
  refine aMet.of (lv0 := [.ref 20, .int x]) (z := 0) (by decide +kernel) hst rfl (Nat.le_of_ble_eq_true rfl) ?_
  intro p e s m args below meth c io0 hx hin hno
  have hx : aCx p l s m args meth c RX4 cX4_isStar 2 (some .boolean) E := hx
  refine g_iloadG_n hx dX4_isStar_0 rfl (nx := 1) rfl rfl ?_
  refine g_iconst hx dX4_isStar_1 (nx := 2) rfl (v := 0) (by decide) ?_
  refine g_aloadG_n hx dX4_isStar_2 rfl (nx := 3) rfl rfl ?_
  refine g_getfo_i hx dX4_isStar_3 (nx := 6) rfl fa_X4_101 rfl (hM.1 0 _ rfl) (by decide) ?_
  refine g_iconst hx dX4_isStar_6 (nx := 7) rfl (v := 1) (by decide) ?_
  refine g_isub hx dX4_isStar_7 (nx := 8) rfl ?_
  refine g_callS_M hx [_, _, _] (k' := 0) (n' := 0) dX4_isStar_8 (nx := 11) rfl lk_X4_104 rfl (Nat.le_of_ble_eq_true rfl) (Nat.le_of_ble_eq_true rfl) (Nat.le_of_ble_eq_true rfl) (Nat.le_of_ble_eq_true rfl) (Nat.le_of_ble_eq_true rfl) (Nat.le_of_ble_eq_true rfl) (Nat.le_of_ble_eq_true rfl) (s_X4_isIn hst (fun q => ?_) (fun q => ?_))
  · have hq := (iout_m1 (x := x) (n := n) (by omega)).mp (by rw [← hi]; exact q)
    obtain ⟨k, hk9, ek⟩ := hq
    refine g_iret hx dX4_isStar_11 rfl rfl (Nat.le_of_ble_eq_true rfl) (Nat.le_of_ble_eq_true rfl) ?_
    first | exact h1 k hk9 ek | exact h0 hq
  · have hq : ¬ inN x n := fun z => q (by rw [hi]; exact (iout_m1 (by omega)).mpr z)
    refine g_iret hx dX4_isStar_11 rfl rfl (Nat.le_of_ble_eq_true rfl) (Nat.le_of_ble_eq_true rfl) ?_
    first | exact h1 k hk9 ek | exact h0 hq

abbrev rmX4_isClaim : Room := { frames := 1, cells := 0, slots := 0, locals := 22 }
set_option maxHeartbeats 4000000 in
set_option maxRecDepth 100000 in
theorem s_X4_isClaim {l : Launch} {E : aE} {S : aS} {I : aI} {L : aL} {Rf : aR} {Kr : aK} {Kx : aX} (hst : l.stackTraces = false) {nc : Nat} {x : Int32} (hM : lyM S Rf) (hi : I 20 21 = nI nc) (hn : nc ≤ 40) (h1 : ∀ k, k < nc → x = nI k → Kr (some (.int 1)) S I L Rf) (h0 : ¬ inN x nc → Kr (some (.int 0)) S I L Rf) : aMet l E yX4_isClaim cX4_isClaim 2 (some .boolean) rmX4_isClaim [.ref 20, .int x] (S) (I) (L) (Rf) Kr Kx := by
  refine aMet.of (lv0 := [.ref 20, .int x]) (z := 0) (by decide +kernel) hst rfl (Nat.le_of_ble_eq_true rfl) ?_
  intro p e s m args below meth c io0 hx hin hno
  have hx : aCx p l s m args meth c RX4 cX4_isClaim 2 (some .boolean) E := hx
  refine g_iloadG_n hx dX4_isClaim_0 rfl (nx := 1) rfl rfl ?_
  refine g_iconst hx dX4_isClaim_1 (nx := 2) rfl (v := 0) (by decide) ?_
  refine g_aloadG_n hx dX4_isClaim_2 rfl (nx := 3) rfl rfl ?_
  refine g_getfo_i hx dX4_isClaim_3 (nx := 6) rfl fa_X4_108 rfl (hM.1 0 _ rfl) (by decide) ?_
  refine g_iconst hx dX4_isClaim_6 (nx := 7) rfl (v := 1) (by decide) ?_
  refine g_isub hx dX4_isClaim_7 (nx := 8) rfl ?_
  refine g_callS_M hx [_, _, _] (k' := 0) (n' := 0) dX4_isClaim_8 (nx := 11) rfl lk_X4_104 rfl (Nat.le_of_ble_eq_true rfl) (Nat.le_of_ble_eq_true rfl) (Nat.le_of_ble_eq_true rfl) (Nat.le_of_ble_eq_true rfl) (Nat.le_of_ble_eq_true rfl) (Nat.le_of_ble_eq_true rfl) (Nat.le_of_ble_eq_true rfl) (s_X4_isIn hst (fun q => ?_) (fun q => ?_))
  · have hq := (iout_m1 (x := x) (n := nc) (by omega)).mp (by rw [← hi]; exact q)
    obtain ⟨k, hk9, ek⟩ := hq
    refine g_iret hx dX4_isClaim_11 rfl rfl (Nat.le_of_ble_eq_true rfl) (Nat.le_of_ble_eq_true rfl) ?_
    first | exact h1 k hk9 ek | exact h0 hq
  · have hq : ¬ inN x nc := fun z => q (by rw [hi]; exact (iout_m1 (by omega)).mpr z)
    refine g_iret hx dX4_isClaim_11 rfl rfl (Nat.le_of_ble_eq_true rfl) (Nat.le_of_ble_eq_true rfl) ?_
    first | exact h1 k hk9 ek | exact h0 hq

abbrev rmX4_isFilter : Room := { frames := 1, cells := 0, slots := 0, locals := 22 }
set_option maxHeartbeats 4000000 in
set_option maxRecDepth 100000 in
theorem s_X4_isFilter {l : Launch} {E : aE} {S : aS} {I : aI} {L : aL} {Rf : aR} {Kr : aK} {Kx : aX} (hst : l.stackTraces = false) {x : Int32} (h1 : ∀ k, k < 3 → x = nI k → Kr (some (.int 1)) S I L Rf) (h0 : ¬ inN x 3 → Kr (some (.int 0)) S I L Rf) : aMet l E yX4_isFilter cX4_isFilter 1 (some .boolean) rmX4_isFilter [.int x] (S) (I) (L) (Rf) Kr Kx := by
  refine aMet.of (lv0 := [.int x]) (z := 0) (by decide +kernel) hst rfl (Nat.le_of_ble_eq_true rfl) ?_
  intro p e s m args below meth c io0 hx hin hno
  have hx : aCx p l s m args meth c RX4 cX4_isFilter 1 (some .boolean) E := hx
  refine g_iloadG_n hx dX4_isFilter_0 rfl (nx := 1) rfl rfl ?_
  refine g_iconst hx dX4_isFilter_1 (nx := 2) rfl (v := 0) (by decide) ?_
  refine g_iconst hx dX4_isFilter_2 (nx := 3) rfl (v := 2) (by decide) ?_
  refine g_callS_M hx [_, _, _] (k' := 0) (n' := 0) dX4_isFilter_3 (nx := 6) rfl lk_X4_104 rfl (Nat.le_of_ble_eq_true rfl) (Nat.le_of_ble_eq_true rfl) (Nat.le_of_ble_eq_true rfl) (Nat.le_of_ble_eq_true rfl) (Nat.le_of_ble_eq_true rfl) (Nat.le_of_ble_eq_true rfl) (Nat.le_of_ble_eq_true rfl) (s_X4_isInN hst 0 2 (by decide) (by decide) (fun q => ?_) (fun q => ?_))
  · obtain ⟨k, hk9, ek⟩ := rgN_in.mp q
    refine g_iret hx dX4_isFilter_6 rfl rfl (Nat.le_of_ble_eq_true rfl) (Nat.le_of_ble_eq_true rfl) ?_
    first | exact h1 k hk9 ek | exact h0 hq
  · have hq : ¬ inN x 3 := fun z => q (rgN_in.mpr z)
    refine g_iret hx dX4_isFilter_6 rfl rfl (Nat.le_of_ble_eq_true rfl) (Nat.le_of_ble_eq_true rfl) ?_
    first | exact h1 k hk9 ek | exact h0 hq

abbrev rmX4_isTime : Room := { frames := 1, cells := 0, slots := 0, locals := 22 }
set_option maxHeartbeats 4000000 in
set_option maxRecDepth 100000 in
theorem s_X4_isTime {l : Launch} {E : aE} {S : aS} {I : aI} {L : aL} {Rf : aR} {Kr : aK} {Kx : aX} (hst : l.stackTraces = false) {x : Int32} (h1 : ∀ k, k < 256 → x = nI k → Kr (some (.int 1)) S I L Rf) (h0 : ¬ inN x 256 → Kr (some (.int 0)) S I L Rf) : aMet l E yX4_isTime cX4_isTime 1 (some .boolean) rmX4_isTime [.int x] (S) (I) (L) (Rf) Kr Kx := by
  refine aMet.of (lv0 := [.int x]) (z := 0) (by decide +kernel) hst rfl (Nat.le_of_ble_eq_true rfl) ?_
  intro p e s m args below meth c io0 hx hin hno
  have hx : aCx p l s m args meth c RX4 cX4_isTime 1 (some .boolean) E := hx
  refine g_iloadG_n hx dX4_isTime_0 rfl (nx := 1) rfl rfl ?_
  refine g_iconst hx dX4_isTime_1 (nx := 2) rfl (v := 0) (by decide) ?_
  refine g_sipush hx dX4_isTime_2 (nx := 5) rfl (v := 255) (by decide) ?_
  refine g_callS_M hx [_, _, _] (k' := 0) (n' := 0) dX4_isTime_5 (nx := 8) rfl lk_X4_104 rfl (Nat.le_of_ble_eq_true rfl) (Nat.le_of_ble_eq_true rfl) (Nat.le_of_ble_eq_true rfl) (Nat.le_of_ble_eq_true rfl) (Nat.le_of_ble_eq_true rfl) (Nat.le_of_ble_eq_true rfl) (Nat.le_of_ble_eq_true rfl) (s_X4_isInN hst 0 255 (by decide) (by decide) (fun q => ?_) (fun q => ?_))
  · obtain ⟨k, hk9, ek⟩ := rgN_in.mp q
    refine g_iret hx dX4_isTime_8 rfl rfl (Nat.le_of_ble_eq_true rfl) (Nat.le_of_ble_eq_true rfl) ?_
    first | exact h1 k hk9 ek | exact h0 hq
  · have hq : ¬ inN x 256 := fun z => q (rgN_in.mpr z)
    refine g_iret hx dX4_isTime_8 rfl rfl (Nat.le_of_ble_eq_true rfl) (Nat.le_of_ble_eq_true rfl) ?_
    first | exact h1 k hk9 ek | exact h0 hq

abbrev rmX4_isLine : Room := { frames := 1, cells := 0, slots := 0, locals := 22 }
set_option maxHeartbeats 4000000 in
set_option maxRecDepth 100000 in
theorem s_X4_isLine {l : Launch} {E : aE} {S : aS} {I : aI} {L : aL} {Rf : aR} {Kr : aK} {Kx : aX} (hst : l.stackTraces = false) {x : Int32} (h1 : ∀ k, k < 32 → x = nI k → Kr (some (.int 1)) S I L Rf) (h0 : ¬ inN x 32 → Kr (some (.int 0)) S I L Rf) : aMet l E yX4_isLine cX4_isLine 1 (some .boolean) rmX4_isLine [.int x] (S) (I) (L) (Rf) Kr Kx := by
  refine aMet.of (lv0 := [.int x]) (z := 0) (by decide +kernel) hst rfl (Nat.le_of_ble_eq_true rfl) ?_
  intro p e s m args below meth c io0 hx hin hno
  have hx : aCx p l s m args meth c RX4 cX4_isLine 1 (some .boolean) E := hx
  refine g_iloadG_n hx dX4_isLine_0 rfl (nx := 1) rfl rfl ?_
  refine g_iconst hx dX4_isLine_1 (nx := 2) rfl (v := 0) (by decide) ?_
  refine g_bipush hx dX4_isLine_2 (nx := 4) rfl (v := 31) (by decide) ?_
  refine g_callS_M hx [_, _, _] (k' := 0) (n' := 0) dX4_isLine_4 (nx := 7) rfl lk_X4_104 rfl (Nat.le_of_ble_eq_true rfl) (Nat.le_of_ble_eq_true rfl) (Nat.le_of_ble_eq_true rfl) (Nat.le_of_ble_eq_true rfl) (Nat.le_of_ble_eq_true rfl) (Nat.le_of_ble_eq_true rfl) (Nat.le_of_ble_eq_true rfl) (s_X4_isInN hst 0 31 (by decide) (by decide) (fun q => ?_) (fun q => ?_))
  · obtain ⟨k, hk9, ek⟩ := rgN_in.mp q
    refine g_iret hx dX4_isLine_7 rfl rfl (Nat.le_of_ble_eq_true rfl) (Nat.le_of_ble_eq_true rfl) ?_
    first | exact h1 k hk9 ek | exact h0 hq
  · have hq : ¬ inN x 32 := fun z => q (rgN_in.mpr z)
    refine g_iret hx dX4_isLine_7 rfl rfl (Nat.le_of_ble_eq_true rfl) (Nat.le_of_ble_eq_true rfl) ?_
    first | exact h1 k hk9 ek | exact h0 hq

def szL (x : Int64) : Int64 := if 0 ≤ x then x else -x
abbrev rmX4_size : Room := { frames := 0, cells := 0, slots := 0, locals := 0 }
set_option maxHeartbeats 4000000 in
set_option maxRecDepth 100000 in
theorem s_X4_size {l : Launch} {E : aE} {S : aS} {I : aI} {L : aL} {Rf : aR} {Kr : aK} {Kx : aX} (hst : l.stackTraces = false) {x : Int64} (hk : Kr (some (.long (szL x))) S I L Rf) : aMet l E yX4_size cX4_size 2 (some .long) rmX4_size [.long x] (S) (I) (L) (Rf) Kr Kx := by
  refine aMet.of (lv0 := [.long x, aU]) (z := 0) (by decide +kernel) hst rfl (Nat.le_of_ble_eq_true rfl) ?_
  intro p e s m args below meth c io0 hx hin hno
  have hx : aCx p l s m args meth c RX4 cX4_size 2 (some .long) E := hx
  refine g_lloadG_n hx dX4_size_0 rfl (nx := 1) rfl rfl ?_
  refine g_lconst hx dX4_size_1 (nx := 2) rfl (v := 0) (by decide) ?_
  refine g_lcmp hx dX4_size_2 (nx := 3) rfl ?_
  refine g_if_ge hx dX4_size_3 (tg := 11) (by decide) (nx := 6) rfl (fun c3 => ?_) (fun c3 => ?_)
  · refine g_lloadG_n hx dX4_size_11 rfl (nx := 12) rfl rfl ?_
    refine g_lret hx dX4_size_12 rfl (Nat.le_of_ble_eq_true rfl) (Nat.le_of_ble_eq_true rfl) ?_
    first
      | (rw [show szL x = x from if_pos ((lg_cmp_ge _ _).mp c3)] at hk; exact hk)
      | (rw [show szL x = -x from if_neg (fun z => c3 ((lg_cmp_ge _ _).mpr z))] at hk; exact hk)
  · refine g_lloadG_n hx dX4_size_6 rfl (nx := 7) rfl rfl ?_
    refine g_lneg hx dX4_size_7 (nx := 8) rfl ?_
    refine g_goto hx dX4_size_8 (tg := 12) (by decide) ?_
    refine g_lret hx dX4_size_12 rfl (Nat.le_of_ble_eq_true rfl) (Nat.le_of_ble_eq_true rfl) ?_
    first
      | (rw [show szL x = x from if_pos ((lg_cmp_ge _ _).mp c3)] at hk; exact hk)
      | (rw [show szL x = -x from if_neg (fun z => c3 ((lg_cmp_ge _ _).mpr z))] at hk; exact hk)

def dnL (n y : Int64) : Int64 := if 0 ≤ n then n / y else -((-n + y - 1) / y)
abbrev rmX4_down : Room := { frames := 0, cells := 0, slots := 0, locals := 0 }
set_option maxHeartbeats 4000000 in
set_option maxRecDepth 100000 in
theorem s_X4_down {l : Launch} {E : aE} {S : aS} {I : aI} {L : aL} {Rf : aR} {Kr : aK} {Kx : aX} (hst : l.stackTraces = false) {n y : Int64} (hy : y ≠ 0) (hk : Kr (some (.long (dnL n y))) S I L Rf) : aMet l E yX4_down cX4_down 4 (some .long) rmX4_down [.long n, .long y] (S) (I) (L) (Rf) Kr Kx := by
  refine aMet.of (lv0 := [.long n, aU, .long y, aU]) (z := 0) (by decide +kernel) hst rfl (Nat.le_of_ble_eq_true rfl) ?_
  intro p e s m args below meth c io0 hx hin hno
  have hx : aCx p l s m args meth c RX4 cX4_down 4 (some .long) E := hx
  refine g_lloadG_n hx dX4_down_0 rfl (nx := 1) rfl rfl ?_
  refine g_lconst hx dX4_down_1 (nx := 2) rfl (v := 0) (by decide) ?_
  refine g_lcmp hx dX4_down_2 (nx := 3) rfl ?_
  refine g_if_lt hx dX4_down_3 (tg := 12) (by decide) (nx := 6) rfl (fun c3 => ?_) (fun c3 => ?_)
  · refine g_lloadG_n hx dX4_down_12 rfl (nx := 13) rfl rfl ?_
    refine g_lneg hx dX4_down_13 (nx := 14) rfl ?_
    refine g_lloadG_n hx dX4_down_14 rfl (nx := 15) rfl rfl ?_
    refine g_ladd hx dX4_down_15 (nx := 16) rfl ?_
    refine g_lconst hx dX4_down_16 (nx := 17) rfl (v := 1) (by decide) ?_
    refine g_lsub hx dX4_down_17 (nx := 18) rfl ?_
    refine g_lloadG_n hx dX4_down_18 rfl (nx := 19) rfl rfl ?_
    refine g_ldiv hx dX4_down_19 (nx := 20) rfl hy ?_
    refine g_lneg hx dX4_down_20 (nx := 21) rfl ?_
    refine g_lret hx dX4_down_21 rfl (Nat.le_of_ble_eq_true rfl) (Nat.le_of_ble_eq_true rfl) ?_
    first
      | (rw [show dnL n y = n / y from if_pos (Int64.not_lt.mp (fun z => c3 ((lg_cmp_lt _ _).mpr z)))] at hk; exact hk)
      | (rw [show dnL n y = -((-n + y - 1) / y) from if_neg (Int64.not_le.mpr ((lg_cmp_lt _ _).mp c3))] at hk; exact hk)
  · refine g_lloadG_n hx dX4_down_6 rfl (nx := 7) rfl rfl ?_
    refine g_lloadG_n hx dX4_down_7 rfl (nx := 8) rfl rfl ?_
    refine g_ldiv hx dX4_down_8 (nx := 9) rfl hy ?_
    refine g_goto hx dX4_down_9 (tg := 21) (by decide) ?_
    refine g_lret hx dX4_down_21 rfl (Nat.le_of_ble_eq_true rfl) (Nat.le_of_ble_eq_true rfl) ?_
    first
      | (rw [show dnL n y = n / y from if_pos (Int64.not_lt.mp (fun z => c3 ((lg_cmp_lt _ _).mpr z)))] at hk; exact hk)
      | (rw [show dnL n y = -((-n + y - 1) / y) from if_neg (Int64.not_le.mpr ((lg_cmp_lt _ _).mp c3))] at hk; exact hk)

abbrev rmX4_thrown : Room := { frames := 0, cells := 0, slots := 0, locals := 0 }
set_option maxHeartbeats 4000000 in
set_option maxRecDepth 100000 in
theorem s_X4_thrown {l : Launch} {E : aE} {S : aS} {I : aI} {L : aL} {Rf : aR} {Kr : aK} {Kx : aX} (hst : l.stackTraces = false) (hM : lyM S Rf) (hk : Kr (some (.int (I 20 31))) S I L Rf) : aMet l E yX4_thrown cX4_thrown 1 (some .int) rmX4_thrown [.ref 20] (S) (I) (L) (Rf) Kr Kx := by
  refine aMet.of (lv0 := [.ref 20]) (z := 0) (by decide +kernel) hst rfl (Nat.le_of_ble_eq_true rfl) ?_
  intro p e s m args below meth c io0 hx hin hno
  have hx : aCx p l s m args meth c RX4 cX4_thrown 1 (some .int) E := hx
  refine g_aloadG_n hx dX4_thrown_0 rfl (nx := 1) rfl rfl ?_
  refine g_getfo_i hx dX4_thrown_1 (nx := 4) rfl fa_X4_98 rfl (hM.1 0 _ rfl) (by decide) ?_
  refine g_iret hx dX4_thrown_4 rfl rfl (Nat.le_of_ble_eq_true rfl) (Nat.le_of_ble_eq_true rfl) ?_
  exact hk

abbrev rmX4_shell : Room := { frames := 1, cells := 0, slots := 0, locals := 22 }
set_option maxHeartbeats 4000000 in
set_option maxRecDepth 100000 in
theorem s_X4_shell {l : Launch} {E : aE} {S : aS} {I : aI} {L : aL} {Rf : aR} {Kr : aK} {Kx : aX} (hst : l.stackTraces = false) {sh : Nat} {x y w : Int32} (hM : lyM S Rf) (h0 : I 20 0 = nI sh) (h8 : sh ≤ 8) (hf1 : ¬ (rgN x 1 99 ∧ rgN y 1 99 ∧ rgN w 0 9) → Kr (some (.int 0)) S (au2 I 20 31 1) L Rf) (hf2 : (rgN x 1 99 ∧ rgN y 1 99 ∧ rgN w 0 9) → sh = 8 → Kr (some (.int 0)) S (au2 I 20 31 2) L Rf) (hk : (rgN x 1 99 ∧ rgN y 1 99 ∧ rgN w 0 9) → sh < 8 → Kr (some (.int (nI (sh + 1)))) S (au2 (au2 (au2 (au2 (au2 I 20 31 0) 21 sh x) 22 sh y) 23 sh w) 20 0 (nI (sh + 1))) L Rf) : aMet l E yX4_shell cX4_shell 5 (some .int) rmX4_shell [.ref 20, .int x, .int y, .int w] (S) (I) (L) (Rf) Kr Kx := by
  refine aMet.of (lv0 := [.ref 20, .int x, .int y, .int w, aU]) (z := 1) (by decide +kernel) hst rfl (Nat.le_of_ble_eq_true rfl) ?_
  intro p e s m args below meth c io0 hx hin hno
  have hx : aCx p l s m args meth c RX4 cX4_shell 5 (some .int) E := hx
  refine g_iloadG_n hx dX4_shell_0 rfl (nx := 1) rfl rfl ?_
  refine g_iconst hx dX4_shell_1 (nx := 2) rfl (v := 1) (by decide) ?_
  refine g_bipush hx dX4_shell_2 (nx := 4) rfl (v := 99) (by decide) ?_
  refine g_callS_M hx [_, _, _] (k' := 0) (n' := 0) dX4_shell_4 (nx := 7) rfl lk_X4_104 rfl (Nat.le_of_ble_eq_true rfl) (Nat.le_of_ble_eq_true rfl) (Nat.le_of_ble_eq_true rfl) (Nat.le_of_ble_eq_true rfl) (Nat.le_of_ble_eq_true rfl) (Nat.le_of_ble_eq_true rfl) (Nat.le_of_ble_eq_true rfl) (s_X4_isInN hst 1 99 (by decide) (by decide) (fun q1 => ?_) (fun q1 => ?_))
  · refine g_if_eq hx dX4_shell_7 (tg := 34) (by decide) (nx := 10) rfl (fun c7 => ?_) (fun c7 => ?_)
    · exact absurd c7 (by decide)
    · refine g_iloadG_n hx dX4_shell_10 rfl (nx := 11) rfl rfl ?_
      refine g_iconst hx dX4_shell_11 (nx := 12) rfl (v := 1) (by decide) ?_
      refine g_bipush hx dX4_shell_12 (nx := 14) rfl (v := 99) (by decide) ?_
      refine g_callS_M hx [_, _, _] (k' := 0) (n' := 0) dX4_shell_14 (nx := 17) rfl lk_X4_104 rfl (Nat.le_of_ble_eq_true rfl) (Nat.le_of_ble_eq_true rfl) (Nat.le_of_ble_eq_true rfl) (Nat.le_of_ble_eq_true rfl) (Nat.le_of_ble_eq_true rfl) (Nat.le_of_ble_eq_true rfl) (Nat.le_of_ble_eq_true rfl) (s_X4_isInN hst 1 99 (by decide) (by decide) (fun q2 => ?_) (fun q2 => ?_))
      · refine g_if_eq hx dX4_shell_17 (tg := 34) (by decide) (nx := 20) rfl (fun c17 => ?_) (fun c17 => ?_)
        · exact absurd c17 (by decide)
        · refine g_iloadG_n hx dX4_shell_20 rfl (nx := 21) rfl rfl ?_
          refine g_iconst hx dX4_shell_21 (nx := 22) rfl (v := 0) (by decide) ?_
          refine g_bipush hx dX4_shell_22 (nx := 24) rfl (v := 9) (by decide) ?_
          refine g_callS_M hx [_, _, _] (k' := 0) (n' := 0) dX4_shell_24 (nx := 27) rfl lk_X4_104 rfl (Nat.le_of_ble_eq_true rfl) (Nat.le_of_ble_eq_true rfl) (Nat.le_of_ble_eq_true rfl) (Nat.le_of_ble_eq_true rfl) (Nat.le_of_ble_eq_true rfl) (Nat.le_of_ble_eq_true rfl) (Nat.le_of_ble_eq_true rfl) (s_X4_isInN hst 0 9 (by decide) (by decide) (fun q3 => ?_) (fun q3 => ?_))
          · refine g_if_eq hx dX4_shell_27 (tg := 34) (by decide) (nx := 30) rfl (fun c27 => ?_) (fun c27 => ?_)
            · exact absurd c27 (by decide)
            · refine g_iconst hx dX4_shell_30 (nx := 31) rfl (v := 1) (by decide) ?_
              refine g_goto hx dX4_shell_31 (tg := 35) (by decide) ?_
              refine g_istore_4 hx dX4_shell_35 (nx := 37) rfl (by decide) rfl ?_
              refine g_aloadG_n hx dX4_shell_37 rfl (nx := 38) rfl rfl ?_
              refine g_iloadG hx dX4_shell_38 (nx := 40) rfl rfl ?_
              refine g_if_ne hx dX4_shell_40 (tg := 47) (by decide) (nx := 43) rfl (fun c40 => ?_) (fun c40 => ?_)
              · refine g_aloadG_n hx dX4_shell_47 rfl (nx := 48) rfl rfl ?_
                refine g_getfo_i hx dX4_shell_48 (nx := 51) rfl fa_X4_111 rfl (hM.1 0 _ rfl) (by decide) ?_
                refine g_bipush hx dX4_shell_51 (nx := 53) rfl (v := 8) (by decide) ?_
                refine g_icmp_ne hx dX4_shell_53 (tg := 60) (by decide) (nx := 56) rfl (fun c53 => ?_) (fun c53 => ?_)
                · refine g_iconst hx dX4_shell_60 (nx := 61) rfl (v := 0) (by decide) ?_
                  refine g_callV_M hx [_] (k' := 0) (n' := 0) dX4_shell_61 (nx := 64) rfl lk_X4_114 (hM.1 0 _ rfl) (by decide) rfl rfl (Nat.le_of_ble_eq_true rfl) (Nat.le_of_ble_eq_true rfl) (Nat.le_of_ble_eq_true rfl) (Nat.le_of_ble_eq_true rfl) (Nat.le_of_ble_eq_true rfl) (Nat.le_of_ble_eq_true rfl) (Nat.le_of_ble_eq_true rfl) (s_X4_can hst hM (fun _ => ?_) (fun z => absurd rfl z))
                  refine g_if_ne hx dX4_shell_64 (tg := 69) (by decide) (nx := 67) rfl (fun c64 => ?_) (fun c64 => ?_)
                  · have hlt : sh < 8 := Nat.lt_of_le_of_ne h8 (fun z => c53 (by rw [h0, z]; rfl))
                    have hin : vp_in (nI sh) 8 := vp_in_nI hlt (by decide)
                    have hc : (nI sh).toNatClampNeg = sh := nI_clamp (by omega)
                    refine g_aloadG_n hx dX4_shell_69 rfl (nx := 70) rfl rfl ?_
                    refine g_getfo_R hx dX4_shell_70 (nx := 73) rfl fa_X4_7 rfl (r9 := 21) (hM.2 1 rfl) (hM.1 0 _ rfl) (by decide) ?_
                    refine g_aloadG_n hx dX4_shell_73 rfl (nx := 74) rfl rfl ?_
                    refine g_getfo_i hx dX4_shell_74 (nx := 77) rfl fa_X4_111 rfl (hM.1 0 _ rfl) (by decide) ?_
                    refine g_iloadG_n hx dX4_shell_77 rfl (nx := 78) rfl rfl ?_
                    refine g_iastore hx dX4_shell_78 (nx := 79) rfl (hM.1 1 _ rfl) (by decide) (by rw [au2_n (by omega), h0]; exact hin) ?_
                    refine g_aloadG_n hx dX4_shell_79 rfl (nx := 80) rfl rfl ?_
                    refine g_getfo_R hx dX4_shell_80 (nx := 83) rfl fa_X4_13 rfl (r9 := 22) (hM.2 2 rfl) (hM.1 0 _ rfl) (by decide) ?_
                    refine g_aloadG_n hx dX4_shell_83 rfl (nx := 84) rfl rfl ?_
                    refine g_getfo_i hx dX4_shell_84 (nx := 87) rfl fa_X4_111 rfl (hM.1 0 _ rfl) (by decide) ?_
                    refine g_iloadG_n hx dX4_shell_87 rfl (nx := 88) rfl rfl ?_
                    refine g_iastore hx dX4_shell_88 (nx := 89) rfl (hM.1 2 _ rfl) (by decide) (by rw [au2_n (by omega), au2_n (by omega), h0]; exact hin) ?_
                    refine g_aloadG_n hx dX4_shell_89 rfl (nx := 90) rfl rfl ?_
                    refine g_getfo_R hx dX4_shell_90 (nx := 93) rfl fa_X4_16 rfl (r9 := 23) (hM.2 3 rfl) (hM.1 0 _ rfl) (by decide) ?_
                    refine g_aloadG_n hx dX4_shell_93 rfl (nx := 94) rfl rfl ?_
                    refine g_getfo_i hx dX4_shell_94 (nx := 97) rfl fa_X4_111 rfl (hM.1 0 _ rfl) (by decide) ?_
                    refine g_iloadG_n hx dX4_shell_97 rfl (nx := 98) rfl rfl ?_
                    refine g_iastore hx dX4_shell_98 (nx := 99) rfl (hM.1 3 _ rfl) (by decide) (by rw [au2_n (by omega), au2_n (by omega), au2_n (by omega), h0]; exact hin) ?_
                    refine g_aloadG_n hx dX4_shell_99 rfl (nx := 100) rfl rfl ?_
                    refine g_dup hx dX4_shell_100 (nx := 101) rfl rfl ?_
                    refine g_getfo_i hx dX4_shell_101 (nx := 104) rfl fa_X4_111 rfl (hM.1 0 _ rfl) (by decide) ?_
                    refine g_iconst hx dX4_shell_104 (nx := 105) rfl (v := 1) (by decide) ?_
                    refine g_iadd hx dX4_shell_105 (nx := 106) rfl ?_
                    refine g_putfo_i hx dX4_shell_106 (nx := 109) rfl fa_X4_111 rfl rfl rfl (fun r h => by cases h; rfl) (hM.1 0 _ rfl) (by decide) ?_
                    refine g_aloadG_n hx dX4_shell_109 rfl (nx := 110) rfl rfl ?_
                    refine g_getfo_i hx dX4_shell_110 (nx := 113) rfl fa_X4_111 rfl (hM.1 0 _ rfl) (by decide) ?_
                    refine g_iret hx dX4_shell_113 rfl rfl (Nat.le_of_ble_eq_true rfl) (Nat.le_of_ble_eq_true rfl) ?_
                    first
                      | exact hf1 (fun z => q1 z.1)
                      | exact hf1 (fun z => q2 z.2.1)
                      | exact hf1 (fun z => q3 z.2.2)
                      | exact hf2 ⟨q1, q2, q3⟩ (by rw [h0] at c53; exact (nI_eq (by omega) (by decide : 8 < 2 ^ 31)).mp c53)
                      | (have K := hk ⟨q1, q2, q3⟩ hlt
                         simp only [au2_s]
                         rw [au2_n (by omega), au2_n (by omega), au2_n (by omega), au2_n (by omega), h0, hc, ← nI_succ]
                         exact K)
                  · exact absurd c64 (by decide)
                · refine g_iconst hx dX4_shell_56 (nx := 57) rfl (v := 2) (by decide) ?_
                  refine g_goto hx dX4_shell_57 (tg := 61) (by decide) ?_
                  refine g_callV_M hx [_] (k' := 0) (n' := 0) dX4_shell_61 (nx := 64) rfl lk_X4_114 (hM.1 0 _ rfl) (by decide) rfl rfl (Nat.le_of_ble_eq_true rfl) (Nat.le_of_ble_eq_true rfl) (Nat.le_of_ble_eq_true rfl) (Nat.le_of_ble_eq_true rfl) (Nat.le_of_ble_eq_true rfl) (Nat.le_of_ble_eq_true rfl) (Nat.le_of_ble_eq_true rfl) (s_X4_can hst hM (fun z => absurd z (by decide)) (fun _ => ?_))
                  refine g_if_ne hx dX4_shell_64 (tg := 69) (by decide) (nx := 67) rfl (fun c64 => ?_) (fun c64 => ?_)
                  · exact absurd c64 (by decide)
                  · refine g_iconst hx dX4_shell_67 (nx := 68) rfl (v := 0) (by decide) ?_
                    refine g_iret hx dX4_shell_68 rfl rfl (Nat.le_of_ble_eq_true rfl) (Nat.le_of_ble_eq_true rfl) ?_
                    first
                      | exact hf1 (fun z => q1 z.1)
                      | exact hf1 (fun z => q2 z.2.1)
                      | exact hf1 (fun z => q3 z.2.2)
                      | exact hf2 ⟨q1, q2, q3⟩ (by rw [h0] at c53; exact (nI_eq (by omega) (by decide : 8 < 2 ^ 31)).mp c53)
                      | (have K := hk ⟨q1, q2, q3⟩ hlt
                         simp only [au2_s]
                         rw [au2_n (by omega), au2_n (by omega), au2_n (by omega), au2_n (by omega), h0, hc, ← nI_succ]
                         exact K)
              · exact absurd c40 (by decide)
          · refine g_if_eq hx dX4_shell_27 (tg := 34) (by decide) (nx := 30) rfl (fun c27 => ?_) (fun c27 => ?_)
            · refine g_iconst hx dX4_shell_34 (nx := 35) rfl (v := 0) (by decide) ?_
              refine g_istore_4 hx dX4_shell_35 (nx := 37) rfl (by decide) rfl ?_
              refine g_aloadG_n hx dX4_shell_37 rfl (nx := 38) rfl rfl ?_
              refine g_iloadG hx dX4_shell_38 (nx := 40) rfl rfl ?_
              refine g_if_ne hx dX4_shell_40 (tg := 47) (by decide) (nx := 43) rfl (fun c40 => ?_) (fun c40 => ?_)
              · exact absurd c40 (by decide)
              · refine g_iconst hx dX4_shell_43 (nx := 44) rfl (v := 1) (by decide) ?_
                refine g_goto hx dX4_shell_44 (tg := 61) (by decide) ?_
                refine g_callV_M hx [_] (k' := 0) (n' := 0) dX4_shell_61 (nx := 64) rfl lk_X4_114 (hM.1 0 _ rfl) (by decide) rfl rfl (Nat.le_of_ble_eq_true rfl) (Nat.le_of_ble_eq_true rfl) (Nat.le_of_ble_eq_true rfl) (Nat.le_of_ble_eq_true rfl) (Nat.le_of_ble_eq_true rfl) (Nat.le_of_ble_eq_true rfl) (Nat.le_of_ble_eq_true rfl) (s_X4_can hst hM (fun z => absurd z (by decide)) (fun _ => ?_))
                refine g_if_ne hx dX4_shell_64 (tg := 69) (by decide) (nx := 67) rfl (fun c64 => ?_) (fun c64 => ?_)
                · exact absurd c64 (by decide)
                · refine g_iconst hx dX4_shell_67 (nx := 68) rfl (v := 0) (by decide) ?_
                  refine g_iret hx dX4_shell_68 rfl rfl (Nat.le_of_ble_eq_true rfl) (Nat.le_of_ble_eq_true rfl) ?_
                  first
                    | exact hf1 (fun z => q1 z.1)
                    | exact hf1 (fun z => q2 z.2.1)
                    | exact hf1 (fun z => q3 z.2.2)
                    | exact hf2 ⟨q1, q2, q3⟩ (by rw [h0] at c53; exact (nI_eq (by omega) (by decide : 8 < 2 ^ 31)).mp c53)
                    | (have K := hk ⟨q1, q2, q3⟩ hlt
                       simp only [au2_s]
                       rw [au2_n (by omega), au2_n (by omega), au2_n (by omega), au2_n (by omega), h0, hc, ← nI_succ]
                       exact K)
            · exact absurd c27 (by decide)
      · refine g_if_eq hx dX4_shell_17 (tg := 34) (by decide) (nx := 20) rfl (fun c17 => ?_) (fun c17 => ?_)
        · refine g_iconst hx dX4_shell_34 (nx := 35) rfl (v := 0) (by decide) ?_
          refine g_istore_4 hx dX4_shell_35 (nx := 37) rfl (by decide) rfl ?_
          refine g_aloadG_n hx dX4_shell_37 rfl (nx := 38) rfl rfl ?_
          refine g_iloadG hx dX4_shell_38 (nx := 40) rfl rfl ?_
          refine g_if_ne hx dX4_shell_40 (tg := 47) (by decide) (nx := 43) rfl (fun c40 => ?_) (fun c40 => ?_)
          · exact absurd c40 (by decide)
          · refine g_iconst hx dX4_shell_43 (nx := 44) rfl (v := 1) (by decide) ?_
            refine g_goto hx dX4_shell_44 (tg := 61) (by decide) ?_
            refine g_callV_M hx [_] (k' := 0) (n' := 0) dX4_shell_61 (nx := 64) rfl lk_X4_114 (hM.1 0 _ rfl) (by decide) rfl rfl (Nat.le_of_ble_eq_true rfl) (Nat.le_of_ble_eq_true rfl) (Nat.le_of_ble_eq_true rfl) (Nat.le_of_ble_eq_true rfl) (Nat.le_of_ble_eq_true rfl) (Nat.le_of_ble_eq_true rfl) (Nat.le_of_ble_eq_true rfl) (s_X4_can hst hM (fun z => absurd z (by decide)) (fun _ => ?_))
            refine g_if_ne hx dX4_shell_64 (tg := 69) (by decide) (nx := 67) rfl (fun c64 => ?_) (fun c64 => ?_)
            · exact absurd c64 (by decide)
            · refine g_iconst hx dX4_shell_67 (nx := 68) rfl (v := 0) (by decide) ?_
              refine g_iret hx dX4_shell_68 rfl rfl (Nat.le_of_ble_eq_true rfl) (Nat.le_of_ble_eq_true rfl) ?_
              first
                | exact hf1 (fun z => q1 z.1)
                | exact hf1 (fun z => q2 z.2.1)
                | exact hf1 (fun z => q3 z.2.2)
                | exact hf2 ⟨q1, q2, q3⟩ (by rw [h0] at c53; exact (nI_eq (by omega) (by decide : 8 < 2 ^ 31)).mp c53)
                | (have K := hk ⟨q1, q2, q3⟩ hlt
                   simp only [au2_s]
                   rw [au2_n (by omega), au2_n (by omega), au2_n (by omega), au2_n (by omega), h0, hc, ← nI_succ]
                   exact K)
        · exact absurd c17 (by decide)
  · refine g_if_eq hx dX4_shell_7 (tg := 34) (by decide) (nx := 10) rfl (fun c7 => ?_) (fun c7 => ?_)
    · refine g_iconst hx dX4_shell_34 (nx := 35) rfl (v := 0) (by decide) ?_
      refine g_istore_4 hx dX4_shell_35 (nx := 37) rfl (by decide) rfl ?_
      refine g_aloadG_n hx dX4_shell_37 rfl (nx := 38) rfl rfl ?_
      refine g_iloadG hx dX4_shell_38 (nx := 40) rfl rfl ?_
      refine g_if_ne hx dX4_shell_40 (tg := 47) (by decide) (nx := 43) rfl (fun c40 => ?_) (fun c40 => ?_)
      · exact absurd c40 (by decide)
      · refine g_iconst hx dX4_shell_43 (nx := 44) rfl (v := 1) (by decide) ?_
        refine g_goto hx dX4_shell_44 (tg := 61) (by decide) ?_
        refine g_callV_M hx [_] (k' := 0) (n' := 0) dX4_shell_61 (nx := 64) rfl lk_X4_114 (hM.1 0 _ rfl) (by decide) rfl rfl (Nat.le_of_ble_eq_true rfl) (Nat.le_of_ble_eq_true rfl) (Nat.le_of_ble_eq_true rfl) (Nat.le_of_ble_eq_true rfl) (Nat.le_of_ble_eq_true rfl) (Nat.le_of_ble_eq_true rfl) (Nat.le_of_ble_eq_true rfl) (s_X4_can hst hM (fun z => absurd z (by decide)) (fun _ => ?_))
        refine g_if_ne hx dX4_shell_64 (tg := 69) (by decide) (nx := 67) rfl (fun c64 => ?_) (fun c64 => ?_)
        · exact absurd c64 (by decide)
        · refine g_iconst hx dX4_shell_67 (nx := 68) rfl (v := 0) (by decide) ?_
          refine g_iret hx dX4_shell_68 rfl rfl (Nat.le_of_ble_eq_true rfl) (Nat.le_of_ble_eq_true rfl) ?_
          first
            | exact hf1 (fun z => q1 z.1)
            | exact hf1 (fun z => q2 z.2.1)
            | exact hf1 (fun z => q3 z.2.2)
            | exact hf2 ⟨q1, q2, q3⟩ (by rw [h0] at c53; exact (nI_eq (by omega) (by decide : 8 < 2 ^ 31)).mp c53)
            | (have K := hk ⟨q1, q2, q3⟩ hlt
               simp only [au2_s]
               rw [au2_n (by omega), au2_n (by omega), au2_n (by omega), au2_n (by omega), h0, hc, ← nI_succ]
               exact K)
    · exact absurd c7 (by decide)

def tn0 (la sm o d : Int32) : Int32 := la * (2 * o + d + 3) / 2 - sm * d * (d + 1)
def tnL (a : Int32) : Int32 := 500 - (if a < 0 then -a else a)
def tn1 (t c d : Int32) : Int32 := if d = 1 then (if 0 < tnL (t - c) then (if t - c < 0 then t + -(tnL (t - c) / 2) else t + tnL (t - c) / 2) else t) else t
def tnM (la sm tu co o d p : Int32) : Int32 := tn1 (tn0 la sm o d) co d + 10 * tu * p
abbrev tnI (I : aI) (k : Nat) (o d p : Int32) : Int32 := tnM (I 27 k) (I 28 k) (I 29 k) (I 30 k) o d p
theorem tnL_n {a : Int32} (h : a < 0) : tnL a = 500 - -a := by rw [tnL, if_pos h]
theorem tnL_p {a : Int32} (h : ¬ a < 0) : tnL a = 500 - a := by rw [tnL, if_neg h]
theorem tn1_a {t c d : Int32} (h : ¬ d = 1) : tn1 t c d = t := if_neg h
theorem tn1_b {t c d a : Int32} (ha : a = t - c) (h : d = 1) (h2 : ¬ 0 < tnL a) : tn1 t c d = t := by rw [tn1, if_pos h, ← ha, if_neg h2]
theorem tn1_c {t c d a : Int32} (ha : a = t - c) (h : d = 1) (h2 : 0 < tnL a) (h3 : a < 0) : tn1 t c d = t + -(tnL a / 2) := by rw [tn1, if_pos h, ← ha, if_pos h2, if_pos h3]
theorem tn1_d {t c d a : Int32} (ha : a = t - c) (h : d = 1) (h2 : 0 < tnL a) (h3 : ¬ a < 0) : tn1 t c d = t + tnL a / 2 := by rw [tn1, if_pos h, ← ha, if_pos h2, if_neg h3]
abbrev rmX4_toneOf : Room := { frames := 0, cells := 0, slots := 0, locals := 0 }
set_option maxHeartbeats 4000000 in
set_option maxRecDepth 100000 in
theorem s_X4_toneOf {l : Launch} {E : aE} {S : aS} {I : aI} {L : aL} {Rf : aR} {Kr : aK} {Kx : aX} (hst : l.stackTraces = false) {k : Nat} {x y w : Int32} (hM : lyM S Rf) (hk6 : k < 6) (hk : Kr (some (.int (tnI I k x y w))) S I L Rf) : aMet l E yX4_toneOf cX4_toneOf 8 (some .int) rmX4_toneOf [.ref 20, .int (nI k), .int x, .int y, .int w] (S) (I) (L) (Rf) Kr Kx := by
  refine aMet.of (lv0 := [.ref 20, .int (nI k), .int x, .int y, .int w, aU, aU, aU]) (z := 3) (by decide +kernel) hst rfl (Nat.le_of_ble_eq_true rfl) ?_
  intro p e s m args below meth c io0 hx hin hno
  have hx : aCx p l s m args meth c RX4 cX4_toneOf 8 (some .int) E := hx
  have hkc : (nI k).toNatClampNeg = k := nI_clamp (by omega)
  have hin6 : vp_in (nI k) 6 := vp_in_nI (by omega) (by decide)
  refine g_aloadG_n hx dX4_toneOf_0 rfl (nx := 1) rfl rfl ?_
  refine g_getfo_R hx dX4_toneOf_1 (nx := 4) rfl fa_X4_25 rfl (r9 := 27) (hM.2 7 rfl) (hM.1 0 _ rfl) (by decide) ?_
  refine g_iloadG_n hx dX4_toneOf_4 rfl (nx := 5) rfl rfl ?_
  refine g_iaload hx dX4_toneOf_5 (nx := 6) rfl (hM.1 7 _ rfl) (by decide) hin6 ?_
  refine g_iconst hx dX4_toneOf_6 (nx := 7) rfl (v := 2) (by decide) ?_
  refine g_iloadG_n hx dX4_toneOf_7 rfl (nx := 8) rfl rfl ?_
  refine g_imul hx dX4_toneOf_8 (nx := 9) rfl ?_
  refine g_iloadG_n hx dX4_toneOf_9 rfl (nx := 10) rfl rfl ?_
  refine g_iadd hx dX4_toneOf_10 (nx := 11) rfl ?_
  refine g_iconst hx dX4_toneOf_11 (nx := 12) rfl (v := 3) (by decide) ?_
  refine g_iadd hx dX4_toneOf_12 (nx := 13) rfl ?_
  refine g_imul hx dX4_toneOf_13 (nx := 14) rfl ?_
  refine g_iconst hx dX4_toneOf_14 (nx := 15) rfl (v := 2) (by decide) ?_
  refine g_idiv hx dX4_toneOf_15 (nx := 16) rfl (by decide) ?_
  refine g_aloadG_n hx dX4_toneOf_16 rfl (nx := 17) rfl rfl ?_
  refine g_getfo_R hx dX4_toneOf_17 (nx := 20) rfl fa_X4_28 rfl (r9 := 28) (hM.2 8 rfl) (hM.1 0 _ rfl) (by decide) ?_
  refine g_iloadG_n hx dX4_toneOf_20 rfl (nx := 21) rfl rfl ?_
  refine g_iaload hx dX4_toneOf_21 (nx := 22) rfl (hM.1 8 _ rfl) (by decide) (by assumption) ?_
  refine g_iloadG_n hx dX4_toneOf_22 rfl (nx := 23) rfl rfl ?_
  refine g_imul hx dX4_toneOf_23 (nx := 24) rfl ?_
  refine g_iloadG_n hx dX4_toneOf_24 rfl (nx := 25) rfl rfl ?_
  refine g_iconst hx dX4_toneOf_25 (nx := 26) rfl (v := 1) (by decide) ?_
  refine g_iadd hx dX4_toneOf_26 (nx := 27) rfl ?_
  refine g_imul hx dX4_toneOf_27 (nx := 28) rfl ?_
  refine g_isub hx dX4_toneOf_28 (nx := 29) rfl ?_
  rw [hkc]
  obtain ⟨t, ht⟩ : ∃ t, t = tn0 (I 27 k) (I 28 k) x y := ⟨_, rfl⟩
  rw [show I 27 k * (2 * x + y + 3) / 2 - I 28 k * y * (y + 1) = t from ht.symm]
  have hk2 : Kr (some (.int (tn1 t (I 30 k) y + 10 * I 29 k * w))) S I L Rf := by rw [ht]; exact hk
  refine g_istore_5 hx dX4_toneOf_29 (nx := 31) rfl (by decide) rfl ?_
  refine g_iloadG hx dX4_toneOf_31 (nx := 33) rfl rfl ?_
  refine g_aloadG_n hx dX4_toneOf_33 rfl (nx := 34) rfl rfl ?_
  refine g_getfo_R hx dX4_toneOf_34 (nx := 37) rfl fa_X4_34 rfl (r9 := 30) (hM.2 10 rfl) (hM.1 0 _ rfl) (by decide) ?_
  refine g_iloadG_n hx dX4_toneOf_37 rfl (nx := 38) rfl rfl ?_
  refine g_iaload hx dX4_toneOf_38 (nx := 39) rfl (hM.1 10 _ rfl) (by decide) hin6 ?_
  refine g_isub hx dX4_toneOf_39 (nx := 40) rfl ?_
  rw [hkc]
  obtain ⟨a, ha⟩ : ∃ a, a = t - I 30 k := ⟨_, rfl⟩
  rw [← ha]
  refine g_istore_6 hx dX4_toneOf_40 (nx := 42) rfl (by decide) rfl ?_
  refine g_sipush hx dX4_toneOf_42 (nx := 45) rfl (v := 500) (by decide) ?_
  refine g_iloadG hx dX4_toneOf_45 (nx := 47) rfl rfl ?_
  refine g_if_ge hx dX4_toneOf_47 (tg := 56) (by decide) (nx := 50) rfl (fun c47 => ?_) (fun c47 => ?_)
  · refine g_iloadG hx dX4_toneOf_56 (nx := 58) rfl rfl ?_
    refine g_isub hx dX4_toneOf_58 (nx := 59) rfl ?_
    first
      | rw [show (500 : Int32) - -a = tnL a from (tnL_n (by first | exact c47 | exact Int32.not_le.mp c47 | exact Int32.not_lt.mpr c47 | exact c75 | exact Int32.not_le.mp c75 | exact Int32.not_lt.mpr c75)).symm]
      | rw [show (500 : Int32) - a = tnL a from (tnL_p (by first | exact c47 | exact Int32.not_le.mp c47 | exact Int32.not_lt.mpr c47 | exact c75 | exact Int32.not_le.mp c75 | exact Int32.not_lt.mpr c75)).symm]
    refine g_istore_7 hx dX4_toneOf_59 (nx := 61) rfl (by decide) rfl ?_
    refine g_iloadG_n hx dX4_toneOf_61 rfl (nx := 62) rfl rfl ?_
    refine g_iconst hx dX4_toneOf_62 (nx := 63) rfl (v := 1) (by decide) ?_
    refine g_icmp_ne hx dX4_toneOf_63 (tg := 93) (by decide) (nx := 66) rfl (fun c63 => ?_) (fun c63 => ?_)
    · refine g_iloadG hx dX4_toneOf_93 (nx := 95) rfl rfl ?_
      refine g_bipush hx dX4_toneOf_95 (nx := 97) rfl (v := 10) (by decide) ?_
      refine g_aloadG_n hx dX4_toneOf_97 rfl (nx := 98) rfl rfl ?_
      refine g_getfo_R hx dX4_toneOf_98 (nx := 101) rfl fa_X4_31 rfl (r9 := 29) (hM.2 9 rfl) (hM.1 0 _ rfl) (by decide) ?_
      refine g_iloadG_n hx dX4_toneOf_101 rfl (nx := 102) rfl rfl ?_
      refine g_iaload hx dX4_toneOf_102 (nx := 103) rfl (hM.1 9 _ rfl) (by decide) hin6 ?_
      refine g_imul hx dX4_toneOf_103 (nx := 104) rfl ?_
      refine g_iloadG hx dX4_toneOf_104 (nx := 106) rfl rfl ?_
      refine g_imul hx dX4_toneOf_106 (nx := 107) rfl ?_
      refine g_iadd hx dX4_toneOf_107 (nx := 108) rfl ?_
      refine g_iret hx dX4_toneOf_108 rfl rfl (Nat.le_of_ble_eq_true rfl) (Nat.le_of_ble_eq_true rfl) ?_
      rw [hkc]
      first
        | (rw [tn1_a c63] at hk2; exact hk2)
        | (rw [tn1_b ha c63 (by first | exact c68 | exact Int32.not_le.mp c68 | exact Int32.not_lt.mpr c68)] at hk2; exact hk2)
        | (rw [tn1_c ha c63 (by first | exact c68 | exact Int32.not_le.mp c68 | exact Int32.not_lt.mpr c68) (by first | exact c47 | exact Int32.not_le.mp c47 | exact Int32.not_lt.mpr c47 | exact c75 | exact Int32.not_le.mp c75 | exact Int32.not_lt.mpr c75)] at hk2; exact hk2)
        | (rw [tn1_d ha c63 (by first | exact c68 | exact Int32.not_le.mp c68 | exact Int32.not_lt.mpr c68) (by first | exact c47 | exact Int32.not_le.mp c47 | exact Int32.not_lt.mpr c47 | exact c75 | exact Int32.not_le.mp c75 | exact Int32.not_lt.mpr c75)] at hk2; exact hk2)
    · refine g_iloadG hx dX4_toneOf_66 (nx := 68) rfl rfl ?_
      refine g_if_le hx dX4_toneOf_68 (tg := 93) (by decide) (nx := 71) rfl (fun c68 => ?_) (fun c68 => ?_)
      · refine g_iloadG hx dX4_toneOf_93 (nx := 95) rfl rfl ?_
        refine g_bipush hx dX4_toneOf_95 (nx := 97) rfl (v := 10) (by decide) ?_
        refine g_aloadG_n hx dX4_toneOf_97 rfl (nx := 98) rfl rfl ?_
        refine g_getfo_R hx dX4_toneOf_98 (nx := 101) rfl fa_X4_31 rfl (r9 := 29) (hM.2 9 rfl) (hM.1 0 _ rfl) (by decide) ?_
        refine g_iloadG_n hx dX4_toneOf_101 rfl (nx := 102) rfl rfl ?_
        refine g_iaload hx dX4_toneOf_102 (nx := 103) rfl (hM.1 9 _ rfl) (by decide) hin6 ?_
        refine g_imul hx dX4_toneOf_103 (nx := 104) rfl ?_
        refine g_iloadG hx dX4_toneOf_104 (nx := 106) rfl rfl ?_
        refine g_imul hx dX4_toneOf_106 (nx := 107) rfl ?_
        refine g_iadd hx dX4_toneOf_107 (nx := 108) rfl ?_
        refine g_iret hx dX4_toneOf_108 rfl rfl (Nat.le_of_ble_eq_true rfl) (Nat.le_of_ble_eq_true rfl) ?_
        rw [hkc]
        first
          | (rw [tn1_a c63] at hk2; exact hk2)
          | (rw [tn1_b ha c63 (by first | exact c68 | exact Int32.not_le.mp c68 | exact Int32.not_lt.mpr c68)] at hk2; exact hk2)
          | (rw [tn1_c ha c63 (by first | exact c68 | exact Int32.not_le.mp c68 | exact Int32.not_lt.mpr c68) (by first | exact c47 | exact Int32.not_le.mp c47 | exact Int32.not_lt.mpr c47 | exact c75 | exact Int32.not_le.mp c75 | exact Int32.not_lt.mpr c75)] at hk2; exact hk2)
          | (rw [tn1_d ha c63 (by first | exact c68 | exact Int32.not_le.mp c68 | exact Int32.not_lt.mpr c68) (by first | exact c47 | exact Int32.not_le.mp c47 | exact Int32.not_lt.mpr c47 | exact c75 | exact Int32.not_le.mp c75 | exact Int32.not_lt.mpr c75)] at hk2; exact hk2)
      · refine g_iloadG hx dX4_toneOf_71 (nx := 73) rfl rfl ?_
        refine g_iloadG hx dX4_toneOf_73 (nx := 75) rfl rfl ?_
        refine g_if_ge hx dX4_toneOf_75 (tg := 86) (by decide) (nx := 78) rfl (fun c75 => ?_) (fun c75 => ?_)
        · refine g_iloadG hx dX4_toneOf_86 (nx := 88) rfl rfl ?_
          refine g_iconst hx dX4_toneOf_88 (nx := 89) rfl (v := 2) (by decide) ?_
          refine g_idiv hx dX4_toneOf_89 (nx := 90) rfl (by decide) ?_
          refine g_iadd hx dX4_toneOf_90 (nx := 91) rfl ?_
          refine g_istore_5 hx dX4_toneOf_91 (nx := 93) rfl (by decide) rfl ?_
          refine g_iloadG hx dX4_toneOf_93 (nx := 95) rfl rfl ?_
          refine g_bipush hx dX4_toneOf_95 (nx := 97) rfl (v := 10) (by decide) ?_
          refine g_aloadG_n hx dX4_toneOf_97 rfl (nx := 98) rfl rfl ?_
          refine g_getfo_R hx dX4_toneOf_98 (nx := 101) rfl fa_X4_31 rfl (r9 := 29) (hM.2 9 rfl) (hM.1 0 _ rfl) (by decide) ?_
          refine g_iloadG_n hx dX4_toneOf_101 rfl (nx := 102) rfl rfl ?_
          refine g_iaload hx dX4_toneOf_102 (nx := 103) rfl (hM.1 9 _ rfl) (by decide) hin6 ?_
          refine g_imul hx dX4_toneOf_103 (nx := 104) rfl ?_
          refine g_iloadG hx dX4_toneOf_104 (nx := 106) rfl rfl ?_
          refine g_imul hx dX4_toneOf_106 (nx := 107) rfl ?_
          refine g_iadd hx dX4_toneOf_107 (nx := 108) rfl ?_
          refine g_iret hx dX4_toneOf_108 rfl rfl (Nat.le_of_ble_eq_true rfl) (Nat.le_of_ble_eq_true rfl) ?_
          rw [hkc]
          first
            | (rw [tn1_a c63] at hk2; exact hk2)
            | (rw [tn1_b ha c63 (by first | exact c68 | exact Int32.not_le.mp c68 | exact Int32.not_lt.mpr c68)] at hk2; exact hk2)
            | (rw [tn1_c ha c63 (by first | exact c68 | exact Int32.not_le.mp c68 | exact Int32.not_lt.mpr c68) (by first | exact c47 | exact Int32.not_le.mp c47 | exact Int32.not_lt.mpr c47 | exact c75 | exact Int32.not_le.mp c75 | exact Int32.not_lt.mpr c75)] at hk2; exact hk2)
            | (rw [tn1_d ha c63 (by first | exact c68 | exact Int32.not_le.mp c68 | exact Int32.not_lt.mpr c68) (by first | exact c47 | exact Int32.not_le.mp c47 | exact Int32.not_lt.mpr c47 | exact c75 | exact Int32.not_le.mp c75 | exact Int32.not_lt.mpr c75)] at hk2; exact hk2)
        · refine g_iloadG hx dX4_toneOf_78 (nx := 80) rfl rfl ?_
          refine g_iconst hx dX4_toneOf_80 (nx := 81) rfl (v := 2) (by decide) ?_
          refine g_idiv hx dX4_toneOf_81 (nx := 82) rfl (by decide) ?_
          refine g_ineg hx dX4_toneOf_82 (nx := 83) rfl ?_
          refine g_goto hx dX4_toneOf_83 (tg := 90) (by decide) ?_
          refine g_iadd hx dX4_toneOf_90 (nx := 91) rfl ?_
          refine g_istore_5 hx dX4_toneOf_91 (nx := 93) rfl (by decide) rfl ?_
          refine g_iloadG hx dX4_toneOf_93 (nx := 95) rfl rfl ?_
          refine g_bipush hx dX4_toneOf_95 (nx := 97) rfl (v := 10) (by decide) ?_
          refine g_aloadG_n hx dX4_toneOf_97 rfl (nx := 98) rfl rfl ?_
          refine g_getfo_R hx dX4_toneOf_98 (nx := 101) rfl fa_X4_31 rfl (r9 := 29) (hM.2 9 rfl) (hM.1 0 _ rfl) (by decide) ?_
          refine g_iloadG_n hx dX4_toneOf_101 rfl (nx := 102) rfl rfl ?_
          refine g_iaload hx dX4_toneOf_102 (nx := 103) rfl (hM.1 9 _ rfl) (by decide) hin6 ?_
          refine g_imul hx dX4_toneOf_103 (nx := 104) rfl ?_
          refine g_iloadG hx dX4_toneOf_104 (nx := 106) rfl rfl ?_
          refine g_imul hx dX4_toneOf_106 (nx := 107) rfl ?_
          refine g_iadd hx dX4_toneOf_107 (nx := 108) rfl ?_
          refine g_iret hx dX4_toneOf_108 rfl rfl (Nat.le_of_ble_eq_true rfl) (Nat.le_of_ble_eq_true rfl) ?_
          rw [hkc]
          first
            | (rw [tn1_a c63] at hk2; exact hk2)
            | (rw [tn1_b ha c63 (by first | exact c68 | exact Int32.not_le.mp c68 | exact Int32.not_lt.mpr c68)] at hk2; exact hk2)
            | (rw [tn1_c ha c63 (by first | exact c68 | exact Int32.not_le.mp c68 | exact Int32.not_lt.mpr c68) (by first | exact c47 | exact Int32.not_le.mp c47 | exact Int32.not_lt.mpr c47 | exact c75 | exact Int32.not_le.mp c75 | exact Int32.not_lt.mpr c75)] at hk2; exact hk2)
            | (rw [tn1_d ha c63 (by first | exact c68 | exact Int32.not_le.mp c68 | exact Int32.not_lt.mpr c68) (by first | exact c47 | exact Int32.not_le.mp c47 | exact Int32.not_lt.mpr c47 | exact c75 | exact Int32.not_le.mp c75 | exact Int32.not_lt.mpr c75)] at hk2; exact hk2)
  · refine g_iloadG hx dX4_toneOf_50 (nx := 52) rfl rfl ?_
    refine g_ineg hx dX4_toneOf_52 (nx := 53) rfl ?_
    refine g_goto hx dX4_toneOf_53 (tg := 58) (by decide) ?_
    refine g_isub hx dX4_toneOf_58 (nx := 59) rfl ?_
    first
      | rw [show (500 : Int32) - -a = tnL a from (tnL_n (by first | exact c47 | exact Int32.not_le.mp c47 | exact Int32.not_lt.mpr c47 | exact c75 | exact Int32.not_le.mp c75 | exact Int32.not_lt.mpr c75)).symm]
      | rw [show (500 : Int32) - a = tnL a from (tnL_p (by first | exact c47 | exact Int32.not_le.mp c47 | exact Int32.not_lt.mpr c47 | exact c75 | exact Int32.not_le.mp c75 | exact Int32.not_lt.mpr c75)).symm]
    refine g_istore_7 hx dX4_toneOf_59 (nx := 61) rfl (by decide) rfl ?_
    refine g_iloadG_n hx dX4_toneOf_61 rfl (nx := 62) rfl rfl ?_
    refine g_iconst hx dX4_toneOf_62 (nx := 63) rfl (v := 1) (by decide) ?_
    refine g_icmp_ne hx dX4_toneOf_63 (tg := 93) (by decide) (nx := 66) rfl (fun c63 => ?_) (fun c63 => ?_)
    · refine g_iloadG hx dX4_toneOf_93 (nx := 95) rfl rfl ?_
      refine g_bipush hx dX4_toneOf_95 (nx := 97) rfl (v := 10) (by decide) ?_
      refine g_aloadG_n hx dX4_toneOf_97 rfl (nx := 98) rfl rfl ?_
      refine g_getfo_R hx dX4_toneOf_98 (nx := 101) rfl fa_X4_31 rfl (r9 := 29) (hM.2 9 rfl) (hM.1 0 _ rfl) (by decide) ?_
      refine g_iloadG_n hx dX4_toneOf_101 rfl (nx := 102) rfl rfl ?_
      refine g_iaload hx dX4_toneOf_102 (nx := 103) rfl (hM.1 9 _ rfl) (by decide) hin6 ?_
      refine g_imul hx dX4_toneOf_103 (nx := 104) rfl ?_
      refine g_iloadG hx dX4_toneOf_104 (nx := 106) rfl rfl ?_
      refine g_imul hx dX4_toneOf_106 (nx := 107) rfl ?_
      refine g_iadd hx dX4_toneOf_107 (nx := 108) rfl ?_
      refine g_iret hx dX4_toneOf_108 rfl rfl (Nat.le_of_ble_eq_true rfl) (Nat.le_of_ble_eq_true rfl) ?_
      rw [hkc]
      first
        | (rw [tn1_a c63] at hk2; exact hk2)
        | (rw [tn1_b ha c63 (by first | exact c68 | exact Int32.not_le.mp c68 | exact Int32.not_lt.mpr c68)] at hk2; exact hk2)
        | (rw [tn1_c ha c63 (by first | exact c68 | exact Int32.not_le.mp c68 | exact Int32.not_lt.mpr c68) (by first | exact c47 | exact Int32.not_le.mp c47 | exact Int32.not_lt.mpr c47 | exact c75 | exact Int32.not_le.mp c75 | exact Int32.not_lt.mpr c75)] at hk2; exact hk2)
        | (rw [tn1_d ha c63 (by first | exact c68 | exact Int32.not_le.mp c68 | exact Int32.not_lt.mpr c68) (by first | exact c47 | exact Int32.not_le.mp c47 | exact Int32.not_lt.mpr c47 | exact c75 | exact Int32.not_le.mp c75 | exact Int32.not_lt.mpr c75)] at hk2; exact hk2)
    · refine g_iloadG hx dX4_toneOf_66 (nx := 68) rfl rfl ?_
      refine g_if_le hx dX4_toneOf_68 (tg := 93) (by decide) (nx := 71) rfl (fun c68 => ?_) (fun c68 => ?_)
      · refine g_iloadG hx dX4_toneOf_93 (nx := 95) rfl rfl ?_
        refine g_bipush hx dX4_toneOf_95 (nx := 97) rfl (v := 10) (by decide) ?_
        refine g_aloadG_n hx dX4_toneOf_97 rfl (nx := 98) rfl rfl ?_
        refine g_getfo_R hx dX4_toneOf_98 (nx := 101) rfl fa_X4_31 rfl (r9 := 29) (hM.2 9 rfl) (hM.1 0 _ rfl) (by decide) ?_
        refine g_iloadG_n hx dX4_toneOf_101 rfl (nx := 102) rfl rfl ?_
        refine g_iaload hx dX4_toneOf_102 (nx := 103) rfl (hM.1 9 _ rfl) (by decide) hin6 ?_
        refine g_imul hx dX4_toneOf_103 (nx := 104) rfl ?_
        refine g_iloadG hx dX4_toneOf_104 (nx := 106) rfl rfl ?_
        refine g_imul hx dX4_toneOf_106 (nx := 107) rfl ?_
        refine g_iadd hx dX4_toneOf_107 (nx := 108) rfl ?_
        refine g_iret hx dX4_toneOf_108 rfl rfl (Nat.le_of_ble_eq_true rfl) (Nat.le_of_ble_eq_true rfl) ?_
        rw [hkc]
        first
          | (rw [tn1_a c63] at hk2; exact hk2)
          | (rw [tn1_b ha c63 (by first | exact c68 | exact Int32.not_le.mp c68 | exact Int32.not_lt.mpr c68)] at hk2; exact hk2)
          | (rw [tn1_c ha c63 (by first | exact c68 | exact Int32.not_le.mp c68 | exact Int32.not_lt.mpr c68) (by first | exact c47 | exact Int32.not_le.mp c47 | exact Int32.not_lt.mpr c47 | exact c75 | exact Int32.not_le.mp c75 | exact Int32.not_lt.mpr c75)] at hk2; exact hk2)
          | (rw [tn1_d ha c63 (by first | exact c68 | exact Int32.not_le.mp c68 | exact Int32.not_lt.mpr c68) (by first | exact c47 | exact Int32.not_le.mp c47 | exact Int32.not_lt.mpr c47 | exact c75 | exact Int32.not_le.mp c75 | exact Int32.not_lt.mpr c75)] at hk2; exact hk2)
      · refine g_iloadG hx dX4_toneOf_71 (nx := 73) rfl rfl ?_
        refine g_iloadG hx dX4_toneOf_73 (nx := 75) rfl rfl ?_
        refine g_if_ge hx dX4_toneOf_75 (tg := 86) (by decide) (nx := 78) rfl (fun c75 => ?_) (fun c75 => ?_)
        · refine g_iloadG hx dX4_toneOf_86 (nx := 88) rfl rfl ?_
          refine g_iconst hx dX4_toneOf_88 (nx := 89) rfl (v := 2) (by decide) ?_
          refine g_idiv hx dX4_toneOf_89 (nx := 90) rfl (by decide) ?_
          refine g_iadd hx dX4_toneOf_90 (nx := 91) rfl ?_
          refine g_istore_5 hx dX4_toneOf_91 (nx := 93) rfl (by decide) rfl ?_
          refine g_iloadG hx dX4_toneOf_93 (nx := 95) rfl rfl ?_
          refine g_bipush hx dX4_toneOf_95 (nx := 97) rfl (v := 10) (by decide) ?_
          refine g_aloadG_n hx dX4_toneOf_97 rfl (nx := 98) rfl rfl ?_
          refine g_getfo_R hx dX4_toneOf_98 (nx := 101) rfl fa_X4_31 rfl (r9 := 29) (hM.2 9 rfl) (hM.1 0 _ rfl) (by decide) ?_
          refine g_iloadG_n hx dX4_toneOf_101 rfl (nx := 102) rfl rfl ?_
          refine g_iaload hx dX4_toneOf_102 (nx := 103) rfl (hM.1 9 _ rfl) (by decide) hin6 ?_
          refine g_imul hx dX4_toneOf_103 (nx := 104) rfl ?_
          refine g_iloadG hx dX4_toneOf_104 (nx := 106) rfl rfl ?_
          refine g_imul hx dX4_toneOf_106 (nx := 107) rfl ?_
          refine g_iadd hx dX4_toneOf_107 (nx := 108) rfl ?_
          refine g_iret hx dX4_toneOf_108 rfl rfl (Nat.le_of_ble_eq_true rfl) (Nat.le_of_ble_eq_true rfl) ?_
          rw [hkc]
          first
            | (rw [tn1_a c63] at hk2; exact hk2)
            | (rw [tn1_b ha c63 (by first | exact c68 | exact Int32.not_le.mp c68 | exact Int32.not_lt.mpr c68)] at hk2; exact hk2)
            | (rw [tn1_c ha c63 (by first | exact c68 | exact Int32.not_le.mp c68 | exact Int32.not_lt.mpr c68) (by first | exact c47 | exact Int32.not_le.mp c47 | exact Int32.not_lt.mpr c47 | exact c75 | exact Int32.not_le.mp c75 | exact Int32.not_lt.mpr c75)] at hk2; exact hk2)
            | (rw [tn1_d ha c63 (by first | exact c68 | exact Int32.not_le.mp c68 | exact Int32.not_lt.mpr c68) (by first | exact c47 | exact Int32.not_le.mp c47 | exact Int32.not_lt.mpr c47 | exact c75 | exact Int32.not_le.mp c75 | exact Int32.not_lt.mpr c75)] at hk2; exact hk2)
        · refine g_iloadG hx dX4_toneOf_78 (nx := 80) rfl rfl ?_
          refine g_iconst hx dX4_toneOf_80 (nx := 81) rfl (v := 2) (by decide) ?_
          refine g_idiv hx dX4_toneOf_81 (nx := 82) rfl (by decide) ?_
          refine g_ineg hx dX4_toneOf_82 (nx := 83) rfl ?_
          refine g_goto hx dX4_toneOf_83 (tg := 90) (by decide) ?_
          refine g_iadd hx dX4_toneOf_90 (nx := 91) rfl ?_
          refine g_istore_5 hx dX4_toneOf_91 (nx := 93) rfl (by decide) rfl ?_
          refine g_iloadG hx dX4_toneOf_93 (nx := 95) rfl rfl ?_
          refine g_bipush hx dX4_toneOf_95 (nx := 97) rfl (v := 10) (by decide) ?_
          refine g_aloadG_n hx dX4_toneOf_97 rfl (nx := 98) rfl rfl ?_
          refine g_getfo_R hx dX4_toneOf_98 (nx := 101) rfl fa_X4_31 rfl (r9 := 29) (hM.2 9 rfl) (hM.1 0 _ rfl) (by decide) ?_
          refine g_iloadG_n hx dX4_toneOf_101 rfl (nx := 102) rfl rfl ?_
          refine g_iaload hx dX4_toneOf_102 (nx := 103) rfl (hM.1 9 _ rfl) (by decide) hin6 ?_
          refine g_imul hx dX4_toneOf_103 (nx := 104) rfl ?_
          refine g_iloadG hx dX4_toneOf_104 (nx := 106) rfl rfl ?_
          refine g_imul hx dX4_toneOf_106 (nx := 107) rfl ?_
          refine g_iadd hx dX4_toneOf_107 (nx := 108) rfl ?_
          refine g_iret hx dX4_toneOf_108 rfl rfl (Nat.le_of_ble_eq_true rfl) (Nat.le_of_ble_eq_true rfl) ?_
          rw [hkc]
          first
            | (rw [tn1_a c63] at hk2; exact hk2)
            | (rw [tn1_b ha c63 (by first | exact c68 | exact Int32.not_le.mp c68 | exact Int32.not_lt.mpr c68)] at hk2; exact hk2)
            | (rw [tn1_c ha c63 (by first | exact c68 | exact Int32.not_le.mp c68 | exact Int32.not_lt.mpr c68) (by first | exact c47 | exact Int32.not_le.mp c47 | exact Int32.not_lt.mpr c47 | exact c75 | exact Int32.not_le.mp c75 | exact Int32.not_lt.mpr c75)] at hk2; exact hk2)
            | (rw [tn1_d ha c63 (by first | exact c68 | exact Int32.not_le.mp c68 | exact Int32.not_lt.mpr c68) (by first | exact c47 | exact Int32.not_le.mp c47 | exact Int32.not_lt.mpr c47 | exact c75 | exact Int32.not_le.mp c75 | exact Int32.not_lt.mpr c75)] at hk2; exact hk2)

abbrev rmX4_ofStar : Room := { frames := 2, cells := 0, slots := 0, locals := 43 }
set_option maxHeartbeats 4000000 in
set_option maxRecDepth 100000 in
theorem s_X4_ofStar {l : Launch} {E : aE} {S : aS} {I : aI} {L : aL} {Rf : aR} {Kr : aK} {Kx : aX} (hst : l.stackTraces = false) {n : Nat} {x y : Int32} (hM : lyM S Rf) (h4 : I 20 4 = nI n) (hn6 : n ≤ 6) (hf1 : ¬ inN x n → Kr (some (.int 0)) S (au2 I 20 31 1) L Rf) (hf2 : inN x n → ¬ inN y 6 → Kr (some (.int 0)) S (au2 I 20 31 2) L Rf) (hk : ∀ k j : Nat, k < n → j < 6 → x = nI k → y = nI j → Kr (some (.int (au2 I 20 31 0 (25 + j) k))) S (au2 I 20 31 0) L Rf) : aMet l E yX4_ofStar cX4_ofStar 3 (some .int) rmX4_ofStar [.ref 20, .int x, .int y] (S) (I) (L) (Rf) Kr Kx := by
  refine aMet.of (lv0 := [.ref 20, .int x, .int y]) (z := 0) (by decide +kernel) hst rfl (Nat.le_of_ble_eq_true rfl) ?_
  intro p e s m args below meth c io0 hx hin hno
  have hx : aCx p l s m args meth c RX4 cX4_ofStar 3 (some .int) E := hx
  refine g_aloadG_n hx dX4_ofStar_0 rfl (nx := 1) rfl rfl ?_
  refine g_aloadG_n hx dX4_ofStar_1 rfl (nx := 2) rfl rfl ?_
  refine g_iloadG_n hx dX4_ofStar_2 rfl (nx := 3) rfl rfl ?_
  refine g_callV_M hx [_] (k' := 0) (n' := 0) dX4_ofStar_3 (nx := 6) rfl lk_X4_119 (hM.1 0 _ rfl) (by decide) rfl rfl (Nat.le_of_ble_eq_true rfl) (Nat.le_of_ble_eq_true rfl) (Nat.le_of_ble_eq_true rfl) (Nat.le_of_ble_eq_true rfl) (Nat.le_of_ble_eq_true rfl) (Nat.le_of_ble_eq_true rfl) (Nat.le_of_ble_eq_true rfl) (s_X4_isStar (n := n) hst hM h4 (by omega) (fun k hk9 ek => ?_) (fun qs => ?_))
  · subst ek
    have hkc : (nI k).toNatClampNeg = k := nI_clamp (by omega)
    have hin6 : vp_in (nI k) 6 := vp_in_nI (by omega) (by decide)
    refine g_if_ne hx dX4_ofStar_6 (tg := 13) (by decide) (nx := 9) rfl (fun c6 => ?_) (fun c6 => ?_)
    · refine g_iloadG_n hx dX4_ofStar_13 rfl (nx := 14) rfl rfl ?_
      refine g_iconst hx dX4_ofStar_14 (nx := 15) rfl (v := 0) (by decide) ?_
      refine g_iconst hx dX4_ofStar_15 (nx := 16) rfl (v := 5) (by decide) ?_
      refine g_callS_M hx [_, _, _] (k' := 0) (n' := 0) dX4_ofStar_16 (nx := 19) rfl lk_X4_104 rfl (Nat.le_of_ble_eq_true rfl) (Nat.le_of_ble_eq_true rfl) (Nat.le_of_ble_eq_true rfl) (Nat.le_of_ble_eq_true rfl) (Nat.le_of_ble_eq_true rfl) (Nat.le_of_ble_eq_true rfl) (Nat.le_of_ble_eq_true rfl) (s_X4_isInN hst 0 5 (by decide) (by decide) (fun q => ?_) (fun q => ?_))
      · obtain ⟨w9, hw8, rfl⟩ := rgN_in.mp q
        refine g_if_eq hx dX4_ofStar_19 (tg := 26) (by decide) (nx := 22) rfl (fun c19 => ?_) (fun c19 => ?_)
        · exact absurd c19 (by decide)
        · refine g_iconst hx dX4_ofStar_22 (nx := 23) rfl (v := 0) (by decide) ?_
          refine g_goto hx dX4_ofStar_23 (tg := 27) (by decide) ?_
          refine g_callV_M hx [_] (k' := 0) (n' := 0) dX4_ofStar_27 (nx := 30) rfl lk_X4_114 (hM.1 0 _ rfl) (by decide) rfl rfl (Nat.le_of_ble_eq_true rfl) (Nat.le_of_ble_eq_true rfl) (Nat.le_of_ble_eq_true rfl) (Nat.le_of_ble_eq_true rfl) (Nat.le_of_ble_eq_true rfl) (Nat.le_of_ble_eq_true rfl) (Nat.le_of_ble_eq_true rfl) (s_X4_can hst hM (fun _ => ?_) (fun z => absurd rfl z))
          refine g_if_ne hx dX4_ofStar_30 (tg := 35) (by decide) (nx := 33) rfl (fun c30 => ?_) (fun c30 => ?_)
          · refine g_iloadG_n hx dX4_ofStar_35 rfl (nx := 36) rfl rfl ?_
            match w9, hw8 with
            | 0, _ =>
              refine g_tabIn hx dX4_ofStar_36 (off := 36) (tg := 72) (by decide) (by decide) (by decide) (by decide) ?_
              refine g_aloadG_n hx dX4_ofStar_72 rfl (nx := 73) rfl rfl ?_
              refine g_getfo_R hx dX4_ofStar_73 (nx := 76) rfl fa_X4_19 rfl (r9 := 25) (hM.2 5 rfl) (hM.1 0 _ rfl) (by decide) ?_
              refine g_iloadG_n hx dX4_ofStar_76 rfl (nx := 77) rfl rfl ?_
              refine g_iaload hx dX4_ofStar_77 (nx := 78) rfl (hM.1 5 _ rfl) (by decide) hin6 ?_
              refine g_iret hx dX4_ofStar_78 rfl rfl (Nat.le_of_ble_eq_true rfl) (Nat.le_of_ble_eq_true rfl) ?_
              rw [hkc]
              exact hk k 0 hk9 (by decide) rfl rfl
            | 1, _ =>
              refine g_tabIn hx dX4_ofStar_36 (off := 43) (tg := 79) (by decide) (by decide) (by decide) (by decide) ?_
              refine g_aloadG_n hx dX4_ofStar_79 rfl (nx := 80) rfl rfl ?_
              refine g_getfo_R hx dX4_ofStar_80 (nx := 83) rfl fa_X4_22 rfl (r9 := 26) (hM.2 6 rfl) (hM.1 0 _ rfl) (by decide) ?_
              refine g_iloadG_n hx dX4_ofStar_83 rfl (nx := 84) rfl rfl ?_
              refine g_iaload hx dX4_ofStar_84 (nx := 85) rfl (hM.1 6 _ rfl) (by decide) hin6 ?_
              refine g_iret hx dX4_ofStar_85 rfl rfl (Nat.le_of_ble_eq_true rfl) (Nat.le_of_ble_eq_true rfl) ?_
              rw [hkc]
              exact hk k 1 hk9 (by decide) rfl rfl
            | 2, _ =>
              refine g_tabIn hx dX4_ofStar_36 (off := 50) (tg := 86) (by decide) (by decide) (by decide) (by decide) ?_
              refine g_aloadG_n hx dX4_ofStar_86 rfl (nx := 87) rfl rfl ?_
              refine g_getfo_R hx dX4_ofStar_87 (nx := 90) rfl fa_X4_25 rfl (r9 := 27) (hM.2 7 rfl) (hM.1 0 _ rfl) (by decide) ?_
              refine g_iloadG_n hx dX4_ofStar_90 rfl (nx := 91) rfl rfl ?_
              refine g_iaload hx dX4_ofStar_91 (nx := 92) rfl (hM.1 7 _ rfl) (by decide) hin6 ?_
              refine g_iret hx dX4_ofStar_92 rfl rfl (Nat.le_of_ble_eq_true rfl) (Nat.le_of_ble_eq_true rfl) ?_
              rw [hkc]
              exact hk k 2 hk9 (by decide) rfl rfl
            | 3, _ =>
              refine g_tabIn hx dX4_ofStar_36 (off := 57) (tg := 93) (by decide) (by decide) (by decide) (by decide) ?_
              refine g_aloadG_n hx dX4_ofStar_93 rfl (nx := 94) rfl rfl ?_
              refine g_getfo_R hx dX4_ofStar_94 (nx := 97) rfl fa_X4_28 rfl (r9 := 28) (hM.2 8 rfl) (hM.1 0 _ rfl) (by decide) ?_
              refine g_iloadG_n hx dX4_ofStar_97 rfl (nx := 98) rfl rfl ?_
              refine g_iaload hx dX4_ofStar_98 (nx := 99) rfl (hM.1 8 _ rfl) (by decide) hin6 ?_
              refine g_iret hx dX4_ofStar_99 rfl rfl (Nat.le_of_ble_eq_true rfl) (Nat.le_of_ble_eq_true rfl) ?_
              rw [hkc]
              exact hk k 3 hk9 (by decide) rfl rfl
            | 4, _ =>
              refine g_tabIn hx dX4_ofStar_36 (off := 64) (tg := 100) (by decide) (by decide) (by decide) (by decide) ?_
              refine g_aloadG_n hx dX4_ofStar_100 rfl (nx := 101) rfl rfl ?_
              refine g_getfo_R hx dX4_ofStar_101 (nx := 104) rfl fa_X4_31 rfl (r9 := 29) (hM.2 9 rfl) (hM.1 0 _ rfl) (by decide) ?_
              refine g_iloadG_n hx dX4_ofStar_104 rfl (nx := 105) rfl rfl ?_
              refine g_iaload hx dX4_ofStar_105 (nx := 106) rfl (hM.1 9 _ rfl) (by decide) hin6 ?_
              refine g_iret hx dX4_ofStar_106 rfl rfl (Nat.le_of_ble_eq_true rfl) (Nat.le_of_ble_eq_true rfl) ?_
              rw [hkc]
              exact hk k 4 hk9 (by decide) rfl rfl
            | 5, _ =>
              refine g_tabOut hx dX4_ofStar_36 (tg := 107) (by decide) (by decide) ?_
              refine g_aloadG_n hx dX4_ofStar_107 rfl (nx := 108) rfl rfl ?_
              refine g_getfo_R hx dX4_ofStar_108 (nx := 111) rfl fa_X4_34 rfl (r9 := 30) (hM.2 10 rfl) (hM.1 0 _ rfl) (by decide) ?_
              refine g_iloadG_n hx dX4_ofStar_111 rfl (nx := 112) rfl rfl ?_
              refine g_iaload hx dX4_ofStar_112 (nx := 113) rfl (hM.1 10 _ rfl) (by decide) hin6 ?_
              refine g_iret hx dX4_ofStar_113 rfl rfl (Nat.le_of_ble_eq_true rfl) (Nat.le_of_ble_eq_true rfl) ?_
              rw [hkc]
              exact hk k 5 hk9 (by decide) rfl rfl
            | w9 + 6, hw8 => exact absurd hw8 (by omega)
          · exact absurd c30 (by decide)
      · have hw9 : ¬ inN y 6 := fun z => q (rgN_in.mpr z)
        refine g_if_eq hx dX4_ofStar_19 (tg := 26) (by decide) (nx := 22) rfl (fun c19 => ?_) (fun c19 => ?_)
        · refine g_iconst hx dX4_ofStar_26 (nx := 27) rfl (v := 2) (by decide) ?_
          refine g_callV_M hx [_] (k' := 0) (n' := 0) dX4_ofStar_27 (nx := 30) rfl lk_X4_114 (hM.1 0 _ rfl) (by decide) rfl rfl (Nat.le_of_ble_eq_true rfl) (Nat.le_of_ble_eq_true rfl) (Nat.le_of_ble_eq_true rfl) (Nat.le_of_ble_eq_true rfl) (Nat.le_of_ble_eq_true rfl) (Nat.le_of_ble_eq_true rfl) (Nat.le_of_ble_eq_true rfl) (s_X4_can hst hM (fun z => absurd z (by decide)) (fun _ => ?_))
          refine g_if_ne hx dX4_ofStar_30 (tg := 35) (by decide) (nx := 33) rfl (fun c30 => ?_) (fun c30 => ?_)
          · exact absurd c30 (by decide)
          · refine g_iconst hx dX4_ofStar_33 (nx := 34) rfl (v := 0) (by decide) ?_
            refine g_iret hx dX4_ofStar_34 rfl rfl (Nat.le_of_ble_eq_true rfl) (Nat.le_of_ble_eq_true rfl) ?_
            first | exact hf1 qs | exact hf2 ⟨k, hk9, rfl⟩ hw9
        · exact absurd c19 (by decide)
    · exact absurd c6 (by decide)
  · refine g_if_ne hx dX4_ofStar_6 (tg := 13) (by decide) (nx := 9) rfl (fun c6 => ?_) (fun c6 => ?_)
    · exact absurd c6 (by decide)
    · refine g_iconst hx dX4_ofStar_9 (nx := 10) rfl (v := 1) (by decide) ?_
      refine g_goto hx dX4_ofStar_10 (tg := 27) (by decide) ?_
      refine g_callV_M hx [_] (k' := 0) (n' := 0) dX4_ofStar_27 (nx := 30) rfl lk_X4_114 (hM.1 0 _ rfl) (by decide) rfl rfl (Nat.le_of_ble_eq_true rfl) (Nat.le_of_ble_eq_true rfl) (Nat.le_of_ble_eq_true rfl) (Nat.le_of_ble_eq_true rfl) (Nat.le_of_ble_eq_true rfl) (Nat.le_of_ble_eq_true rfl) (Nat.le_of_ble_eq_true rfl) (s_X4_can hst hM (fun z => absurd z (by decide)) (fun _ => ?_))
      refine g_if_ne hx dX4_ofStar_30 (tg := 35) (by decide) (nx := 33) rfl (fun c30 => ?_) (fun c30 => ?_)
      · exact absurd c30 (by decide)
      · refine g_iconst hx dX4_ofStar_33 (nx := 34) rfl (v := 0) (by decide) ?_
        refine g_iret hx dX4_ofStar_34 rfl rfl (Nat.le_of_ble_eq_true rfl) (Nat.le_of_ble_eq_true rfl) ?_
        first | exact hf1 qs | exact hf2 ⟨k, hk9, rfl⟩ hw9

abbrev rmX4_crossingAnew : Room := { frames := 2, cells := 0, slots := 0, locals := 43 }
set_option maxHeartbeats 4000000 in
set_option maxRecDepth 100000 in
theorem s_X4_crossingAnew {l : Launch} {E : aE} {S : aS} {I : aI} {L : aL} {Rf : aR} {Kr : aK} {Kx : aX} (hst : l.stackTraces = false) {n : Nat} {x : Int32} (hM : lyM S Rf) (h4 : I 20 4 = nI n) (hn6 : n ≤ 6) (hf1 : ¬ inN x n → Kr (some (.int 0)) S (au2 I 20 31 1) L Rf) (hk : ∀ k, k < n → x = nI k → Kr (some (.int (I 26 k))) S (au2 I 20 31 0) L Rf) : aMet l E yX4_crossingAnew cX4_crossingAnew 2 (some .int) rmX4_crossingAnew [.ref 20, .int x] (S) (I) (L) (Rf) Kr Kx := by
  refine aMet.of (lv0 := [.ref 20, .int x]) (z := 0) (by decide +kernel) hst rfl (Nat.le_of_ble_eq_true rfl) ?_
  intro p e s m args below meth c io0 hx hin hno
  have hx : aCx p l s m args meth c RX4 cX4_crossingAnew 2 (some .int) E := hx
  refine g_aloadG_n hx dX4_crossingAnew_0 rfl (nx := 1) rfl rfl ?_
  refine g_aloadG_n hx dX4_crossingAnew_1 rfl (nx := 2) rfl rfl ?_
  refine g_iloadG_n hx dX4_crossingAnew_2 rfl (nx := 3) rfl rfl ?_
  refine g_callV_M hx [_] (k' := 0) (n' := 0) dX4_crossingAnew_3 (nx := 6) rfl lk_X4_119 (hM.1 0 _ rfl) (by decide) rfl rfl (Nat.le_of_ble_eq_true rfl) (Nat.le_of_ble_eq_true rfl) (Nat.le_of_ble_eq_true rfl) (Nat.le_of_ble_eq_true rfl) (Nat.le_of_ble_eq_true rfl) (Nat.le_of_ble_eq_true rfl) (Nat.le_of_ble_eq_true rfl) (s_X4_isStar (n := n) hst hM h4 (by omega) (fun k hk9 ek => ?_) (fun qs => ?_))
  · subst ek
    have hkc : (nI k).toNatClampNeg = k := nI_clamp (by omega)
    have hin6 : vp_in (nI k) 6 := vp_in_nI (by omega) (by decide)
    refine g_if_eq hx dX4_crossingAnew_6 (tg := 13) (by decide) (nx := 9) rfl (fun c6 => ?_) (fun c6 => ?_)
    · exact absurd c6 (by decide)
    · refine g_iconst hx dX4_crossingAnew_9 (nx := 10) rfl (v := 0) (by decide) ?_
      refine g_goto hx dX4_crossingAnew_10 (tg := 14) (by decide) ?_
      refine g_callV_M hx [_] (k' := 0) (n' := 0) dX4_crossingAnew_14 (nx := 17) rfl lk_X4_114 (hM.1 0 _ rfl) (by decide) rfl rfl (Nat.le_of_ble_eq_true rfl) (Nat.le_of_ble_eq_true rfl) (Nat.le_of_ble_eq_true rfl) (Nat.le_of_ble_eq_true rfl) (Nat.le_of_ble_eq_true rfl) (Nat.le_of_ble_eq_true rfl) (Nat.le_of_ble_eq_true rfl) (s_X4_can hst hM (fun _ => ?_) (fun z => absurd rfl z))
      refine g_if_eq hx dX4_crossingAnew_17 (tg := 29) (by decide) (nx := 20) rfl (fun c17 => ?_) (fun c17 => ?_)
      · exact absurd c17 (by decide)
      · refine g_aloadG_n hx dX4_crossingAnew_20 rfl (nx := 21) rfl rfl ?_
        refine g_getfo_R hx dX4_crossingAnew_21 (nx := 24) rfl fa_X4_22 rfl (r9 := 26) (hM.2 6 rfl) (hM.1 0 _ rfl) (by decide) ?_
        refine g_iloadG_n hx dX4_crossingAnew_24 rfl (nx := 25) rfl rfl ?_
        refine g_iaload hx dX4_crossingAnew_25 (nx := 26) rfl (hM.1 6 _ rfl) (by decide) hin6 ?_
        refine g_goto hx dX4_crossingAnew_26 (tg := 30) (by decide) ?_
        refine g_iret hx dX4_crossingAnew_30 rfl rfl (Nat.le_of_ble_eq_true rfl) (Nat.le_of_ble_eq_true rfl) ?_
        first | exact hf1 qs | (rw [hkc, au2_n (by omega)]; exact hk k hk9 rfl)
  · refine g_if_eq hx dX4_crossingAnew_6 (tg := 13) (by decide) (nx := 9) rfl (fun c6 => ?_) (fun c6 => ?_)
    · refine g_iconst hx dX4_crossingAnew_13 (nx := 14) rfl (v := 1) (by decide) ?_
      refine g_callV_M hx [_] (k' := 0) (n' := 0) dX4_crossingAnew_14 (nx := 17) rfl lk_X4_114 (hM.1 0 _ rfl) (by decide) rfl rfl (Nat.le_of_ble_eq_true rfl) (Nat.le_of_ble_eq_true rfl) (Nat.le_of_ble_eq_true rfl) (Nat.le_of_ble_eq_true rfl) (Nat.le_of_ble_eq_true rfl) (Nat.le_of_ble_eq_true rfl) (Nat.le_of_ble_eq_true rfl) (s_X4_can hst hM (fun z => absurd z (by decide)) (fun _ => ?_))
      refine g_if_eq hx dX4_crossingAnew_17 (tg := 29) (by decide) (nx := 20) rfl (fun c17 => ?_) (fun c17 => ?_)
      · refine g_iconst hx dX4_crossingAnew_29 (nx := 30) rfl (v := 0) (by decide) ?_
        refine g_iret hx dX4_crossingAnew_30 rfl rfl (Nat.le_of_ble_eq_true rfl) (Nat.le_of_ble_eq_true rfl) ?_
        first | exact hf1 qs | (rw [hkc, au2_n (by omega)]; exact hk k hk9 rfl)
      · exact absurd c17 (by decide)
    · exact absurd c6 (by decide)

abbrev rmX4_tone : Room := { frames := 2, cells := 0, slots := 0, locals := 43 }
set_option maxHeartbeats 4000000 in
set_option maxRecDepth 100000 in
theorem s_X4_tone {l : Launch} {E : aE} {S : aS} {I : aI} {L : aL} {Rf : aR} {Kr : aK} {Kx : aX} (hst : l.stackTraces = false) {n : Nat} {x y w v : Int32} (hM : lyM S Rf) (h4 : I 20 4 = nI n) (hn6 : n ≤ 6) (hf1 : ¬ inN x n → Kr (some (.int 0)) S (au2 I 20 31 1) L Rf) (hf2 : inN x n → ¬ (rgN y 1 12 ∧ rgN w 0 3 ∧ iout v (-w) w = 0) → Kr (some (.int 0)) S (au2 I 20 31 2) L Rf) (hk : ∀ k, k < n → x = nI k → (rgN y 1 12 ∧ rgN w 0 3 ∧ iout v (-w) w = 0) → Kr (some (.int (tnI I k y w v))) S (au2 I 20 31 0) L Rf) : aMet l E yX4_tone cX4_tone 6 (some .int) rmX4_tone [.ref 20, .int x, .int y, .int w, .int v] (S) (I) (L) (Rf) Kr Kx := by
  refine aMet.of (lv0 := [.ref 20, .int x, .int y, .int w, .int v, aU]) (z := 1) (by decide +kernel) hst rfl (Nat.le_of_ble_eq_true rfl) ?_
  intro p e s m args below meth c io0 hx hin hno
  have hx : aCx p l s m args meth c RX4 cX4_tone 6 (some .int) E := hx
  refine g_iloadG_n hx dX4_tone_0 rfl (nx := 1) rfl rfl ?_
  refine g_iconst hx dX4_tone_1 (nx := 2) rfl (v := 1) (by decide) ?_
  refine g_bipush hx dX4_tone_2 (nx := 4) rfl (v := 12) (by decide) ?_
  refine g_callS_M hx [_, _, _] (k' := 0) (n' := 0) dX4_tone_4 (nx := 7) rfl lk_X4_104 rfl (Nat.le_of_ble_eq_true rfl) (Nat.le_of_ble_eq_true rfl) (Nat.le_of_ble_eq_true rfl) (Nat.le_of_ble_eq_true rfl) (Nat.le_of_ble_eq_true rfl) (Nat.le_of_ble_eq_true rfl) (Nat.le_of_ble_eq_true rfl) (s_X4_isInN hst 1 12 (by decide) (by decide) (fun q1 => ?_) (fun q1 => ?_))
  · refine g_if_eq hx dX4_tone_7 (tg := 34) (by decide) (nx := 10) rfl (fun c7 => ?_) (fun c7 => ?_)
    · exact absurd c7 (by decide)
    · refine g_iloadG_n hx dX4_tone_10 rfl (nx := 11) rfl rfl ?_
      refine g_iconst hx dX4_tone_11 (nx := 12) rfl (v := 0) (by decide) ?_
      refine g_iconst hx dX4_tone_12 (nx := 13) rfl (v := 3) (by decide) ?_
      refine g_callS_M hx [_, _, _] (k' := 0) (n' := 0) dX4_tone_13 (nx := 16) rfl lk_X4_104 rfl (Nat.le_of_ble_eq_true rfl) (Nat.le_of_ble_eq_true rfl) (Nat.le_of_ble_eq_true rfl) (Nat.le_of_ble_eq_true rfl) (Nat.le_of_ble_eq_true rfl) (Nat.le_of_ble_eq_true rfl) (Nat.le_of_ble_eq_true rfl) (s_X4_isInN hst 0 3 (by decide) (by decide) (fun q2 => ?_) (fun q2 => ?_))
      · refine g_if_eq hx dX4_tone_16 (tg := 34) (by decide) (nx := 19) rfl (fun c16 => ?_) (fun c16 => ?_)
        · exact absurd c16 (by decide)
        · refine g_iloadG hx dX4_tone_19 (nx := 21) rfl rfl ?_
          refine g_iloadG_n hx dX4_tone_21 rfl (nx := 22) rfl rfl ?_
          refine g_ineg hx dX4_tone_22 (nx := 23) rfl ?_
          refine g_iloadG_n hx dX4_tone_23 rfl (nx := 24) rfl rfl ?_
          refine g_callS_M hx [_, _, _] (k' := 0) (n' := 0) dX4_tone_24 (nx := 27) rfl lk_X4_104 rfl (Nat.le_of_ble_eq_true rfl) (Nat.le_of_ble_eq_true rfl) (Nat.le_of_ble_eq_true rfl) (Nat.le_of_ble_eq_true rfl) (Nat.le_of_ble_eq_true rfl) (Nat.le_of_ble_eq_true rfl) (Nat.le_of_ble_eq_true rfl) (s_X4_isIn hst (fun q3 => ?_) (fun q3 => ?_))
          · refine g_if_eq hx dX4_tone_27 (tg := 34) (by decide) (nx := 30) rfl (fun c27 => ?_) (fun c27 => ?_)
            · exact absurd c27 (by decide)
            · refine g_iconst hx dX4_tone_30 (nx := 31) rfl (v := 1) (by decide) ?_
              refine g_goto hx dX4_tone_31 (tg := 35) (by decide) ?_
              refine g_istore_5 hx dX4_tone_35 (nx := 37) rfl (by decide) rfl ?_
              refine g_aloadG_n hx dX4_tone_37 rfl (nx := 38) rfl rfl ?_
              refine g_aloadG_n hx dX4_tone_38 rfl (nx := 39) rfl rfl ?_
              refine g_iloadG_n hx dX4_tone_39 rfl (nx := 40) rfl rfl ?_
              refine g_callV_M hx [_] (k' := 0) (n' := 0) dX4_tone_40 (nx := 43) rfl lk_X4_119 (hM.1 0 _ rfl) (by decide) rfl rfl (Nat.le_of_ble_eq_true rfl) (Nat.le_of_ble_eq_true rfl) (Nat.le_of_ble_eq_true rfl) (Nat.le_of_ble_eq_true rfl) (Nat.le_of_ble_eq_true rfl) (Nat.le_of_ble_eq_true rfl) (Nat.le_of_ble_eq_true rfl) (s_X4_isStar (n := n) hst hM h4 (by omega) (fun k hk9 ek => ?_) (fun qs => ?_))
              · subst ek
                have hkc : (nI k).toNatClampNeg = k := nI_clamp (by omega)
                have hin6 : vp_in (nI k) 6 := vp_in_nI (by omega) (by decide)
                refine g_if_ne hx dX4_tone_43 (tg := 50) (by decide) (nx := 46) rfl (fun c43 => ?_) (fun c43 => ?_)
                · refine g_iloadG hx dX4_tone_50 (nx := 52) rfl rfl ?_
                  refine g_if_eq hx dX4_tone_52 (tg := 59) (by decide) (nx := 55) rfl (fun c52 => ?_) (fun c52 => ?_)
                  · exact absurd c52 (by decide)
                  · refine g_iconst hx dX4_tone_55 (nx := 56) rfl (v := 0) (by decide) ?_
                    refine g_goto hx dX4_tone_56 (tg := 60) (by decide) ?_
                    refine g_callV_M hx [_] (k' := 0) (n' := 0) dX4_tone_60 (nx := 63) rfl lk_X4_114 (hM.1 0 _ rfl) (by decide) rfl rfl (Nat.le_of_ble_eq_true rfl) (Nat.le_of_ble_eq_true rfl) (Nat.le_of_ble_eq_true rfl) (Nat.le_of_ble_eq_true rfl) (Nat.le_of_ble_eq_true rfl) (Nat.le_of_ble_eq_true rfl) (Nat.le_of_ble_eq_true rfl) (s_X4_can hst hM (fun _ => ?_) (fun z => absurd rfl z))
                    refine g_if_eq hx dX4_tone_63 (tg := 78) (by decide) (nx := 66) rfl (fun c63 => ?_) (fun c63 => ?_)
                    · exact absurd c63 (by decide)
                    · refine g_aloadG_n hx dX4_tone_66 rfl (nx := 67) rfl rfl ?_
                      refine g_iloadG_n hx dX4_tone_67 rfl (nx := 68) rfl rfl ?_
                      refine g_iloadG_n hx dX4_tone_68 rfl (nx := 69) rfl rfl ?_
                      refine g_iloadG_n hx dX4_tone_69 rfl (nx := 70) rfl rfl ?_
                      refine g_iloadG hx dX4_tone_70 (nx := 72) rfl rfl ?_
                      refine g_callV_M hx [_, _, _, _] (k' := 0) (n' := 0) dX4_tone_72 (nx := 75) rfl lk_X4_122 (hM.1 0 _ rfl) (by decide) rfl rfl (Nat.le_of_ble_eq_true rfl) (Nat.le_of_ble_eq_true rfl) (Nat.le_of_ble_eq_true rfl) (Nat.le_of_ble_eq_true rfl) (Nat.le_of_ble_eq_true rfl) (Nat.le_of_ble_eq_true rfl) (Nat.le_of_ble_eq_true rfl) (s_X4_toneOf hst hM (by omega) ?_)
                      refine g_goto hx dX4_tone_75 (tg := 79) (by decide) ?_
                      refine g_iret hx dX4_tone_79 rfl rfl (Nat.le_of_ble_eq_true rfl) (Nat.le_of_ble_eq_true rfl) ?_
                      first
                        | exact hf1 qs
                        | exact hf2 ⟨k, hk9, rfl⟩ (fun z => q1 z.1)
                        | exact hf2 ⟨k, hk9, rfl⟩ (fun z => q2 z.2.1)
                        | exact hf2 ⟨k, hk9, rfl⟩ (fun z => q3 z.2.2)
                        | (have K := hk k hk9 rfl ⟨q1, q2, q3⟩
                           simp only [tnI]
                           rw [au2_n (by omega), au2_n (by omega), au2_n (by omega), au2_n (by omega)]
                           exact K)
                · exact absurd c43 (by decide)
              · refine g_if_ne hx dX4_tone_43 (tg := 50) (by decide) (nx := 46) rfl (fun c43 => ?_) (fun c43 => ?_)
                · exact absurd c43 (by decide)
                · refine g_iconst hx dX4_tone_46 (nx := 47) rfl (v := 1) (by decide) ?_
                  refine g_goto hx dX4_tone_47 (tg := 60) (by decide) ?_
                  refine g_callV_M hx [_] (k' := 0) (n' := 0) dX4_tone_60 (nx := 63) rfl lk_X4_114 (hM.1 0 _ rfl) (by decide) rfl rfl (Nat.le_of_ble_eq_true rfl) (Nat.le_of_ble_eq_true rfl) (Nat.le_of_ble_eq_true rfl) (Nat.le_of_ble_eq_true rfl) (Nat.le_of_ble_eq_true rfl) (Nat.le_of_ble_eq_true rfl) (Nat.le_of_ble_eq_true rfl) (s_X4_can hst hM (fun z => absurd z (by decide)) (fun _ => ?_))
                  refine g_if_eq hx dX4_tone_63 (tg := 78) (by decide) (nx := 66) rfl (fun c63 => ?_) (fun c63 => ?_)
                  · refine g_iconst hx dX4_tone_78 (nx := 79) rfl (v := 0) (by decide) ?_
                    refine g_iret hx dX4_tone_79 rfl rfl (Nat.le_of_ble_eq_true rfl) (Nat.le_of_ble_eq_true rfl) ?_
                    first
                      | exact hf1 qs
                      | exact hf2 ⟨k, hk9, rfl⟩ (fun z => q1 z.1)
                      | exact hf2 ⟨k, hk9, rfl⟩ (fun z => q2 z.2.1)
                      | exact hf2 ⟨k, hk9, rfl⟩ (fun z => q3 z.2.2)
                      | (have K := hk k hk9 rfl ⟨q1, q2, q3⟩
                         simp only [tnI]
                         rw [au2_n (by omega), au2_n (by omega), au2_n (by omega), au2_n (by omega)]
                         exact K)
                  · exact absurd c63 (by decide)
          · refine g_if_eq hx dX4_tone_27 (tg := 34) (by decide) (nx := 30) rfl (fun c27 => ?_) (fun c27 => ?_)
            · refine g_iconst hx dX4_tone_34 (nx := 35) rfl (v := 0) (by decide) ?_
              refine g_istore_5 hx dX4_tone_35 (nx := 37) rfl (by decide) rfl ?_
              refine g_aloadG_n hx dX4_tone_37 rfl (nx := 38) rfl rfl ?_
              refine g_aloadG_n hx dX4_tone_38 rfl (nx := 39) rfl rfl ?_
              refine g_iloadG_n hx dX4_tone_39 rfl (nx := 40) rfl rfl ?_
              refine g_callV_M hx [_] (k' := 0) (n' := 0) dX4_tone_40 (nx := 43) rfl lk_X4_119 (hM.1 0 _ rfl) (by decide) rfl rfl (Nat.le_of_ble_eq_true rfl) (Nat.le_of_ble_eq_true rfl) (Nat.le_of_ble_eq_true rfl) (Nat.le_of_ble_eq_true rfl) (Nat.le_of_ble_eq_true rfl) (Nat.le_of_ble_eq_true rfl) (Nat.le_of_ble_eq_true rfl) (s_X4_isStar (n := n) hst hM h4 (by omega) (fun k hk9 ek => ?_) (fun qs => ?_))
              · subst ek
                have hkc : (nI k).toNatClampNeg = k := nI_clamp (by omega)
                have hin6 : vp_in (nI k) 6 := vp_in_nI (by omega) (by decide)
                refine g_if_ne hx dX4_tone_43 (tg := 50) (by decide) (nx := 46) rfl (fun c43 => ?_) (fun c43 => ?_)
                · refine g_iloadG hx dX4_tone_50 (nx := 52) rfl rfl ?_
                  refine g_if_eq hx dX4_tone_52 (tg := 59) (by decide) (nx := 55) rfl (fun c52 => ?_) (fun c52 => ?_)
                  · refine g_iconst hx dX4_tone_59 (nx := 60) rfl (v := 2) (by decide) ?_
                    refine g_callV_M hx [_] (k' := 0) (n' := 0) dX4_tone_60 (nx := 63) rfl lk_X4_114 (hM.1 0 _ rfl) (by decide) rfl rfl (Nat.le_of_ble_eq_true rfl) (Nat.le_of_ble_eq_true rfl) (Nat.le_of_ble_eq_true rfl) (Nat.le_of_ble_eq_true rfl) (Nat.le_of_ble_eq_true rfl) (Nat.le_of_ble_eq_true rfl) (Nat.le_of_ble_eq_true rfl) (s_X4_can hst hM (fun z => absurd z (by decide)) (fun _ => ?_))
                    refine g_if_eq hx dX4_tone_63 (tg := 78) (by decide) (nx := 66) rfl (fun c63 => ?_) (fun c63 => ?_)
                    · refine g_iconst hx dX4_tone_78 (nx := 79) rfl (v := 0) (by decide) ?_
                      refine g_iret hx dX4_tone_79 rfl rfl (Nat.le_of_ble_eq_true rfl) (Nat.le_of_ble_eq_true rfl) ?_
                      first
                        | exact hf1 qs
                        | exact hf2 ⟨k, hk9, rfl⟩ (fun z => q1 z.1)
                        | exact hf2 ⟨k, hk9, rfl⟩ (fun z => q2 z.2.1)
                        | exact hf2 ⟨k, hk9, rfl⟩ (fun z => q3 z.2.2)
                        | (have K := hk k hk9 rfl ⟨q1, q2, q3⟩
                           simp only [tnI]
                           rw [au2_n (by omega), au2_n (by omega), au2_n (by omega), au2_n (by omega)]
                           exact K)
                    · exact absurd c63 (by decide)
                  · exact absurd c52 (by decide)
                · exact absurd c43 (by decide)
              · refine g_if_ne hx dX4_tone_43 (tg := 50) (by decide) (nx := 46) rfl (fun c43 => ?_) (fun c43 => ?_)
                · exact absurd c43 (by decide)
                · refine g_iconst hx dX4_tone_46 (nx := 47) rfl (v := 1) (by decide) ?_
                  refine g_goto hx dX4_tone_47 (tg := 60) (by decide) ?_
                  refine g_callV_M hx [_] (k' := 0) (n' := 0) dX4_tone_60 (nx := 63) rfl lk_X4_114 (hM.1 0 _ rfl) (by decide) rfl rfl (Nat.le_of_ble_eq_true rfl) (Nat.le_of_ble_eq_true rfl) (Nat.le_of_ble_eq_true rfl) (Nat.le_of_ble_eq_true rfl) (Nat.le_of_ble_eq_true rfl) (Nat.le_of_ble_eq_true rfl) (Nat.le_of_ble_eq_true rfl) (s_X4_can hst hM (fun z => absurd z (by decide)) (fun _ => ?_))
                  refine g_if_eq hx dX4_tone_63 (tg := 78) (by decide) (nx := 66) rfl (fun c63 => ?_) (fun c63 => ?_)
                  · refine g_iconst hx dX4_tone_78 (nx := 79) rfl (v := 0) (by decide) ?_
                    refine g_iret hx dX4_tone_79 rfl rfl (Nat.le_of_ble_eq_true rfl) (Nat.le_of_ble_eq_true rfl) ?_
                    first
                      | exact hf1 qs
                      | exact hf2 ⟨k, hk9, rfl⟩ (fun z => q1 z.1)
                      | exact hf2 ⟨k, hk9, rfl⟩ (fun z => q2 z.2.1)
                      | exact hf2 ⟨k, hk9, rfl⟩ (fun z => q3 z.2.2)
                      | (have K := hk k hk9 rfl ⟨q1, q2, q3⟩
                         simp only [tnI]
                         rw [au2_n (by omega), au2_n (by omega), au2_n (by omega), au2_n (by omega)]
                         exact K)
                  · exact absurd c63 (by decide)
            · exact absurd c27 (by decide)
      · refine g_if_eq hx dX4_tone_16 (tg := 34) (by decide) (nx := 19) rfl (fun c16 => ?_) (fun c16 => ?_)
        · refine g_iconst hx dX4_tone_34 (nx := 35) rfl (v := 0) (by decide) ?_
          refine g_istore_5 hx dX4_tone_35 (nx := 37) rfl (by decide) rfl ?_
          refine g_aloadG_n hx dX4_tone_37 rfl (nx := 38) rfl rfl ?_
          refine g_aloadG_n hx dX4_tone_38 rfl (nx := 39) rfl rfl ?_
          refine g_iloadG_n hx dX4_tone_39 rfl (nx := 40) rfl rfl ?_
          refine g_callV_M hx [_] (k' := 0) (n' := 0) dX4_tone_40 (nx := 43) rfl lk_X4_119 (hM.1 0 _ rfl) (by decide) rfl rfl (Nat.le_of_ble_eq_true rfl) (Nat.le_of_ble_eq_true rfl) (Nat.le_of_ble_eq_true rfl) (Nat.le_of_ble_eq_true rfl) (Nat.le_of_ble_eq_true rfl) (Nat.le_of_ble_eq_true rfl) (Nat.le_of_ble_eq_true rfl) (s_X4_isStar (n := n) hst hM h4 (by omega) (fun k hk9 ek => ?_) (fun qs => ?_))
          · subst ek
            have hkc : (nI k).toNatClampNeg = k := nI_clamp (by omega)
            have hin6 : vp_in (nI k) 6 := vp_in_nI (by omega) (by decide)
            refine g_if_ne hx dX4_tone_43 (tg := 50) (by decide) (nx := 46) rfl (fun c43 => ?_) (fun c43 => ?_)
            · refine g_iloadG hx dX4_tone_50 (nx := 52) rfl rfl ?_
              refine g_if_eq hx dX4_tone_52 (tg := 59) (by decide) (nx := 55) rfl (fun c52 => ?_) (fun c52 => ?_)
              · refine g_iconst hx dX4_tone_59 (nx := 60) rfl (v := 2) (by decide) ?_
                refine g_callV_M hx [_] (k' := 0) (n' := 0) dX4_tone_60 (nx := 63) rfl lk_X4_114 (hM.1 0 _ rfl) (by decide) rfl rfl (Nat.le_of_ble_eq_true rfl) (Nat.le_of_ble_eq_true rfl) (Nat.le_of_ble_eq_true rfl) (Nat.le_of_ble_eq_true rfl) (Nat.le_of_ble_eq_true rfl) (Nat.le_of_ble_eq_true rfl) (Nat.le_of_ble_eq_true rfl) (s_X4_can hst hM (fun z => absurd z (by decide)) (fun _ => ?_))
                refine g_if_eq hx dX4_tone_63 (tg := 78) (by decide) (nx := 66) rfl (fun c63 => ?_) (fun c63 => ?_)
                · refine g_iconst hx dX4_tone_78 (nx := 79) rfl (v := 0) (by decide) ?_
                  refine g_iret hx dX4_tone_79 rfl rfl (Nat.le_of_ble_eq_true rfl) (Nat.le_of_ble_eq_true rfl) ?_
                  first
                    | exact hf1 qs
                    | exact hf2 ⟨k, hk9, rfl⟩ (fun z => q1 z.1)
                    | exact hf2 ⟨k, hk9, rfl⟩ (fun z => q2 z.2.1)
                    | exact hf2 ⟨k, hk9, rfl⟩ (fun z => q3 z.2.2)
                    | (have K := hk k hk9 rfl ⟨q1, q2, q3⟩
                       simp only [tnI]
                       rw [au2_n (by omega), au2_n (by omega), au2_n (by omega), au2_n (by omega)]
                       exact K)
                · exact absurd c63 (by decide)
              · exact absurd c52 (by decide)
            · exact absurd c43 (by decide)
          · refine g_if_ne hx dX4_tone_43 (tg := 50) (by decide) (nx := 46) rfl (fun c43 => ?_) (fun c43 => ?_)
            · exact absurd c43 (by decide)
            · refine g_iconst hx dX4_tone_46 (nx := 47) rfl (v := 1) (by decide) ?_
              refine g_goto hx dX4_tone_47 (tg := 60) (by decide) ?_
              refine g_callV_M hx [_] (k' := 0) (n' := 0) dX4_tone_60 (nx := 63) rfl lk_X4_114 (hM.1 0 _ rfl) (by decide) rfl rfl (Nat.le_of_ble_eq_true rfl) (Nat.le_of_ble_eq_true rfl) (Nat.le_of_ble_eq_true rfl) (Nat.le_of_ble_eq_true rfl) (Nat.le_of_ble_eq_true rfl) (Nat.le_of_ble_eq_true rfl) (Nat.le_of_ble_eq_true rfl) (s_X4_can hst hM (fun z => absurd z (by decide)) (fun _ => ?_))
              refine g_if_eq hx dX4_tone_63 (tg := 78) (by decide) (nx := 66) rfl (fun c63 => ?_) (fun c63 => ?_)
              · refine g_iconst hx dX4_tone_78 (nx := 79) rfl (v := 0) (by decide) ?_
                refine g_iret hx dX4_tone_79 rfl rfl (Nat.le_of_ble_eq_true rfl) (Nat.le_of_ble_eq_true rfl) ?_
                first
                  | exact hf1 qs
                  | exact hf2 ⟨k, hk9, rfl⟩ (fun z => q1 z.1)
                  | exact hf2 ⟨k, hk9, rfl⟩ (fun z => q2 z.2.1)
                  | exact hf2 ⟨k, hk9, rfl⟩ (fun z => q3 z.2.2)
                  | (have K := hk k hk9 rfl ⟨q1, q2, q3⟩
                     simp only [tnI]
                     rw [au2_n (by omega), au2_n (by omega), au2_n (by omega), au2_n (by omega)]
                     exact K)
              · exact absurd c63 (by decide)
        · exact absurd c16 (by decide)
  · refine g_if_eq hx dX4_tone_7 (tg := 34) (by decide) (nx := 10) rfl (fun c7 => ?_) (fun c7 => ?_)
    · refine g_iconst hx dX4_tone_34 (nx := 35) rfl (v := 0) (by decide) ?_
      refine g_istore_5 hx dX4_tone_35 (nx := 37) rfl (by decide) rfl ?_
      refine g_aloadG_n hx dX4_tone_37 rfl (nx := 38) rfl rfl ?_
      refine g_aloadG_n hx dX4_tone_38 rfl (nx := 39) rfl rfl ?_
      refine g_iloadG_n hx dX4_tone_39 rfl (nx := 40) rfl rfl ?_
      refine g_callV_M hx [_] (k' := 0) (n' := 0) dX4_tone_40 (nx := 43) rfl lk_X4_119 (hM.1 0 _ rfl) (by decide) rfl rfl (Nat.le_of_ble_eq_true rfl) (Nat.le_of_ble_eq_true rfl) (Nat.le_of_ble_eq_true rfl) (Nat.le_of_ble_eq_true rfl) (Nat.le_of_ble_eq_true rfl) (Nat.le_of_ble_eq_true rfl) (Nat.le_of_ble_eq_true rfl) (s_X4_isStar (n := n) hst hM h4 (by omega) (fun k hk9 ek => ?_) (fun qs => ?_))
      · subst ek
        have hkc : (nI k).toNatClampNeg = k := nI_clamp (by omega)
        have hin6 : vp_in (nI k) 6 := vp_in_nI (by omega) (by decide)
        refine g_if_ne hx dX4_tone_43 (tg := 50) (by decide) (nx := 46) rfl (fun c43 => ?_) (fun c43 => ?_)
        · refine g_iloadG hx dX4_tone_50 (nx := 52) rfl rfl ?_
          refine g_if_eq hx dX4_tone_52 (tg := 59) (by decide) (nx := 55) rfl (fun c52 => ?_) (fun c52 => ?_)
          · refine g_iconst hx dX4_tone_59 (nx := 60) rfl (v := 2) (by decide) ?_
            refine g_callV_M hx [_] (k' := 0) (n' := 0) dX4_tone_60 (nx := 63) rfl lk_X4_114 (hM.1 0 _ rfl) (by decide) rfl rfl (Nat.le_of_ble_eq_true rfl) (Nat.le_of_ble_eq_true rfl) (Nat.le_of_ble_eq_true rfl) (Nat.le_of_ble_eq_true rfl) (Nat.le_of_ble_eq_true rfl) (Nat.le_of_ble_eq_true rfl) (Nat.le_of_ble_eq_true rfl) (s_X4_can hst hM (fun z => absurd z (by decide)) (fun _ => ?_))
            refine g_if_eq hx dX4_tone_63 (tg := 78) (by decide) (nx := 66) rfl (fun c63 => ?_) (fun c63 => ?_)
            · refine g_iconst hx dX4_tone_78 (nx := 79) rfl (v := 0) (by decide) ?_
              refine g_iret hx dX4_tone_79 rfl rfl (Nat.le_of_ble_eq_true rfl) (Nat.le_of_ble_eq_true rfl) ?_
              first
                | exact hf1 qs
                | exact hf2 ⟨k, hk9, rfl⟩ (fun z => q1 z.1)
                | exact hf2 ⟨k, hk9, rfl⟩ (fun z => q2 z.2.1)
                | exact hf2 ⟨k, hk9, rfl⟩ (fun z => q3 z.2.2)
                | (have K := hk k hk9 rfl ⟨q1, q2, q3⟩
                   simp only [tnI]
                   rw [au2_n (by omega), au2_n (by omega), au2_n (by omega), au2_n (by omega)]
                   exact K)
            · exact absurd c63 (by decide)
          · exact absurd c52 (by decide)
        · exact absurd c43 (by decide)
      · refine g_if_ne hx dX4_tone_43 (tg := 50) (by decide) (nx := 46) rfl (fun c43 => ?_) (fun c43 => ?_)
        · exact absurd c43 (by decide)
        · refine g_iconst hx dX4_tone_46 (nx := 47) rfl (v := 1) (by decide) ?_
          refine g_goto hx dX4_tone_47 (tg := 60) (by decide) ?_
          refine g_callV_M hx [_] (k' := 0) (n' := 0) dX4_tone_60 (nx := 63) rfl lk_X4_114 (hM.1 0 _ rfl) (by decide) rfl rfl (Nat.le_of_ble_eq_true rfl) (Nat.le_of_ble_eq_true rfl) (Nat.le_of_ble_eq_true rfl) (Nat.le_of_ble_eq_true rfl) (Nat.le_of_ble_eq_true rfl) (Nat.le_of_ble_eq_true rfl) (Nat.le_of_ble_eq_true rfl) (s_X4_can hst hM (fun z => absurd z (by decide)) (fun _ => ?_))
          refine g_if_eq hx dX4_tone_63 (tg := 78) (by decide) (nx := 66) rfl (fun c63 => ?_) (fun c63 => ?_)
          · refine g_iconst hx dX4_tone_78 (nx := 79) rfl (v := 0) (by decide) ?_
            refine g_iret hx dX4_tone_79 rfl rfl (Nat.le_of_ble_eq_true rfl) (Nat.le_of_ble_eq_true rfl) ?_
            first
              | exact hf1 qs
              | exact hf2 ⟨k, hk9, rfl⟩ (fun z => q1 z.1)
              | exact hf2 ⟨k, hk9, rfl⟩ (fun z => q2 z.2.1)
              | exact hf2 ⟨k, hk9, rfl⟩ (fun z => q3 z.2.2)
              | (have K := hk k hk9 rfl ⟨q1, q2, q3⟩
                 simp only [tnI]
                 rw [au2_n (by omega), au2_n (by omega), au2_n (by omega), au2_n (by omega)]
                 exact K)
          · exact absurd c63 (by decide)
    · exact absurd c7 (by decide)

abbrev rmX4_frame : Room := { frames := 2, cells := 0, slots := 0, locals := 43 }
set_option maxHeartbeats 4000000 in
set_option maxRecDepth 100000 in
theorem s_X4_frame {l : Launch} {E : aE} {S : aS} {I : aI} {L : aL} {Rf : aR} {Kr : aK} {Kx : aX} (hst : l.stackTraces = false) {n : Nat} {x y w v : Int32} (hM : lyM S Rf) (h4 : I 20 4 = nI n) (hn6 : n ≤ 6) (hf1 : ¬ (inN x n ∧ inN y 4) → Kr (some (.int 0)) S (au2 I 20 31 1) L Rf) (hf2 : (inN x n ∧ inN y 4) → ¬ (inN w 256 ∧ inN v 10000) → Kr (some (.int 0)) S (au2 I 20 31 2) L Rf) (hk : ∀ k j t u : Nat, k < n → j < 4 → t < 256 → u < 10000 → x = nI k → y = nI j → w = nI t → v = nI u → Kr (some (.int (I 31 (256 * k + t)))) S (au2 (au2 (au2 I 20 31 0) 31 (256 * k + t) (nI u)) 32 (256 * k + t) (nI j)) L Rf) : aMet l E yX4_frame cX4_frame 8 (some .int) rmX4_frame [.ref 20, .int x, .int y, .int w, .int v] (S) (I) (L) (Rf) Kr Kx := by
  refine aMet.of (lv0 := [.ref 20, .int x, .int y, .int w, .int v, aU, aU, aU]) (z := 3) (by decide +kernel) hst rfl (Nat.le_of_ble_eq_true rfl) ?_
  intro p e s m args below meth c io0 hx hin hno
  have hx : aCx p l s m args meth c RX4 cX4_frame 8 (some .int) E := hx
  refine g_aloadG_n hx dX4_frame_0 rfl (nx := 1) rfl rfl ?_
  refine g_iloadG_n hx dX4_frame_1 rfl (nx := 2) rfl rfl ?_
  refine g_callV_M hx [_] (k' := 0) (n' := 0) dX4_frame_2 (nx := 5) rfl lk_X4_119 (hM.1 0 _ rfl) (by decide) rfl rfl (Nat.le_of_ble_eq_true rfl) (Nat.le_of_ble_eq_true rfl) (Nat.le_of_ble_eq_true rfl) (Nat.le_of_ble_eq_true rfl) (Nat.le_of_ble_eq_true rfl) (Nat.le_of_ble_eq_true rfl) (Nat.le_of_ble_eq_true rfl) (s_X4_isStar (n := n) hst hM h4 (by omega) (fun k hk9 ek => ?_) (fun qs => ?_))
  · subst ek
    have hkc : (nI k).toNatClampNeg = k := nI_clamp (by omega)
    have hin6 : vp_in (nI k) 6 := vp_in_nI (by omega) (by decide)
    refine g_if_eq hx dX4_frame_5 (tg := 21) (by decide) (nx := 8) rfl (fun c5 => ?_) (fun c5 => ?_)
    · exact absurd c5 (by decide)
    · refine g_iloadG_n hx dX4_frame_8 rfl (nx := 9) rfl rfl ?_
      refine g_iconst hx dX4_frame_9 (nx := 10) rfl (v := 0) (by decide) ?_
      refine g_iconst hx dX4_frame_10 (nx := 11) rfl (v := 3) (by decide) ?_
      refine g_callS_M hx [_, _, _] (k' := 0) (n' := 0) dX4_frame_11 (nx := 14) rfl lk_X4_104 rfl (Nat.le_of_ble_eq_true rfl) (Nat.le_of_ble_eq_true rfl) (Nat.le_of_ble_eq_true rfl) (Nat.le_of_ble_eq_true rfl) (Nat.le_of_ble_eq_true rfl) (Nat.le_of_ble_eq_true rfl) (Nat.le_of_ble_eq_true rfl) (s_X4_isInN hst 0 3 (by decide) (by decide) (fun q2 => ?_) (fun q2 => ?_))
      · obtain ⟨j, hj9, rfl⟩ := rgN_in.mp q2
        refine g_if_eq hx dX4_frame_14 (tg := 21) (by decide) (nx := 17) rfl (fun c14 => ?_) (fun c14 => ?_)
        · exact absurd c14 (by decide)
        · refine g_iconst hx dX4_frame_17 (nx := 18) rfl (v := 1) (by decide) ?_
          refine g_goto hx dX4_frame_18 (tg := 22) (by decide) ?_
          refine g_istore_5 hx dX4_frame_22 (nx := 24) rfl (by decide) rfl ?_
          refine g_iloadG_n hx dX4_frame_24 rfl (nx := 25) rfl rfl ?_
          refine g_callS_M hx [_] (k' := 0) (n' := 0) dX4_frame_25 (nx := 28) rfl lk_X4_126 rfl (Nat.le_of_ble_eq_true rfl) (Nat.le_of_ble_eq_true rfl) (Nat.le_of_ble_eq_true rfl) (Nat.le_of_ble_eq_true rfl) (Nat.le_of_ble_eq_true rfl) (Nat.le_of_ble_eq_true rfl) (Nat.le_of_ble_eq_true rfl) (s_X4_isTime hst (fun t ht9 et => ?_) (fun qt => ?_))
          · subst et
            refine g_if_eq hx dX4_frame_28 (tg := 47) (by decide) (nx := 31) rfl (fun c28 => ?_) (fun c28 => ?_)
            · exact absurd c28 (by decide)
            · refine g_iloadG hx dX4_frame_31 (nx := 33) rfl rfl ?_
              refine g_iconst hx dX4_frame_33 (nx := 34) rfl (v := 0) (by decide) ?_
              refine g_sipush hx dX4_frame_34 (nx := 37) rfl (v := 9999) (by decide) ?_
              refine g_callS_M hx [_, _, _] (k' := 0) (n' := 0) dX4_frame_37 (nx := 40) rfl lk_X4_104 rfl (Nat.le_of_ble_eq_true rfl) (Nat.le_of_ble_eq_true rfl) (Nat.le_of_ble_eq_true rfl) (Nat.le_of_ble_eq_true rfl) (Nat.le_of_ble_eq_true rfl) (Nat.le_of_ble_eq_true rfl) (Nat.le_of_ble_eq_true rfl) (s_X4_isInN hst 0 9999 (by decide) (by decide) (fun q4 => ?_) (fun q4 => ?_))
              · obtain ⟨u, hu9, rfl⟩ := rgN_in.mp q4
                refine g_if_eq hx dX4_frame_40 (tg := 47) (by decide) (nx := 43) rfl (fun c40 => ?_) (fun c40 => ?_)
                · exact absurd c40 (by decide)
                · refine g_iconst hx dX4_frame_43 (nx := 44) rfl (v := 1) (by decide) ?_
                  refine g_goto hx dX4_frame_44 (tg := 48) (by decide) ?_
                  refine g_istore_6 hx dX4_frame_48 (nx := 50) rfl (by decide) rfl ?_
                  refine g_aloadG_n hx dX4_frame_50 rfl (nx := 51) rfl rfl ?_
                  refine g_iloadG hx dX4_frame_51 (nx := 53) rfl rfl ?_
                  refine g_if_ne hx dX4_frame_53 (tg := 60) (by decide) (nx := 56) rfl (fun c53 => ?_) (fun c53 => ?_)
                  · refine g_iloadG hx dX4_frame_60 (nx := 62) rfl rfl ?_
                    refine g_if_eq hx dX4_frame_62 (tg := 69) (by decide) (nx := 65) rfl (fun c62 => ?_) (fun c62 => ?_)
                    · exact absurd c62 (by decide)
                    · refine g_iconst hx dX4_frame_65 (nx := 66) rfl (v := 0) (by decide) ?_
                      refine g_goto hx dX4_frame_66 (tg := 70) (by decide) ?_
                      refine g_callV_M hx [_] (k' := 0) (n' := 0) dX4_frame_70 (nx := 73) rfl lk_X4_114 (hM.1 0 _ rfl) (by decide) rfl rfl (Nat.le_of_ble_eq_true rfl) (Nat.le_of_ble_eq_true rfl) (Nat.le_of_ble_eq_true rfl) (Nat.le_of_ble_eq_true rfl) (Nat.le_of_ble_eq_true rfl) (Nat.le_of_ble_eq_true rfl) (Nat.le_of_ble_eq_true rfl) (s_X4_can hst hM (fun _ => ?_) (fun z => absurd rfl z))
                      refine g_if_ne hx dX4_frame_73 (tg := 78) (by decide) (nx := 76) rfl (fun c73 => ?_) (fun c73 => ?_)
                      · have e9 := ix256 k t
                        have hin9 : vp_in (256 * nI k + nI t) 1536 := by rw [e9]; exact vp_in_nI (by omega) (by decide)
                        have hc9 : (256 * nI k + nI t).toNatClampNeg = 256 * k + t := by rw [e9]; exact nI_clamp (by omega)
                        refine g_aloadG_n hx dX4_frame_78 rfl (nx := 79) rfl rfl ?_
                        refine g_getfo_R hx dX4_frame_79 (nx := 82) rfl fa_X4_37 rfl (r9 := 31) (hM.2 11 rfl) (hM.1 0 _ rfl) (by decide) ?_
                        refine g_sipush hx dX4_frame_82 (nx := 85) rfl (v := 256) (by decide) ?_
                        refine g_iloadG_n hx dX4_frame_85 rfl (nx := 86) rfl rfl ?_
                        refine g_imul hx dX4_frame_86 (nx := 87) rfl ?_
                        refine g_iloadG_n hx dX4_frame_87 rfl (nx := 88) rfl rfl ?_
                        refine g_iadd hx dX4_frame_88 (nx := 89) rfl ?_
                        refine g_iaload hx dX4_frame_89 (nx := 90) rfl (hM.1 11 _ rfl) (by decide) hin9 ?_
                        refine g_istore_7 hx dX4_frame_90 (nx := 92) rfl (by decide) rfl ?_
                        refine g_aloadG_n hx dX4_frame_92 rfl (nx := 93) rfl rfl ?_
                        refine g_getfo_R hx dX4_frame_93 (nx := 96) rfl fa_X4_37 rfl (r9 := 31) (hM.2 11 rfl) (hM.1 0 _ rfl) (by decide) ?_
                        refine g_sipush hx dX4_frame_96 (nx := 99) rfl (v := 256) (by decide) ?_
                        refine g_iloadG_n hx dX4_frame_99 rfl (nx := 100) rfl rfl ?_
                        refine g_imul hx dX4_frame_100 (nx := 101) rfl ?_
                        refine g_iloadG_n hx dX4_frame_101 rfl (nx := 102) rfl rfl ?_
                        refine g_iadd hx dX4_frame_102 (nx := 103) rfl ?_
                        refine g_iloadG hx dX4_frame_103 (nx := 105) rfl rfl ?_
                        refine g_iastore hx dX4_frame_105 (nx := 106) rfl (hM.1 11 _ rfl) (by decide) hin9 ?_
                        refine g_aloadG_n hx dX4_frame_106 rfl (nx := 107) rfl rfl ?_
                        refine g_getfo_R hx dX4_frame_107 (nx := 110) rfl fa_X4_40 rfl (r9 := 32) (hM.2 12 rfl) (hM.1 0 _ rfl) (by decide) ?_
                        refine g_sipush hx dX4_frame_110 (nx := 113) rfl (v := 256) (by decide) ?_
                        refine g_iloadG_n hx dX4_frame_113 rfl (nx := 114) rfl rfl ?_
                        refine g_imul hx dX4_frame_114 (nx := 115) rfl ?_
                        refine g_iloadG_n hx dX4_frame_115 rfl (nx := 116) rfl rfl ?_
                        refine g_iadd hx dX4_frame_116 (nx := 117) rfl ?_
                        refine g_iloadG_n hx dX4_frame_117 rfl (nx := 118) rfl rfl ?_
                        refine g_iastore hx dX4_frame_118 (nx := 119) rfl (hM.1 12 _ rfl) (by decide) hin9 ?_
                        refine g_iloadG hx dX4_frame_119 (nx := 121) rfl rfl ?_
                        refine g_iret hx dX4_frame_121 rfl rfl (Nat.le_of_ble_eq_true rfl) (Nat.le_of_ble_eq_true rfl) ?_
                        first
                          | exact hf1 (fun z => qs z.1)
                          | exact hf1 (fun z => qj z.2)
                          | exact hf2 ⟨⟨k, hk9, rfl⟩, ⟨j, hj9, rfl⟩⟩ (fun z => qt z.1)
                          | exact hf2 ⟨⟨k, hk9, rfl⟩, ⟨j, hj9, rfl⟩⟩ (fun z => qu z.2)
                          | (rw [hc9, au2_n (by omega)]; exact hk k j t u hk9 hj9 ht9 hu9 rfl rfl rfl rfl)
                      · exact absurd c73 (by decide)
                  · exact absurd c53 (by decide)
              · have qu : ¬ inN v 10000 := fun z => q4 (rgN_in.mpr z)
                refine g_if_eq hx dX4_frame_40 (tg := 47) (by decide) (nx := 43) rfl (fun c40 => ?_) (fun c40 => ?_)
                · refine g_iconst hx dX4_frame_47 (nx := 48) rfl (v := 0) (by decide) ?_
                  refine g_istore_6 hx dX4_frame_48 (nx := 50) rfl (by decide) rfl ?_
                  refine g_aloadG_n hx dX4_frame_50 rfl (nx := 51) rfl rfl ?_
                  refine g_iloadG hx dX4_frame_51 (nx := 53) rfl rfl ?_
                  refine g_if_ne hx dX4_frame_53 (tg := 60) (by decide) (nx := 56) rfl (fun c53 => ?_) (fun c53 => ?_)
                  · refine g_iloadG hx dX4_frame_60 (nx := 62) rfl rfl ?_
                    refine g_if_eq hx dX4_frame_62 (tg := 69) (by decide) (nx := 65) rfl (fun c62 => ?_) (fun c62 => ?_)
                    · refine g_iconst hx dX4_frame_69 (nx := 70) rfl (v := 2) (by decide) ?_
                      refine g_callV_M hx [_] (k' := 0) (n' := 0) dX4_frame_70 (nx := 73) rfl lk_X4_114 (hM.1 0 _ rfl) (by decide) rfl rfl (Nat.le_of_ble_eq_true rfl) (Nat.le_of_ble_eq_true rfl) (Nat.le_of_ble_eq_true rfl) (Nat.le_of_ble_eq_true rfl) (Nat.le_of_ble_eq_true rfl) (Nat.le_of_ble_eq_true rfl) (Nat.le_of_ble_eq_true rfl) (s_X4_can hst hM (fun z => absurd z (by decide)) (fun _ => ?_))
                      refine g_if_ne hx dX4_frame_73 (tg := 78) (by decide) (nx := 76) rfl (fun c73 => ?_) (fun c73 => ?_)
                      · exact absurd c73 (by decide)
                      · refine g_iconst hx dX4_frame_76 (nx := 77) rfl (v := 0) (by decide) ?_
                        refine g_iret hx dX4_frame_77 rfl rfl (Nat.le_of_ble_eq_true rfl) (Nat.le_of_ble_eq_true rfl) ?_
                        first
                          | exact hf1 (fun z => qs z.1)
                          | exact hf1 (fun z => qj z.2)
                          | exact hf2 ⟨⟨k, hk9, rfl⟩, ⟨j, hj9, rfl⟩⟩ (fun z => qt z.1)
                          | exact hf2 ⟨⟨k, hk9, rfl⟩, ⟨j, hj9, rfl⟩⟩ (fun z => qu z.2)
                          | (rw [hc9, au2_n (by omega)]; exact hk k j t u hk9 hj9 ht9 hu9 rfl rfl rfl rfl)
                    · exact absurd c62 (by decide)
                  · exact absurd c53 (by decide)
                · exact absurd c40 (by decide)
          · refine g_if_eq hx dX4_frame_28 (tg := 47) (by decide) (nx := 31) rfl (fun c28 => ?_) (fun c28 => ?_)
            · refine g_iconst hx dX4_frame_47 (nx := 48) rfl (v := 0) (by decide) ?_
              refine g_istore_6 hx dX4_frame_48 (nx := 50) rfl (by decide) rfl ?_
              refine g_aloadG_n hx dX4_frame_50 rfl (nx := 51) rfl rfl ?_
              refine g_iloadG hx dX4_frame_51 (nx := 53) rfl rfl ?_
              refine g_if_ne hx dX4_frame_53 (tg := 60) (by decide) (nx := 56) rfl (fun c53 => ?_) (fun c53 => ?_)
              · refine g_iloadG hx dX4_frame_60 (nx := 62) rfl rfl ?_
                refine g_if_eq hx dX4_frame_62 (tg := 69) (by decide) (nx := 65) rfl (fun c62 => ?_) (fun c62 => ?_)
                · refine g_iconst hx dX4_frame_69 (nx := 70) rfl (v := 2) (by decide) ?_
                  refine g_callV_M hx [_] (k' := 0) (n' := 0) dX4_frame_70 (nx := 73) rfl lk_X4_114 (hM.1 0 _ rfl) (by decide) rfl rfl (Nat.le_of_ble_eq_true rfl) (Nat.le_of_ble_eq_true rfl) (Nat.le_of_ble_eq_true rfl) (Nat.le_of_ble_eq_true rfl) (Nat.le_of_ble_eq_true rfl) (Nat.le_of_ble_eq_true rfl) (Nat.le_of_ble_eq_true rfl) (s_X4_can hst hM (fun z => absurd z (by decide)) (fun _ => ?_))
                  refine g_if_ne hx dX4_frame_73 (tg := 78) (by decide) (nx := 76) rfl (fun c73 => ?_) (fun c73 => ?_)
                  · exact absurd c73 (by decide)
                  · refine g_iconst hx dX4_frame_76 (nx := 77) rfl (v := 0) (by decide) ?_
                    refine g_iret hx dX4_frame_77 rfl rfl (Nat.le_of_ble_eq_true rfl) (Nat.le_of_ble_eq_true rfl) ?_
                    first
                      | exact hf1 (fun z => qs z.1)
                      | exact hf1 (fun z => qj z.2)
                      | exact hf2 ⟨⟨k, hk9, rfl⟩, ⟨j, hj9, rfl⟩⟩ (fun z => qt z.1)
                      | exact hf2 ⟨⟨k, hk9, rfl⟩, ⟨j, hj9, rfl⟩⟩ (fun z => qu z.2)
                      | (rw [hc9, au2_n (by omega)]; exact hk k j t u hk9 hj9 ht9 hu9 rfl rfl rfl rfl)
                · exact absurd c62 (by decide)
              · exact absurd c53 (by decide)
            · exact absurd c28 (by decide)
      · have qj : ¬ inN y 4 := fun z => q2 (rgN_in.mpr z)
        refine g_if_eq hx dX4_frame_14 (tg := 21) (by decide) (nx := 17) rfl (fun c14 => ?_) (fun c14 => ?_)
        · refine g_iconst hx dX4_frame_21 (nx := 22) rfl (v := 0) (by decide) ?_
          refine g_istore_5 hx dX4_frame_22 (nx := 24) rfl (by decide) rfl ?_
          refine g_iloadG_n hx dX4_frame_24 rfl (nx := 25) rfl rfl ?_
          refine g_callS_M hx [_] (k' := 0) (n' := 0) dX4_frame_25 (nx := 28) rfl lk_X4_126 rfl (Nat.le_of_ble_eq_true rfl) (Nat.le_of_ble_eq_true rfl) (Nat.le_of_ble_eq_true rfl) (Nat.le_of_ble_eq_true rfl) (Nat.le_of_ble_eq_true rfl) (Nat.le_of_ble_eq_true rfl) (Nat.le_of_ble_eq_true rfl) (s_X4_isTime hst (fun t ht9 et => ?_) (fun qt => ?_))
          · subst et
            refine g_if_eq hx dX4_frame_28 (tg := 47) (by decide) (nx := 31) rfl (fun c28 => ?_) (fun c28 => ?_)
            · exact absurd c28 (by decide)
            · refine g_iloadG hx dX4_frame_31 (nx := 33) rfl rfl ?_
              refine g_iconst hx dX4_frame_33 (nx := 34) rfl (v := 0) (by decide) ?_
              refine g_sipush hx dX4_frame_34 (nx := 37) rfl (v := 9999) (by decide) ?_
              refine g_callS_M hx [_, _, _] (k' := 0) (n' := 0) dX4_frame_37 (nx := 40) rfl lk_X4_104 rfl (Nat.le_of_ble_eq_true rfl) (Nat.le_of_ble_eq_true rfl) (Nat.le_of_ble_eq_true rfl) (Nat.le_of_ble_eq_true rfl) (Nat.le_of_ble_eq_true rfl) (Nat.le_of_ble_eq_true rfl) (Nat.le_of_ble_eq_true rfl) (s_X4_isInN hst 0 9999 (by decide) (by decide) (fun q4 => ?_) (fun q4 => ?_))
              · obtain ⟨u, hu9, rfl⟩ := rgN_in.mp q4
                refine g_if_eq hx dX4_frame_40 (tg := 47) (by decide) (nx := 43) rfl (fun c40 => ?_) (fun c40 => ?_)
                · exact absurd c40 (by decide)
                · refine g_iconst hx dX4_frame_43 (nx := 44) rfl (v := 1) (by decide) ?_
                  refine g_goto hx dX4_frame_44 (tg := 48) (by decide) ?_
                  refine g_istore_6 hx dX4_frame_48 (nx := 50) rfl (by decide) rfl ?_
                  refine g_aloadG_n hx dX4_frame_50 rfl (nx := 51) rfl rfl ?_
                  refine g_iloadG hx dX4_frame_51 (nx := 53) rfl rfl ?_
                  refine g_if_ne hx dX4_frame_53 (tg := 60) (by decide) (nx := 56) rfl (fun c53 => ?_) (fun c53 => ?_)
                  · exact absurd c53 (by decide)
                  · refine g_iconst hx dX4_frame_56 (nx := 57) rfl (v := 1) (by decide) ?_
                    refine g_goto hx dX4_frame_57 (tg := 70) (by decide) ?_
                    refine g_callV_M hx [_] (k' := 0) (n' := 0) dX4_frame_70 (nx := 73) rfl lk_X4_114 (hM.1 0 _ rfl) (by decide) rfl rfl (Nat.le_of_ble_eq_true rfl) (Nat.le_of_ble_eq_true rfl) (Nat.le_of_ble_eq_true rfl) (Nat.le_of_ble_eq_true rfl) (Nat.le_of_ble_eq_true rfl) (Nat.le_of_ble_eq_true rfl) (Nat.le_of_ble_eq_true rfl) (s_X4_can hst hM (fun z => absurd z (by decide)) (fun _ => ?_))
                    refine g_if_ne hx dX4_frame_73 (tg := 78) (by decide) (nx := 76) rfl (fun c73 => ?_) (fun c73 => ?_)
                    · exact absurd c73 (by decide)
                    · refine g_iconst hx dX4_frame_76 (nx := 77) rfl (v := 0) (by decide) ?_
                      refine g_iret hx dX4_frame_77 rfl rfl (Nat.le_of_ble_eq_true rfl) (Nat.le_of_ble_eq_true rfl) ?_
                      first
                        | exact hf1 (fun z => qs z.1)
                        | exact hf1 (fun z => qj z.2)
                        | exact hf2 ⟨⟨k, hk9, rfl⟩, ⟨j, hj9, rfl⟩⟩ (fun z => qt z.1)
                        | exact hf2 ⟨⟨k, hk9, rfl⟩, ⟨j, hj9, rfl⟩⟩ (fun z => qu z.2)
                        | (rw [hc9, au2_n (by omega)]; exact hk k j t u hk9 hj9 ht9 hu9 rfl rfl rfl rfl)
              · have qu : ¬ inN v 10000 := fun z => q4 (rgN_in.mpr z)
                refine g_if_eq hx dX4_frame_40 (tg := 47) (by decide) (nx := 43) rfl (fun c40 => ?_) (fun c40 => ?_)
                · refine g_iconst hx dX4_frame_47 (nx := 48) rfl (v := 0) (by decide) ?_
                  refine g_istore_6 hx dX4_frame_48 (nx := 50) rfl (by decide) rfl ?_
                  refine g_aloadG_n hx dX4_frame_50 rfl (nx := 51) rfl rfl ?_
                  refine g_iloadG hx dX4_frame_51 (nx := 53) rfl rfl ?_
                  refine g_if_ne hx dX4_frame_53 (tg := 60) (by decide) (nx := 56) rfl (fun c53 => ?_) (fun c53 => ?_)
                  · exact absurd c53 (by decide)
                  · refine g_iconst hx dX4_frame_56 (nx := 57) rfl (v := 1) (by decide) ?_
                    refine g_goto hx dX4_frame_57 (tg := 70) (by decide) ?_
                    refine g_callV_M hx [_] (k' := 0) (n' := 0) dX4_frame_70 (nx := 73) rfl lk_X4_114 (hM.1 0 _ rfl) (by decide) rfl rfl (Nat.le_of_ble_eq_true rfl) (Nat.le_of_ble_eq_true rfl) (Nat.le_of_ble_eq_true rfl) (Nat.le_of_ble_eq_true rfl) (Nat.le_of_ble_eq_true rfl) (Nat.le_of_ble_eq_true rfl) (Nat.le_of_ble_eq_true rfl) (s_X4_can hst hM (fun z => absurd z (by decide)) (fun _ => ?_))
                    refine g_if_ne hx dX4_frame_73 (tg := 78) (by decide) (nx := 76) rfl (fun c73 => ?_) (fun c73 => ?_)
                    · exact absurd c73 (by decide)
                    · refine g_iconst hx dX4_frame_76 (nx := 77) rfl (v := 0) (by decide) ?_
                      refine g_iret hx dX4_frame_77 rfl rfl (Nat.le_of_ble_eq_true rfl) (Nat.le_of_ble_eq_true rfl) ?_
                      first
                        | exact hf1 (fun z => qs z.1)
                        | exact hf1 (fun z => qj z.2)
                        | exact hf2 ⟨⟨k, hk9, rfl⟩, ⟨j, hj9, rfl⟩⟩ (fun z => qt z.1)
                        | exact hf2 ⟨⟨k, hk9, rfl⟩, ⟨j, hj9, rfl⟩⟩ (fun z => qu z.2)
                        | (rw [hc9, au2_n (by omega)]; exact hk k j t u hk9 hj9 ht9 hu9 rfl rfl rfl rfl)
                · exact absurd c40 (by decide)
          · refine g_if_eq hx dX4_frame_28 (tg := 47) (by decide) (nx := 31) rfl (fun c28 => ?_) (fun c28 => ?_)
            · refine g_iconst hx dX4_frame_47 (nx := 48) rfl (v := 0) (by decide) ?_
              refine g_istore_6 hx dX4_frame_48 (nx := 50) rfl (by decide) rfl ?_
              refine g_aloadG_n hx dX4_frame_50 rfl (nx := 51) rfl rfl ?_
              refine g_iloadG hx dX4_frame_51 (nx := 53) rfl rfl ?_
              refine g_if_ne hx dX4_frame_53 (tg := 60) (by decide) (nx := 56) rfl (fun c53 => ?_) (fun c53 => ?_)
              · exact absurd c53 (by decide)
              · refine g_iconst hx dX4_frame_56 (nx := 57) rfl (v := 1) (by decide) ?_
                refine g_goto hx dX4_frame_57 (tg := 70) (by decide) ?_
                refine g_callV_M hx [_] (k' := 0) (n' := 0) dX4_frame_70 (nx := 73) rfl lk_X4_114 (hM.1 0 _ rfl) (by decide) rfl rfl (Nat.le_of_ble_eq_true rfl) (Nat.le_of_ble_eq_true rfl) (Nat.le_of_ble_eq_true rfl) (Nat.le_of_ble_eq_true rfl) (Nat.le_of_ble_eq_true rfl) (Nat.le_of_ble_eq_true rfl) (Nat.le_of_ble_eq_true rfl) (s_X4_can hst hM (fun z => absurd z (by decide)) (fun _ => ?_))
                refine g_if_ne hx dX4_frame_73 (tg := 78) (by decide) (nx := 76) rfl (fun c73 => ?_) (fun c73 => ?_)
                · exact absurd c73 (by decide)
                · refine g_iconst hx dX4_frame_76 (nx := 77) rfl (v := 0) (by decide) ?_
                  refine g_iret hx dX4_frame_77 rfl rfl (Nat.le_of_ble_eq_true rfl) (Nat.le_of_ble_eq_true rfl) ?_
                  first
                    | exact hf1 (fun z => qs z.1)
                    | exact hf1 (fun z => qj z.2)
                    | exact hf2 ⟨⟨k, hk9, rfl⟩, ⟨j, hj9, rfl⟩⟩ (fun z => qt z.1)
                    | exact hf2 ⟨⟨k, hk9, rfl⟩, ⟨j, hj9, rfl⟩⟩ (fun z => qu z.2)
                    | (rw [hc9, au2_n (by omega)]; exact hk k j t u hk9 hj9 ht9 hu9 rfl rfl rfl rfl)
            · exact absurd c28 (by decide)
        · exact absurd c14 (by decide)
  · refine g_if_eq hx dX4_frame_5 (tg := 21) (by decide) (nx := 8) rfl (fun c5 => ?_) (fun c5 => ?_)
    · refine g_iconst hx dX4_frame_21 (nx := 22) rfl (v := 0) (by decide) ?_
      refine g_istore_5 hx dX4_frame_22 (nx := 24) rfl (by decide) rfl ?_
      refine g_iloadG_n hx dX4_frame_24 rfl (nx := 25) rfl rfl ?_
      refine g_callS_M hx [_] (k' := 0) (n' := 0) dX4_frame_25 (nx := 28) rfl lk_X4_126 rfl (Nat.le_of_ble_eq_true rfl) (Nat.le_of_ble_eq_true rfl) (Nat.le_of_ble_eq_true rfl) (Nat.le_of_ble_eq_true rfl) (Nat.le_of_ble_eq_true rfl) (Nat.le_of_ble_eq_true rfl) (Nat.le_of_ble_eq_true rfl) (s_X4_isTime hst (fun t ht9 et => ?_) (fun qt => ?_))
      · subst et
        refine g_if_eq hx dX4_frame_28 (tg := 47) (by decide) (nx := 31) rfl (fun c28 => ?_) (fun c28 => ?_)
        · exact absurd c28 (by decide)
        · refine g_iloadG hx dX4_frame_31 (nx := 33) rfl rfl ?_
          refine g_iconst hx dX4_frame_33 (nx := 34) rfl (v := 0) (by decide) ?_
          refine g_sipush hx dX4_frame_34 (nx := 37) rfl (v := 9999) (by decide) ?_
          refine g_callS_M hx [_, _, _] (k' := 0) (n' := 0) dX4_frame_37 (nx := 40) rfl lk_X4_104 rfl (Nat.le_of_ble_eq_true rfl) (Nat.le_of_ble_eq_true rfl) (Nat.le_of_ble_eq_true rfl) (Nat.le_of_ble_eq_true rfl) (Nat.le_of_ble_eq_true rfl) (Nat.le_of_ble_eq_true rfl) (Nat.le_of_ble_eq_true rfl) (s_X4_isInN hst 0 9999 (by decide) (by decide) (fun q4 => ?_) (fun q4 => ?_))
          · obtain ⟨u, hu9, rfl⟩ := rgN_in.mp q4
            refine g_if_eq hx dX4_frame_40 (tg := 47) (by decide) (nx := 43) rfl (fun c40 => ?_) (fun c40 => ?_)
            · exact absurd c40 (by decide)
            · refine g_iconst hx dX4_frame_43 (nx := 44) rfl (v := 1) (by decide) ?_
              refine g_goto hx dX4_frame_44 (tg := 48) (by decide) ?_
              refine g_istore_6 hx dX4_frame_48 (nx := 50) rfl (by decide) rfl ?_
              refine g_aloadG_n hx dX4_frame_50 rfl (nx := 51) rfl rfl ?_
              refine g_iloadG hx dX4_frame_51 (nx := 53) rfl rfl ?_
              refine g_if_ne hx dX4_frame_53 (tg := 60) (by decide) (nx := 56) rfl (fun c53 => ?_) (fun c53 => ?_)
              · exact absurd c53 (by decide)
              · refine g_iconst hx dX4_frame_56 (nx := 57) rfl (v := 1) (by decide) ?_
                refine g_goto hx dX4_frame_57 (tg := 70) (by decide) ?_
                refine g_callV_M hx [_] (k' := 0) (n' := 0) dX4_frame_70 (nx := 73) rfl lk_X4_114 (hM.1 0 _ rfl) (by decide) rfl rfl (Nat.le_of_ble_eq_true rfl) (Nat.le_of_ble_eq_true rfl) (Nat.le_of_ble_eq_true rfl) (Nat.le_of_ble_eq_true rfl) (Nat.le_of_ble_eq_true rfl) (Nat.le_of_ble_eq_true rfl) (Nat.le_of_ble_eq_true rfl) (s_X4_can hst hM (fun z => absurd z (by decide)) (fun _ => ?_))
                refine g_if_ne hx dX4_frame_73 (tg := 78) (by decide) (nx := 76) rfl (fun c73 => ?_) (fun c73 => ?_)
                · exact absurd c73 (by decide)
                · refine g_iconst hx dX4_frame_76 (nx := 77) rfl (v := 0) (by decide) ?_
                  refine g_iret hx dX4_frame_77 rfl rfl (Nat.le_of_ble_eq_true rfl) (Nat.le_of_ble_eq_true rfl) ?_
                  first
                    | exact hf1 (fun z => qs z.1)
                    | exact hf1 (fun z => qj z.2)
                    | exact hf2 ⟨⟨k, hk9, rfl⟩, ⟨j, hj9, rfl⟩⟩ (fun z => qt z.1)
                    | exact hf2 ⟨⟨k, hk9, rfl⟩, ⟨j, hj9, rfl⟩⟩ (fun z => qu z.2)
                    | (rw [hc9, au2_n (by omega)]; exact hk k j t u hk9 hj9 ht9 hu9 rfl rfl rfl rfl)
          · have qu : ¬ inN v 10000 := fun z => q4 (rgN_in.mpr z)
            refine g_if_eq hx dX4_frame_40 (tg := 47) (by decide) (nx := 43) rfl (fun c40 => ?_) (fun c40 => ?_)
            · refine g_iconst hx dX4_frame_47 (nx := 48) rfl (v := 0) (by decide) ?_
              refine g_istore_6 hx dX4_frame_48 (nx := 50) rfl (by decide) rfl ?_
              refine g_aloadG_n hx dX4_frame_50 rfl (nx := 51) rfl rfl ?_
              refine g_iloadG hx dX4_frame_51 (nx := 53) rfl rfl ?_
              refine g_if_ne hx dX4_frame_53 (tg := 60) (by decide) (nx := 56) rfl (fun c53 => ?_) (fun c53 => ?_)
              · exact absurd c53 (by decide)
              · refine g_iconst hx dX4_frame_56 (nx := 57) rfl (v := 1) (by decide) ?_
                refine g_goto hx dX4_frame_57 (tg := 70) (by decide) ?_
                refine g_callV_M hx [_] (k' := 0) (n' := 0) dX4_frame_70 (nx := 73) rfl lk_X4_114 (hM.1 0 _ rfl) (by decide) rfl rfl (Nat.le_of_ble_eq_true rfl) (Nat.le_of_ble_eq_true rfl) (Nat.le_of_ble_eq_true rfl) (Nat.le_of_ble_eq_true rfl) (Nat.le_of_ble_eq_true rfl) (Nat.le_of_ble_eq_true rfl) (Nat.le_of_ble_eq_true rfl) (s_X4_can hst hM (fun z => absurd z (by decide)) (fun _ => ?_))
                refine g_if_ne hx dX4_frame_73 (tg := 78) (by decide) (nx := 76) rfl (fun c73 => ?_) (fun c73 => ?_)
                · exact absurd c73 (by decide)
                · refine g_iconst hx dX4_frame_76 (nx := 77) rfl (v := 0) (by decide) ?_
                  refine g_iret hx dX4_frame_77 rfl rfl (Nat.le_of_ble_eq_true rfl) (Nat.le_of_ble_eq_true rfl) ?_
                  first
                    | exact hf1 (fun z => qs z.1)
                    | exact hf1 (fun z => qj z.2)
                    | exact hf2 ⟨⟨k, hk9, rfl⟩, ⟨j, hj9, rfl⟩⟩ (fun z => qt z.1)
                    | exact hf2 ⟨⟨k, hk9, rfl⟩, ⟨j, hj9, rfl⟩⟩ (fun z => qu z.2)
                    | (rw [hc9, au2_n (by omega)]; exact hk k j t u hk9 hj9 ht9 hu9 rfl rfl rfl rfl)
            · exact absurd c40 (by decide)
      · refine g_if_eq hx dX4_frame_28 (tg := 47) (by decide) (nx := 31) rfl (fun c28 => ?_) (fun c28 => ?_)
        · refine g_iconst hx dX4_frame_47 (nx := 48) rfl (v := 0) (by decide) ?_
          refine g_istore_6 hx dX4_frame_48 (nx := 50) rfl (by decide) rfl ?_
          refine g_aloadG_n hx dX4_frame_50 rfl (nx := 51) rfl rfl ?_
          refine g_iloadG hx dX4_frame_51 (nx := 53) rfl rfl ?_
          refine g_if_ne hx dX4_frame_53 (tg := 60) (by decide) (nx := 56) rfl (fun c53 => ?_) (fun c53 => ?_)
          · exact absurd c53 (by decide)
          · refine g_iconst hx dX4_frame_56 (nx := 57) rfl (v := 1) (by decide) ?_
            refine g_goto hx dX4_frame_57 (tg := 70) (by decide) ?_
            refine g_callV_M hx [_] (k' := 0) (n' := 0) dX4_frame_70 (nx := 73) rfl lk_X4_114 (hM.1 0 _ rfl) (by decide) rfl rfl (Nat.le_of_ble_eq_true rfl) (Nat.le_of_ble_eq_true rfl) (Nat.le_of_ble_eq_true rfl) (Nat.le_of_ble_eq_true rfl) (Nat.le_of_ble_eq_true rfl) (Nat.le_of_ble_eq_true rfl) (Nat.le_of_ble_eq_true rfl) (s_X4_can hst hM (fun z => absurd z (by decide)) (fun _ => ?_))
            refine g_if_ne hx dX4_frame_73 (tg := 78) (by decide) (nx := 76) rfl (fun c73 => ?_) (fun c73 => ?_)
            · exact absurd c73 (by decide)
            · refine g_iconst hx dX4_frame_76 (nx := 77) rfl (v := 0) (by decide) ?_
              refine g_iret hx dX4_frame_77 rfl rfl (Nat.le_of_ble_eq_true rfl) (Nat.le_of_ble_eq_true rfl) ?_
              first
                | exact hf1 (fun z => qs z.1)
                | exact hf1 (fun z => qj z.2)
                | exact hf2 ⟨⟨k, hk9, rfl⟩, ⟨j, hj9, rfl⟩⟩ (fun z => qt z.1)
                | exact hf2 ⟨⟨k, hk9, rfl⟩, ⟨j, hj9, rfl⟩⟩ (fun z => qu z.2)
                | (rw [hc9, au2_n (by omega)]; exact hk k j t u hk9 hj9 ht9 hu9 rfl rfl rfl rfl)
        · exact absurd c28 (by decide)
    · exact absurd c5 (by decide)

abbrev rmX4_drop : Room := { frames := 2, cells := 0, slots := 0, locals := 43 }
set_option maxHeartbeats 4000000 in
set_option maxRecDepth 100000 in
theorem s_X4_drop {l : Launch} {E : aE} {S : aS} {I : aI} {L : aL} {Rf : aR} {Kr : aK} {Kx : aX} (hst : l.stackTraces = false) {n : Nat} {x y : Int32} (hM : lyM S Rf) (h4 : I 20 4 = nI n) (hn6 : n ≤ 6) (hf1 : ¬ inN x n → Kr (some (.int 0)) S (au2 I 20 31 1) L Rf) (hf2 : inN x n → ¬ inN y 256 → Kr (some (.int 0)) S (au2 I 20 31 2) L Rf) (hf3 : ∀ k t : Nat, k < n → t < 256 → x = nI k → y = nI t → I 31 (256 * k + t) = -1 → Kr (some (.int 0)) S (au2 I 20 31 3) L Rf) (hk : ∀ k t : Nat, k < n → t < 256 → x = nI k → y = nI t → I 31 (256 * k + t) ≠ -1 → Kr (some (.int (I 31 (256 * k + t)))) S (au2 (au2 I 20 31 0) 31 (256 * k + t) (-1)) L Rf) : aMet l E yX4_drop cX4_drop 5 (some .int) rmX4_drop [.ref 20, .int x, .int y] (S) (I) (L) (Rf) Kr Kx := by
  refine aMet.of (lv0 := [.ref 20, .int x, .int y, aU, aU]) (z := 2) (by decide +kernel) hst rfl (Nat.le_of_ble_eq_true rfl) ?_
  intro p e s m args below meth c io0 hx hin hno
  have hx : aCx p l s m args meth c RX4 cX4_drop 5 (some .int) E := hx
  refine g_iloadG_n hx dX4_drop_0 rfl (nx := 1) rfl rfl ?_
  refine g_callS_M hx [_] (k' := 0) (n' := 0) dX4_drop_1 (nx := 4) rfl lk_X4_126 rfl (Nat.le_of_ble_eq_true rfl) (Nat.le_of_ble_eq_true rfl) (Nat.le_of_ble_eq_true rfl) (Nat.le_of_ble_eq_true rfl) (Nat.le_of_ble_eq_true rfl) (Nat.le_of_ble_eq_true rfl) (Nat.le_of_ble_eq_true rfl) (s_X4_isTime hst (fun t ht9 et => ?_) (fun qt => ?_))
  · subst et
    refine g_istore_3 hx dX4_drop_4 (nx := 5) rfl (by decide) rfl ?_
    refine g_aloadG_n hx dX4_drop_5 rfl (nx := 6) rfl rfl ?_
    refine g_aloadG_n hx dX4_drop_6 rfl (nx := 7) rfl rfl ?_
    refine g_iloadG_n hx dX4_drop_7 rfl (nx := 8) rfl rfl ?_
    refine g_callV_M hx [_] (k' := 0) (n' := 0) dX4_drop_8 (nx := 11) rfl lk_X4_119 (hM.1 0 _ rfl) (by decide) rfl rfl (Nat.le_of_ble_eq_true rfl) (Nat.le_of_ble_eq_true rfl) (Nat.le_of_ble_eq_true rfl) (Nat.le_of_ble_eq_true rfl) (Nat.le_of_ble_eq_true rfl) (Nat.le_of_ble_eq_true rfl) (Nat.le_of_ble_eq_true rfl) (s_X4_isStar (n := n) hst hM h4 (by omega) (fun k hk9 ek => ?_) (fun qs => ?_))
    · subst ek
      have hkc : (nI k).toNatClampNeg = k := nI_clamp (by omega)
      have hin6 : vp_in (nI k) 6 := vp_in_nI (by omega) (by decide)
      refine g_if_ne hx dX4_drop_11 (tg := 18) (by decide) (nx := 14) rfl (fun c11 => ?_) (fun c11 => ?_)
      · refine g_iloadG_n hx dX4_drop_18 rfl (nx := 19) rfl rfl ?_
        refine g_if_ne hx dX4_drop_19 (tg := 26) (by decide) (nx := 22) rfl (fun c19 => ?_) (fun c19 => ?_)
        · have e9 := ix256 k t
          have hin9 : vp_in (256 * nI k + nI t) 1536 := by rw [e9]; exact vp_in_nI (by omega) (by decide)
          have hc9 : (256 * nI k + nI t).toNatClampNeg = 256 * k + t := by rw [e9]; exact nI_clamp (by omega)
          refine g_aloadG_n hx dX4_drop_26 rfl (nx := 27) rfl rfl ?_
          refine g_getfo_R hx dX4_drop_27 (nx := 30) rfl fa_X4_37 rfl (r9 := 31) (hM.2 11 rfl) (hM.1 0 _ rfl) (by decide) ?_
          refine g_sipush hx dX4_drop_30 (nx := 33) rfl (v := 256) (by decide) ?_
          refine g_iloadG_n hx dX4_drop_33 rfl (nx := 34) rfl rfl ?_
          refine g_imul hx dX4_drop_34 (nx := 35) rfl ?_
          refine g_iloadG_n hx dX4_drop_35 rfl (nx := 36) rfl rfl ?_
          refine g_iadd hx dX4_drop_36 (nx := 37) rfl ?_
          refine g_iaload hx dX4_drop_37 (nx := 38) rfl (hM.1 11 _ rfl) (by decide) hin9 ?_
          refine g_iconst hx dX4_drop_38 (nx := 39) rfl (v := (-1)) (by decide) ?_
          refine g_icmp_ne hx dX4_drop_39 (tg := 46) (by decide) (nx := 42) rfl (fun c39 => ?_) (fun c39 => ?_)
          · refine g_iconst hx dX4_drop_46 (nx := 47) rfl (v := 0) (by decide) ?_
            refine g_callV_M hx [_] (k' := 0) (n' := 0) dX4_drop_47 (nx := 50) rfl lk_X4_114 (hM.1 0 _ rfl) (by decide) rfl rfl (Nat.le_of_ble_eq_true rfl) (Nat.le_of_ble_eq_true rfl) (Nat.le_of_ble_eq_true rfl) (Nat.le_of_ble_eq_true rfl) (Nat.le_of_ble_eq_true rfl) (Nat.le_of_ble_eq_true rfl) (Nat.le_of_ble_eq_true rfl) (s_X4_can hst hM (fun _ => ?_) (fun z => absurd rfl z))
            refine g_if_ne hx dX4_drop_50 (tg := 55) (by decide) (nx := 53) rfl (fun c50 => ?_) (fun c50 => ?_)
            · refine g_aloadG_n hx dX4_drop_55 rfl (nx := 56) rfl rfl ?_
              refine g_getfo_R hx dX4_drop_56 (nx := 59) rfl fa_X4_37 rfl (r9 := 31) (hM.2 11 rfl) (hM.1 0 _ rfl) (by decide) ?_
              refine g_sipush hx dX4_drop_59 (nx := 62) rfl (v := 256) (by decide) ?_
              refine g_iloadG_n hx dX4_drop_62 rfl (nx := 63) rfl rfl ?_
              refine g_imul hx dX4_drop_63 (nx := 64) rfl ?_
              refine g_iloadG_n hx dX4_drop_64 rfl (nx := 65) rfl rfl ?_
              refine g_iadd hx dX4_drop_65 (nx := 66) rfl ?_
              refine g_iaload hx dX4_drop_66 (nx := 67) rfl (hM.1 11 _ rfl) (by decide) hin9 ?_
              refine g_istore_4 hx dX4_drop_67 (nx := 69) rfl (by decide) rfl ?_
              refine g_aloadG_n hx dX4_drop_69 rfl (nx := 70) rfl rfl ?_
              refine g_getfo_R hx dX4_drop_70 (nx := 73) rfl fa_X4_37 rfl (r9 := 31) (hM.2 11 rfl) (hM.1 0 _ rfl) (by decide) ?_
              refine g_sipush hx dX4_drop_73 (nx := 76) rfl (v := 256) (by decide) ?_
              refine g_iloadG_n hx dX4_drop_76 rfl (nx := 77) rfl rfl ?_
              refine g_imul hx dX4_drop_77 (nx := 78) rfl ?_
              refine g_iloadG_n hx dX4_drop_78 rfl (nx := 79) rfl rfl ?_
              refine g_iadd hx dX4_drop_79 (nx := 80) rfl ?_
              refine g_iconst hx dX4_drop_80 (nx := 81) rfl (v := (-1)) (by decide) ?_
              refine g_iastore hx dX4_drop_81 (nx := 82) rfl (hM.1 11 _ rfl) (by decide) hin9 ?_
              refine g_iloadG hx dX4_drop_82 (nx := 84) rfl rfl ?_
              refine g_iret hx dX4_drop_84 rfl rfl (Nat.le_of_ble_eq_true rfl) (Nat.le_of_ble_eq_true rfl) ?_
              first
                | exact hf1 qs
                | exact hf2 ⟨k, hk9, rfl⟩ qt
                | (rw [hc9] at c39; exact hf3 k t hk9 ht9 rfl rfl c39)
                | (rw [hc9] at c39; rw [hc9, au2_n (by omega)]; exact hk k t hk9 ht9 rfl rfl c39)
            · exact absurd c50 (by decide)
          · refine g_iconst hx dX4_drop_42 (nx := 43) rfl (v := 3) (by decide) ?_
            refine g_goto hx dX4_drop_43 (tg := 47) (by decide) ?_
            refine g_callV_M hx [_] (k' := 0) (n' := 0) dX4_drop_47 (nx := 50) rfl lk_X4_114 (hM.1 0 _ rfl) (by decide) rfl rfl (Nat.le_of_ble_eq_true rfl) (Nat.le_of_ble_eq_true rfl) (Nat.le_of_ble_eq_true rfl) (Nat.le_of_ble_eq_true rfl) (Nat.le_of_ble_eq_true rfl) (Nat.le_of_ble_eq_true rfl) (Nat.le_of_ble_eq_true rfl) (s_X4_can hst hM (fun z => absurd z (by decide)) (fun _ => ?_))
            refine g_if_ne hx dX4_drop_50 (tg := 55) (by decide) (nx := 53) rfl (fun c50 => ?_) (fun c50 => ?_)
            · exact absurd c50 (by decide)
            · refine g_iconst hx dX4_drop_53 (nx := 54) rfl (v := 0) (by decide) ?_
              refine g_iret hx dX4_drop_54 rfl rfl (Nat.le_of_ble_eq_true rfl) (Nat.le_of_ble_eq_true rfl) ?_
              first
                | exact hf1 qs
                | exact hf2 ⟨k, hk9, rfl⟩ qt
                | (rw [hc9] at c39; exact hf3 k t hk9 ht9 rfl rfl c39)
                | (rw [hc9] at c39; rw [hc9, au2_n (by omega)]; exact hk k t hk9 ht9 rfl rfl c39)
        · exact absurd c19 (by decide)
      · exact absurd c11 (by decide)
    · refine g_if_ne hx dX4_drop_11 (tg := 18) (by decide) (nx := 14) rfl (fun c11 => ?_) (fun c11 => ?_)
      · exact absurd c11 (by decide)
      · refine g_iconst hx dX4_drop_14 (nx := 15) rfl (v := 1) (by decide) ?_
        refine g_goto hx dX4_drop_15 (tg := 47) (by decide) ?_
        refine g_callV_M hx [_] (k' := 0) (n' := 0) dX4_drop_47 (nx := 50) rfl lk_X4_114 (hM.1 0 _ rfl) (by decide) rfl rfl (Nat.le_of_ble_eq_true rfl) (Nat.le_of_ble_eq_true rfl) (Nat.le_of_ble_eq_true rfl) (Nat.le_of_ble_eq_true rfl) (Nat.le_of_ble_eq_true rfl) (Nat.le_of_ble_eq_true rfl) (Nat.le_of_ble_eq_true rfl) (s_X4_can hst hM (fun z => absurd z (by decide)) (fun _ => ?_))
        refine g_if_ne hx dX4_drop_50 (tg := 55) (by decide) (nx := 53) rfl (fun c50 => ?_) (fun c50 => ?_)
        · exact absurd c50 (by decide)
        · refine g_iconst hx dX4_drop_53 (nx := 54) rfl (v := 0) (by decide) ?_
          refine g_iret hx dX4_drop_54 rfl rfl (Nat.le_of_ble_eq_true rfl) (Nat.le_of_ble_eq_true rfl) ?_
          first
            | exact hf1 qs
            | exact hf2 ⟨k, hk9, rfl⟩ qt
            | (rw [hc9] at c39; exact hf3 k t hk9 ht9 rfl rfl c39)
            | (rw [hc9] at c39; rw [hc9, au2_n (by omega)]; exact hk k t hk9 ht9 rfl rfl c39)
  · refine g_istore_3 hx dX4_drop_4 (nx := 5) rfl (by decide) rfl ?_
    refine g_aloadG_n hx dX4_drop_5 rfl (nx := 6) rfl rfl ?_
    refine g_aloadG_n hx dX4_drop_6 rfl (nx := 7) rfl rfl ?_
    refine g_iloadG_n hx dX4_drop_7 rfl (nx := 8) rfl rfl ?_
    refine g_callV_M hx [_] (k' := 0) (n' := 0) dX4_drop_8 (nx := 11) rfl lk_X4_119 (hM.1 0 _ rfl) (by decide) rfl rfl (Nat.le_of_ble_eq_true rfl) (Nat.le_of_ble_eq_true rfl) (Nat.le_of_ble_eq_true rfl) (Nat.le_of_ble_eq_true rfl) (Nat.le_of_ble_eq_true rfl) (Nat.le_of_ble_eq_true rfl) (Nat.le_of_ble_eq_true rfl) (s_X4_isStar (n := n) hst hM h4 (by omega) (fun k hk9 ek => ?_) (fun qs => ?_))
    · subst ek
      have hkc : (nI k).toNatClampNeg = k := nI_clamp (by omega)
      have hin6 : vp_in (nI k) 6 := vp_in_nI (by omega) (by decide)
      refine g_if_ne hx dX4_drop_11 (tg := 18) (by decide) (nx := 14) rfl (fun c11 => ?_) (fun c11 => ?_)
      · refine g_iloadG_n hx dX4_drop_18 rfl (nx := 19) rfl rfl ?_
        refine g_if_ne hx dX4_drop_19 (tg := 26) (by decide) (nx := 22) rfl (fun c19 => ?_) (fun c19 => ?_)
        · exact absurd c19 (by decide)
        · refine g_iconst hx dX4_drop_22 (nx := 23) rfl (v := 2) (by decide) ?_
          refine g_goto hx dX4_drop_23 (tg := 47) (by decide) ?_
          refine g_callV_M hx [_] (k' := 0) (n' := 0) dX4_drop_47 (nx := 50) rfl lk_X4_114 (hM.1 0 _ rfl) (by decide) rfl rfl (Nat.le_of_ble_eq_true rfl) (Nat.le_of_ble_eq_true rfl) (Nat.le_of_ble_eq_true rfl) (Nat.le_of_ble_eq_true rfl) (Nat.le_of_ble_eq_true rfl) (Nat.le_of_ble_eq_true rfl) (Nat.le_of_ble_eq_true rfl) (s_X4_can hst hM (fun z => absurd z (by decide)) (fun _ => ?_))
          refine g_if_ne hx dX4_drop_50 (tg := 55) (by decide) (nx := 53) rfl (fun c50 => ?_) (fun c50 => ?_)
          · exact absurd c50 (by decide)
          · refine g_iconst hx dX4_drop_53 (nx := 54) rfl (v := 0) (by decide) ?_
            refine g_iret hx dX4_drop_54 rfl rfl (Nat.le_of_ble_eq_true rfl) (Nat.le_of_ble_eq_true rfl) ?_
            first
              | exact hf1 qs
              | exact hf2 ⟨k, hk9, rfl⟩ qt
              | (rw [hc9] at c39; exact hf3 k t hk9 ht9 rfl rfl c39)
              | (rw [hc9] at c39; rw [hc9, au2_n (by omega)]; exact hk k t hk9 ht9 rfl rfl c39)
      · exact absurd c11 (by decide)
    · refine g_if_ne hx dX4_drop_11 (tg := 18) (by decide) (nx := 14) rfl (fun c11 => ?_) (fun c11 => ?_)
      · exact absurd c11 (by decide)
      · refine g_iconst hx dX4_drop_14 (nx := 15) rfl (v := 1) (by decide) ?_
        refine g_goto hx dX4_drop_15 (tg := 47) (by decide) ?_
        refine g_callV_M hx [_] (k' := 0) (n' := 0) dX4_drop_47 (nx := 50) rfl lk_X4_114 (hM.1 0 _ rfl) (by decide) rfl rfl (Nat.le_of_ble_eq_true rfl) (Nat.le_of_ble_eq_true rfl) (Nat.le_of_ble_eq_true rfl) (Nat.le_of_ble_eq_true rfl) (Nat.le_of_ble_eq_true rfl) (Nat.le_of_ble_eq_true rfl) (Nat.le_of_ble_eq_true rfl) (s_X4_can hst hM (fun z => absurd z (by decide)) (fun _ => ?_))
        refine g_if_ne hx dX4_drop_50 (tg := 55) (by decide) (nx := 53) rfl (fun c50 => ?_) (fun c50 => ?_)
        · exact absurd c50 (by decide)
        · refine g_iconst hx dX4_drop_53 (nx := 54) rfl (v := 0) (by decide) ?_
          refine g_iret hx dX4_drop_54 rfl rfl (Nat.le_of_ble_eq_true rfl) (Nat.le_of_ble_eq_true rfl) ?_
          first
            | exact hf1 qs
            | exact hf2 ⟨k, hk9, rfl⟩ qt
            | (rw [hc9] at c39; exact hf3 k t hk9 ht9 rfl rfl c39)
            | (rw [hc9] at c39; rw [hc9, au2_n (by omega)]; exact hk k t hk9 ht9 rfl rfl c39)

abbrev rmX4_mask : Room := { frames := 1, cells := 0, slots := 0, locals := 22 }
set_option maxHeartbeats 4000000 in
set_option maxRecDepth 100000 in
theorem s_X4_mask {l : Launch} {E : aE} {S : aS} {I : aI} {L : aL} {Rf : aR} {Kr : aK} {Kx : aX} (hst : l.stackTraces = false) {x y : Int32} (hM : lyM S Rf) (hy : narrow .boolean (.int y) = .int y) (hm : ∀ j, j < 4 → narrow .boolean (.int (I 33 j)) = .int (I 33 j)) (hf1 : ¬ inN x 4 → Kr (some (.int 0)) S (au2 I 20 31 1) L Rf) (hk : ∀ j, j < 4 → x = nI j → Kr (some (.int (I 33 j))) S (au2 (au2 I 20 31 0) 33 j y) L Rf) : aMet l E yX4_mask cX4_mask 4 (some .boolean) rmX4_mask [.ref 20, .int x, .int y] (S) (I) (L) (Rf) Kr Kx := by
  refine aMet.of (lv0 := [.ref 20, .int x, .int y, aU]) (z := 1) (by decide +kernel) hst rfl (Nat.le_of_ble_eq_true rfl) ?_
  intro p e s m args below meth c io0 hx hin hno
  have hx : aCx p l s m args meth c RX4 cX4_mask 4 (some .boolean) E := hx
  refine g_aloadG_n hx dX4_mask_0 rfl (nx := 1) rfl rfl ?_
  refine g_iloadG_n hx dX4_mask_1 rfl (nx := 2) rfl rfl ?_
  refine g_iconst hx dX4_mask_2 (nx := 3) rfl (v := 0) (by decide) ?_
  refine g_iconst hx dX4_mask_3 (nx := 4) rfl (v := 3) (by decide) ?_
  refine g_callS_M hx [_, _, _] (k' := 0) (n' := 0) dX4_mask_4 (nx := 7) rfl lk_X4_104 rfl (Nat.le_of_ble_eq_true rfl) (Nat.le_of_ble_eq_true rfl) (Nat.le_of_ble_eq_true rfl) (Nat.le_of_ble_eq_true rfl) (Nat.le_of_ble_eq_true rfl) (Nat.le_of_ble_eq_true rfl) (Nat.le_of_ble_eq_true rfl) (s_X4_isInN hst 0 3 (by decide) (by decide) (fun q2 => ?_) (fun q2 => ?_))
  · obtain ⟨j, hj9, rfl⟩ := rgN_in.mp q2
    have hjc : (nI j).toNatClampNeg = j := nI_clamp (by omega)
    have hin9 : vp_in (nI j) 4 := vp_in_nI (by omega) (by decide)
    refine g_if_eq hx dX4_mask_7 (tg := 14) (by decide) (nx := 10) rfl (fun c7 => ?_) (fun c7 => ?_)
    · exact absurd c7 (by decide)
    · refine g_iconst hx dX4_mask_10 (nx := 11) rfl (v := 0) (by decide) ?_
      refine g_goto hx dX4_mask_11 (tg := 15) (by decide) ?_
      refine g_callV_M hx [_] (k' := 0) (n' := 0) dX4_mask_15 (nx := 18) rfl lk_X4_114 (hM.1 0 _ rfl) (by decide) rfl rfl (Nat.le_of_ble_eq_true rfl) (Nat.le_of_ble_eq_true rfl) (Nat.le_of_ble_eq_true rfl) (Nat.le_of_ble_eq_true rfl) (Nat.le_of_ble_eq_true rfl) (Nat.le_of_ble_eq_true rfl) (Nat.le_of_ble_eq_true rfl) (s_X4_can hst hM (fun _ => ?_) (fun z => absurd rfl z))
      refine g_if_ne hx dX4_mask_18 (tg := 23) (by decide) (nx := 21) rfl (fun c18 => ?_) (fun c18 => ?_)
      · refine g_aloadG_n hx dX4_mask_23 rfl (nx := 24) rfl rfl ?_
        refine g_getfo_R hx dX4_mask_24 (nx := 27) rfl fa_X4_43 rfl (r9 := 33) (hM.2 13 rfl) (hM.1 0 _ rfl) (by decide) ?_
        refine g_iloadG_n hx dX4_mask_27 rfl (nx := 28) rfl rfl ?_
        refine g_baload hx dX4_mask_28 (nx := 29) rfl (hM.1 13 _ rfl) (by decide) hin9 ?_
        refine g_istore_3 hx dX4_mask_29 (nx := 30) rfl (by decide) rfl ?_
        refine g_aloadG_n hx dX4_mask_30 rfl (nx := 31) rfl rfl ?_
        refine g_getfo_R hx dX4_mask_31 (nx := 34) rfl fa_X4_43 rfl (r9 := 33) (hM.2 13 rfl) (hM.1 0 _ rfl) (by decide) ?_
        refine g_iloadG_n hx dX4_mask_34 rfl (nx := 35) rfl rfl ?_
        refine g_iloadG_n hx dX4_mask_35 rfl (nx := 36) rfl rfl ?_
        refine g_bastore hx dX4_mask_36 (nx := 37) rfl (hM.1 13 _ rfl) (by decide) hin9 hy ?_
        refine g_iloadG_n hx dX4_mask_37 rfl (nx := 38) rfl rfl ?_
        refine g_iret hx dX4_mask_38 rfl (by rw [hjc, au2_n (by omega)]; exact hm j hj9) (Nat.le_of_ble_eq_true rfl) (Nat.le_of_ble_eq_true rfl) ?_
        first | exact hf1 qj | (rw [hjc, au2_n (by omega)]; exact hk j hj9 rfl)
      · exact absurd c18 (by decide)
  · have qj : ¬ inN x 4 := fun z => q2 (rgN_in.mpr z)
    refine g_if_eq hx dX4_mask_7 (tg := 14) (by decide) (nx := 10) rfl (fun c7 => ?_) (fun c7 => ?_)
    · refine g_iconst hx dX4_mask_14 (nx := 15) rfl (v := 1) (by decide) ?_
      refine g_callV_M hx [_] (k' := 0) (n' := 0) dX4_mask_15 (nx := 18) rfl lk_X4_114 (hM.1 0 _ rfl) (by decide) rfl rfl (Nat.le_of_ble_eq_true rfl) (Nat.le_of_ble_eq_true rfl) (Nat.le_of_ble_eq_true rfl) (Nat.le_of_ble_eq_true rfl) (Nat.le_of_ble_eq_true rfl) (Nat.le_of_ble_eq_true rfl) (Nat.le_of_ble_eq_true rfl) (s_X4_can hst hM (fun z => absurd z (by decide)) (fun _ => ?_))
      refine g_if_ne hx dX4_mask_18 (tg := 23) (by decide) (nx := 21) rfl (fun c18 => ?_) (fun c18 => ?_)
      · exact absurd c18 (by decide)
      · refine g_iconst hx dX4_mask_21 (nx := 22) rfl (v := 0) (by decide) ?_
        refine g_iret hx dX4_mask_22 rfl rfl (Nat.le_of_ble_eq_true rfl) (Nat.le_of_ble_eq_true rfl) ?_
        first | exact hf1 qj | (rw [hjc, au2_n (by omega)]; exact hk j hj9 rfl)
    · exact absurd c7 (by decide)

abbrev rmX4_threshold : Room := { frames := 1, cells := 0, slots := 0, locals := 22 }
set_option maxHeartbeats 4000000 in
set_option maxRecDepth 100000 in
theorem s_X4_threshold {l : Launch} {E : aE} {S : aS} {I : aI} {L : aL} {Rf : aR} {Kr : aK} {Kx : aX} (hst : l.stackTraces = false) {x : Int32} (hM : lyM S Rf) (hf1 : ¬ rgN x 1 1000000000 → Kr (some (.int 0)) S (au2 I 20 31 1) L Rf) (hk : rgN x 1 1000000000 → Kr (some (.int (I 20 14))) S (au2 (au2 I 20 31 0) 20 14 x) L Rf) : aMet l E yX4_threshold cX4_threshold 3 (some .int) rmX4_threshold [.ref 20, .int x] (S) (I) (L) (Rf) Kr Kx := by
  refine aMet.of (lv0 := [.ref 20, .int x, aU]) (z := 1) (by decide +kernel) hst rfl (Nat.le_of_ble_eq_true rfl) ?_
  intro p e s m args below meth c io0 hx hin hno
  have hx : aCx p l s m args meth c RX4 cX4_threshold 3 (some .int) E := hx
  refine g_aloadG_n hx dX4_threshold_0 rfl (nx := 1) rfl rfl ?_
  refine g_iloadG_n hx dX4_threshold_1 rfl (nx := 2) rfl rfl ?_
  refine g_iconst hx dX4_threshold_2 (nx := 3) rfl (v := 1) (by decide) ?_
  refine g_ldc hx dX4_threshold_3 (nx := 5) rfl kc_X4_129 ?_
  refine g_callS_M hx [_, _, _] (k' := 0) (n' := 0) dX4_threshold_5 (nx := 8) rfl lk_X4_104 rfl (Nat.le_of_ble_eq_true rfl) (Nat.le_of_ble_eq_true rfl) (Nat.le_of_ble_eq_true rfl) (Nat.le_of_ble_eq_true rfl) (Nat.le_of_ble_eq_true rfl) (Nat.le_of_ble_eq_true rfl) (Nat.le_of_ble_eq_true rfl) (s_X4_isInN hst 1 1000000000 (by decide) (by decide) (fun q2 => ?_) (fun q2 => ?_))
  · refine g_if_eq hx dX4_threshold_8 (tg := 15) (by decide) (nx := 11) rfl (fun c8 => ?_) (fun c8 => ?_)
    · exact absurd c8 (by decide)
    · refine g_iconst hx dX4_threshold_11 (nx := 12) rfl (v := 0) (by decide) ?_
      refine g_goto hx dX4_threshold_12 (tg := 16) (by decide) ?_
      refine g_callV_M hx [_] (k' := 0) (n' := 0) dX4_threshold_16 (nx := 19) rfl lk_X4_114 (hM.1 0 _ rfl) (by decide) rfl rfl (Nat.le_of_ble_eq_true rfl) (Nat.le_of_ble_eq_true rfl) (Nat.le_of_ble_eq_true rfl) (Nat.le_of_ble_eq_true rfl) (Nat.le_of_ble_eq_true rfl) (Nat.le_of_ble_eq_true rfl) (Nat.le_of_ble_eq_true rfl) (s_X4_can hst hM (fun _ => ?_) (fun z => absurd rfl z))
      refine g_if_ne hx dX4_threshold_19 (tg := 24) (by decide) (nx := 22) rfl (fun c19 => ?_) (fun c19 => ?_)
      · refine g_aloadG_n hx dX4_threshold_24 rfl (nx := 25) rfl rfl ?_
        refine g_getfo_i hx dX4_threshold_25 (nx := 28) rfl fa_X4_47 rfl (hM.1 0 _ rfl) (by decide) ?_
        refine g_istore_2 hx dX4_threshold_28 (nx := 29) rfl (by decide) rfl ?_
        refine g_aloadG_n hx dX4_threshold_29 rfl (nx := 30) rfl rfl ?_
        refine g_iloadG_n hx dX4_threshold_30 rfl (nx := 31) rfl rfl ?_
        refine g_putfo_i hx dX4_threshold_31 (nx := 34) rfl fa_X4_47 rfl rfl rfl (fun r h => by cases h; rfl) (hM.1 0 _ rfl) (by decide) ?_
        refine g_iloadG_n hx dX4_threshold_34 rfl (nx := 35) rfl rfl ?_
        refine g_iret hx dX4_threshold_35 rfl rfl (Nat.le_of_ble_eq_true rfl) (Nat.le_of_ble_eq_true rfl) ?_
        first | exact hf1 q2 | (rw [au2_n (by omega)]; exact hk q2)
      · exact absurd c19 (by decide)
  · refine g_if_eq hx dX4_threshold_8 (tg := 15) (by decide) (nx := 11) rfl (fun c8 => ?_) (fun c8 => ?_)
    · refine g_iconst hx dX4_threshold_15 (nx := 16) rfl (v := 1) (by decide) ?_
      refine g_callV_M hx [_] (k' := 0) (n' := 0) dX4_threshold_16 (nx := 19) rfl lk_X4_114 (hM.1 0 _ rfl) (by decide) rfl rfl (Nat.le_of_ble_eq_true rfl) (Nat.le_of_ble_eq_true rfl) (Nat.le_of_ble_eq_true rfl) (Nat.le_of_ble_eq_true rfl) (Nat.le_of_ble_eq_true rfl) (Nat.le_of_ble_eq_true rfl) (Nat.le_of_ble_eq_true rfl) (s_X4_can hst hM (fun z => absurd z (by decide)) (fun _ => ?_))
      refine g_if_ne hx dX4_threshold_19 (tg := 24) (by decide) (nx := 22) rfl (fun c19 => ?_) (fun c19 => ?_)
      · exact absurd c19 (by decide)
      · refine g_iconst hx dX4_threshold_22 (nx := 23) rfl (v := 0) (by decide) ?_
        refine g_iret hx dX4_threshold_23 rfl rfl (Nat.le_of_ble_eq_true rfl) (Nat.le_of_ble_eq_true rfl) ?_
        first | exact hf1 q2 | (rw [au2_n (by omega)]; exact hk q2)
    · exact absurd c8 (by decide)

abbrev rmX4_takeOut : Room := { frames := 2, cells := 0, slots := 0, locals := 43 }
set_option maxHeartbeats 4000000 in
set_option maxRecDepth 100000 in
theorem s_X4_takeOut {l : Launch} {E : aE} {S : aS} {I : aI} {L : aL} {Rf : aR} {Kr : aK} {Kx : aX} (hst : l.stackTraces = false) {n : Nat} {oo : Nat → Nat} {x y : Int32} (hM : lyM S Rf) (h4 : I 20 4 = nI n) (hn6 : n ≤ 6) (hf1 : ¬ inN x n → Kr (some (.int 0)) S (au2 I 20 31 1) L Rf) (hoo : ∀ k, k < n → I 35 k = nI (oo k) ∧ oo k ≤ 6) (hf2 : inN x n → ¬ rgN y 1 31 → Kr (some (.int 0)) S (au2 I 20 31 2) L Rf) (hf3 : ∀ k, k < n → x = nI k → rgN y 1 31 → oo k = 6 → Kr (some (.int 0)) S (au2 I 20 31 3) L Rf) (hk : ∀ k, k < n → x = nI k → rgN y 1 31 → oo k < 6 → Kr (some (.int (nI (oo k + 1)))) S (au2 (au2 (au2 I 20 31 0) 36 (6 * k + oo k) y) 35 k (nI (oo k + 1))) L Rf) : aMet l E yX4_takeOut cX4_takeOut 4 (some .int) rmX4_takeOut [.ref 20, .int x, .int y] (S) (I) (L) (Rf) Kr Kx := by
  refine aMet.of (lv0 := [.ref 20, .int x, .int y, aU]) (z := 1) (by decide +kernel) hst rfl (Nat.le_of_ble_eq_true rfl) ?_
  intro p e s m args below meth c io0 hx hin hno
  have hx : aCx p l s m args meth c RX4 cX4_takeOut 4 (some .int) E := hx
  refine g_iloadG_n hx dX4_takeOut_0 rfl (nx := 1) rfl rfl ?_
  refine g_iconst hx dX4_takeOut_1 (nx := 2) rfl (v := 1) (by decide) ?_
  refine g_bipush hx dX4_takeOut_2 (nx := 4) rfl (v := 31) (by decide) ?_
  refine g_callS_M hx [_, _, _] (k' := 0) (n' := 0) dX4_takeOut_4 (nx := 7) rfl lk_X4_104 rfl (Nat.le_of_ble_eq_true rfl) (Nat.le_of_ble_eq_true rfl) (Nat.le_of_ble_eq_true rfl) (Nat.le_of_ble_eq_true rfl) (Nat.le_of_ble_eq_true rfl) (Nat.le_of_ble_eq_true rfl) (Nat.le_of_ble_eq_true rfl) (s_X4_isInN hst 1 31 (by decide) (by decide) (fun q2 => ?_) (fun q2 => ?_))
  · refine g_istore_3 hx dX4_takeOut_7 (nx := 8) rfl (by decide) rfl ?_
    refine g_aloadG_n hx dX4_takeOut_8 rfl (nx := 9) rfl rfl ?_
    refine g_aloadG_n hx dX4_takeOut_9 rfl (nx := 10) rfl rfl ?_
    refine g_iloadG_n hx dX4_takeOut_10 rfl (nx := 11) rfl rfl ?_
    refine g_callV_M hx [_] (k' := 0) (n' := 0) dX4_takeOut_11 (nx := 14) rfl lk_X4_119 (hM.1 0 _ rfl) (by decide) rfl rfl (Nat.le_of_ble_eq_true rfl) (Nat.le_of_ble_eq_true rfl) (Nat.le_of_ble_eq_true rfl) (Nat.le_of_ble_eq_true rfl) (Nat.le_of_ble_eq_true rfl) (Nat.le_of_ble_eq_true rfl) (Nat.le_of_ble_eq_true rfl) (s_X4_isStar (n := n) hst hM h4 (by omega) (fun k hk9 ek => ?_) (fun qs => ?_))
    · subst ek
      have hkc : (nI k).toNatClampNeg = k := nI_clamp (by omega)
      have hin6 : vp_in (nI k) 6 := vp_in_nI (by omega) (by decide)
      refine g_if_ne hx dX4_takeOut_14 (tg := 21) (by decide) (nx := 17) rfl (fun c14 => ?_) (fun c14 => ?_)
      · refine g_iloadG_n hx dX4_takeOut_21 rfl (nx := 22) rfl rfl ?_
        refine g_if_ne hx dX4_takeOut_22 (tg := 29) (by decide) (nx := 25) rfl (fun c22 => ?_) (fun c22 => ?_)
        · obtain ⟨ho, ho6⟩ := hoo k hk9
          refine g_aloadG_n hx dX4_takeOut_29 rfl (nx := 30) rfl rfl ?_
          refine g_getfo_R hx dX4_takeOut_30 (nx := 33) rfl fa_X4_51 rfl (r9 := 35) (hM.2 15 rfl) (hM.1 0 _ rfl) (by decide) ?_
          refine g_iloadG_n hx dX4_takeOut_33 rfl (nx := 34) rfl rfl ?_
          refine g_iaload hx dX4_takeOut_34 (nx := 35) rfl (hM.1 15 _ rfl) (by decide) hin6 ?_
          refine g_bipush hx dX4_takeOut_35 (nx := 37) rfl (v := 6) (by decide) ?_
          refine g_icmp_ne hx dX4_takeOut_37 (tg := 44) (by decide) (nx := 40) rfl (fun c37 => ?_) (fun c37 => ?_)
          · refine g_iconst hx dX4_takeOut_44 (nx := 45) rfl (v := 0) (by decide) ?_
            refine g_callV_M hx [_] (k' := 0) (n' := 0) dX4_takeOut_45 (nx := 48) rfl lk_X4_114 (hM.1 0 _ rfl) (by decide) rfl rfl (Nat.le_of_ble_eq_true rfl) (Nat.le_of_ble_eq_true rfl) (Nat.le_of_ble_eq_true rfl) (Nat.le_of_ble_eq_true rfl) (Nat.le_of_ble_eq_true rfl) (Nat.le_of_ble_eq_true rfl) (Nat.le_of_ble_eq_true rfl) (s_X4_can hst hM (fun _ => ?_) (fun z => absurd rfl z))
            refine g_if_ne hx dX4_takeOut_48 (tg := 53) (by decide) (nx := 51) rfl (fun c48 => ?_) (fun c48 => ?_)
            · rw [hkc] at c37
              have hlt : oo k < 6 := Nat.lt_of_le_of_ne ho6 (fun z => c37 (by rw [ho, z]; rfl))
              have e9 := ix6 k (oo k)
              have hin9 : vp_in (nI (6 * k + oo k)) 36 := vp_in_nI (by omega) (by decide)
              have hc9 : (nI (6 * k + oo k)).toNatClampNeg = 6 * k + oo k := nI_clamp (by omega)
              refine g_aloadG_n hx dX4_takeOut_53 rfl (nx := 54) rfl rfl ?_
              refine g_getfo_R hx dX4_takeOut_54 (nx := 57) rfl fa_X4_54 rfl (r9 := 36) (hM.2 16 rfl) (hM.1 0 _ rfl) (by decide) ?_
              refine g_bipush hx dX4_takeOut_57 (nx := 59) rfl (v := 6) (by decide) ?_
              refine g_iloadG_n hx dX4_takeOut_59 rfl (nx := 60) rfl rfl ?_
              refine g_imul hx dX4_takeOut_60 (nx := 61) rfl ?_
              refine g_aloadG_n hx dX4_takeOut_61 rfl (nx := 62) rfl rfl ?_
              refine g_getfo_R hx dX4_takeOut_62 (nx := 65) rfl fa_X4_51 rfl (r9 := 35) (hM.2 15 rfl) (hM.1 0 _ rfl) (by decide) ?_
              refine g_iloadG_n hx dX4_takeOut_65 rfl (nx := 66) rfl rfl ?_
              refine g_iaload hx dX4_takeOut_66 (nx := 67) rfl (hM.1 15 _ rfl) (by decide) hin6 ?_
              refine g_iadd hx dX4_takeOut_67 (nx := 68) rfl ?_
              refine g_iloadG_n hx dX4_takeOut_68 rfl (nx := 69) rfl rfl ?_
              refine g_iastore hx dX4_takeOut_69 (nx := 70) rfl (hM.1 16 _ rfl) (by decide) (by rw [hkc, au2_n (by omega), ho, e9]; exact hin9) ?_
              refine g_aloadG_n hx dX4_takeOut_70 rfl (nx := 71) rfl rfl ?_
              refine g_getfo_R hx dX4_takeOut_71 (nx := 74) rfl fa_X4_51 rfl (r9 := 35) (hM.2 15 rfl) (hM.1 0 _ rfl) (by decide) ?_
              refine g_iloadG_n hx dX4_takeOut_74 rfl (nx := 75) rfl rfl ?_
              refine g_dup2i hx dX4_takeOut_75 (nx := 76) rfl rfl rfl ?_
              refine g_iaload hx dX4_takeOut_76 (nx := 77) rfl (hM.1 15 _ rfl) (by decide) hin6 ?_
              refine g_iconst hx dX4_takeOut_77 (nx := 78) rfl (v := 1) (by decide) ?_
              refine g_iadd hx dX4_takeOut_78 (nx := 79) rfl ?_
              refine g_iastore hx dX4_takeOut_79 (nx := 80) rfl (hM.1 15 _ rfl) (by decide) hin6 ?_
              refine g_aloadG_n hx dX4_takeOut_80 rfl (nx := 81) rfl rfl ?_
              refine g_getfo_R hx dX4_takeOut_81 (nx := 84) rfl fa_X4_51 rfl (r9 := 35) (hM.2 15 rfl) (hM.1 0 _ rfl) (by decide) ?_
              refine g_iloadG_n hx dX4_takeOut_84 rfl (nx := 85) rfl rfl ?_
              refine g_iaload hx dX4_takeOut_85 (nx := 86) rfl (hM.1 15 _ rfl) (by decide) hin6 ?_
              refine g_iret hx dX4_takeOut_86 rfl rfl (Nat.le_of_ble_eq_true rfl) (Nat.le_of_ble_eq_true rfl) ?_
              first
                | exact hf1 qs
                | exact hf2 ⟨k, hk9, rfl⟩ q2
                | (rw [hkc, ho] at c37; exact hf3 k hk9 rfl q2 ((nI_eq (by omega) (by decide : 6 < 2 ^ 31)).mp c37))
                | (simp only [hkc, au2_s]
                   rw [au2_n (by omega), au2_n (by omega), ho, e9, hc9, ← nI_succ]
                   exact hk k hk9 rfl q2 hlt)
            · exact absurd c48 (by decide)
          · refine g_iconst hx dX4_takeOut_40 (nx := 41) rfl (v := 3) (by decide) ?_
            refine g_goto hx dX4_takeOut_41 (tg := 45) (by decide) ?_
            refine g_callV_M hx [_] (k' := 0) (n' := 0) dX4_takeOut_45 (nx := 48) rfl lk_X4_114 (hM.1 0 _ rfl) (by decide) rfl rfl (Nat.le_of_ble_eq_true rfl) (Nat.le_of_ble_eq_true rfl) (Nat.le_of_ble_eq_true rfl) (Nat.le_of_ble_eq_true rfl) (Nat.le_of_ble_eq_true rfl) (Nat.le_of_ble_eq_true rfl) (Nat.le_of_ble_eq_true rfl) (s_X4_can hst hM (fun z => absurd z (by decide)) (fun _ => ?_))
            refine g_if_ne hx dX4_takeOut_48 (tg := 53) (by decide) (nx := 51) rfl (fun c48 => ?_) (fun c48 => ?_)
            · exact absurd c48 (by decide)
            · refine g_iconst hx dX4_takeOut_51 (nx := 52) rfl (v := 0) (by decide) ?_
              refine g_iret hx dX4_takeOut_52 rfl rfl (Nat.le_of_ble_eq_true rfl) (Nat.le_of_ble_eq_true rfl) ?_
              first
                | exact hf1 qs
                | exact hf2 ⟨k, hk9, rfl⟩ q2
                | (rw [hkc, ho] at c37; exact hf3 k hk9 rfl q2 ((nI_eq (by omega) (by decide : 6 < 2 ^ 31)).mp c37))
                | (simp only [hkc, au2_s]
                   rw [au2_n (by omega), au2_n (by omega), ho, e9, hc9, ← nI_succ]
                   exact hk k hk9 rfl q2 hlt)
        · exact absurd c22 (by decide)
      · exact absurd c14 (by decide)
    · refine g_if_ne hx dX4_takeOut_14 (tg := 21) (by decide) (nx := 17) rfl (fun c14 => ?_) (fun c14 => ?_)
      · exact absurd c14 (by decide)
      · refine g_iconst hx dX4_takeOut_17 (nx := 18) rfl (v := 1) (by decide) ?_
        refine g_goto hx dX4_takeOut_18 (tg := 45) (by decide) ?_
        refine g_callV_M hx [_] (k' := 0) (n' := 0) dX4_takeOut_45 (nx := 48) rfl lk_X4_114 (hM.1 0 _ rfl) (by decide) rfl rfl (Nat.le_of_ble_eq_true rfl) (Nat.le_of_ble_eq_true rfl) (Nat.le_of_ble_eq_true rfl) (Nat.le_of_ble_eq_true rfl) (Nat.le_of_ble_eq_true rfl) (Nat.le_of_ble_eq_true rfl) (Nat.le_of_ble_eq_true rfl) (s_X4_can hst hM (fun z => absurd z (by decide)) (fun _ => ?_))
        refine g_if_ne hx dX4_takeOut_48 (tg := 53) (by decide) (nx := 51) rfl (fun c48 => ?_) (fun c48 => ?_)
        · exact absurd c48 (by decide)
        · refine g_iconst hx dX4_takeOut_51 (nx := 52) rfl (v := 0) (by decide) ?_
          refine g_iret hx dX4_takeOut_52 rfl rfl (Nat.le_of_ble_eq_true rfl) (Nat.le_of_ble_eq_true rfl) ?_
          first
            | exact hf1 qs
            | exact hf2 ⟨k, hk9, rfl⟩ q2
            | (rw [hkc, ho] at c37; exact hf3 k hk9 rfl q2 ((nI_eq (by omega) (by decide : 6 < 2 ^ 31)).mp c37))
            | (simp only [hkc, au2_s]
               rw [au2_n (by omega), au2_n (by omega), ho, e9, hc9, ← nI_succ]
               exact hk k hk9 rfl q2 hlt)
  · refine g_istore_3 hx dX4_takeOut_7 (nx := 8) rfl (by decide) rfl ?_
    refine g_aloadG_n hx dX4_takeOut_8 rfl (nx := 9) rfl rfl ?_
    refine g_aloadG_n hx dX4_takeOut_9 rfl (nx := 10) rfl rfl ?_
    refine g_iloadG_n hx dX4_takeOut_10 rfl (nx := 11) rfl rfl ?_
    refine g_callV_M hx [_] (k' := 0) (n' := 0) dX4_takeOut_11 (nx := 14) rfl lk_X4_119 (hM.1 0 _ rfl) (by decide) rfl rfl (Nat.le_of_ble_eq_true rfl) (Nat.le_of_ble_eq_true rfl) (Nat.le_of_ble_eq_true rfl) (Nat.le_of_ble_eq_true rfl) (Nat.le_of_ble_eq_true rfl) (Nat.le_of_ble_eq_true rfl) (Nat.le_of_ble_eq_true rfl) (s_X4_isStar (n := n) hst hM h4 (by omega) (fun k hk9 ek => ?_) (fun qs => ?_))
    · subst ek
      have hkc : (nI k).toNatClampNeg = k := nI_clamp (by omega)
      have hin6 : vp_in (nI k) 6 := vp_in_nI (by omega) (by decide)
      refine g_if_ne hx dX4_takeOut_14 (tg := 21) (by decide) (nx := 17) rfl (fun c14 => ?_) (fun c14 => ?_)
      · refine g_iloadG_n hx dX4_takeOut_21 rfl (nx := 22) rfl rfl ?_
        refine g_if_ne hx dX4_takeOut_22 (tg := 29) (by decide) (nx := 25) rfl (fun c22 => ?_) (fun c22 => ?_)
        · exact absurd c22 (by decide)
        · refine g_iconst hx dX4_takeOut_25 (nx := 26) rfl (v := 2) (by decide) ?_
          refine g_goto hx dX4_takeOut_26 (tg := 45) (by decide) ?_
          refine g_callV_M hx [_] (k' := 0) (n' := 0) dX4_takeOut_45 (nx := 48) rfl lk_X4_114 (hM.1 0 _ rfl) (by decide) rfl rfl (Nat.le_of_ble_eq_true rfl) (Nat.le_of_ble_eq_true rfl) (Nat.le_of_ble_eq_true rfl) (Nat.le_of_ble_eq_true rfl) (Nat.le_of_ble_eq_true rfl) (Nat.le_of_ble_eq_true rfl) (Nat.le_of_ble_eq_true rfl) (s_X4_can hst hM (fun z => absurd z (by decide)) (fun _ => ?_))
          refine g_if_ne hx dX4_takeOut_48 (tg := 53) (by decide) (nx := 51) rfl (fun c48 => ?_) (fun c48 => ?_)
          · exact absurd c48 (by decide)
          · refine g_iconst hx dX4_takeOut_51 (nx := 52) rfl (v := 0) (by decide) ?_
            refine g_iret hx dX4_takeOut_52 rfl rfl (Nat.le_of_ble_eq_true rfl) (Nat.le_of_ble_eq_true rfl) ?_
            first
              | exact hf1 qs
              | exact hf2 ⟨k, hk9, rfl⟩ q2
              | (rw [hkc, ho] at c37; exact hf3 k hk9 rfl q2 ((nI_eq (by omega) (by decide : 6 < 2 ^ 31)).mp c37))
              | (simp only [hkc, au2_s]
                 rw [au2_n (by omega), au2_n (by omega), ho, e9, hc9, ← nI_succ]
                 exact hk k hk9 rfl q2 hlt)
      · exact absurd c14 (by decide)
    · refine g_if_ne hx dX4_takeOut_14 (tg := 21) (by decide) (nx := 17) rfl (fun c14 => ?_) (fun c14 => ?_)
      · exact absurd c14 (by decide)
      · refine g_iconst hx dX4_takeOut_17 (nx := 18) rfl (v := 1) (by decide) ?_
        refine g_goto hx dX4_takeOut_18 (tg := 45) (by decide) ?_
        refine g_callV_M hx [_] (k' := 0) (n' := 0) dX4_takeOut_45 (nx := 48) rfl lk_X4_114 (hM.1 0 _ rfl) (by decide) rfl rfl (Nat.le_of_ble_eq_true rfl) (Nat.le_of_ble_eq_true rfl) (Nat.le_of_ble_eq_true rfl) (Nat.le_of_ble_eq_true rfl) (Nat.le_of_ble_eq_true rfl) (Nat.le_of_ble_eq_true rfl) (Nat.le_of_ble_eq_true rfl) (s_X4_can hst hM (fun z => absurd z (by decide)) (fun _ => ?_))
        refine g_if_ne hx dX4_takeOut_48 (tg := 53) (by decide) (nx := 51) rfl (fun c48 => ?_) (fun c48 => ?_)
        · exact absurd c48 (by decide)
        · refine g_iconst hx dX4_takeOut_51 (nx := 52) rfl (v := 0) (by decide) ?_
          refine g_iret hx dX4_takeOut_52 rfl rfl (Nat.le_of_ble_eq_true rfl) (Nat.le_of_ble_eq_true rfl) ?_
          first
            | exact hf1 qs
            | exact hf2 ⟨k, hk9, rfl⟩ q2
            | (rw [hkc, ho] at c37; exact hf3 k hk9 rfl q2 ((nI_eq (by omega) (by decide : 6 < 2 ^ 31)).mp c37))
            | (simp only [hkc, au2_s]
               rw [au2_n (by omega), au2_n (by omega), ho, e9, hc9, ← nI_succ]
               exact hk k hk9 rfl q2 hlt)

abbrev rmX4_putBack : Room := { frames := 2, cells := 0, slots := 0, locals := 43 }
set_option maxHeartbeats 4000000 in
set_option maxRecDepth 100000 in
theorem s_X4_putBack {l : Launch} {E : aE} {S : aS} {I : aI} {L : aL} {Rf : aR} {Kr : aK} {Kx : aX} (hst : l.stackTraces = false) {n : Nat} {x : Int32} (hM : lyM S Rf) (h4 : I 20 4 = nI n) (hn6 : n ≤ 6) (hf1 : ¬ inN x n → Kr (some (.int 0)) S (au2 I 20 31 1) L Rf) (hk : ∀ k, k < n → x = nI k → Kr (some (.int (I 35 k))) S (au2 (au2 I 20 31 0) 35 k 0) L Rf) : aMet l E yX4_putBack cX4_putBack 3 (some .int) rmX4_putBack [.ref 20, .int x] (S) (I) (L) (Rf) Kr Kx := by
  refine aMet.of (lv0 := [.ref 20, .int x, aU]) (z := 1) (by decide +kernel) hst rfl (Nat.le_of_ble_eq_true rfl) ?_
  intro p e s m args below meth c io0 hx hin hno
  have hx : aCx p l s m args meth c RX4 cX4_putBack 3 (some .int) E := hx
  refine g_aloadG_n hx dX4_putBack_0 rfl (nx := 1) rfl rfl ?_
  refine g_aloadG_n hx dX4_putBack_1 rfl (nx := 2) rfl rfl ?_
  refine g_iloadG_n hx dX4_putBack_2 rfl (nx := 3) rfl rfl ?_
  refine g_callV_M hx [_] (k' := 0) (n' := 0) dX4_putBack_3 (nx := 6) rfl lk_X4_119 (hM.1 0 _ rfl) (by decide) rfl rfl (Nat.le_of_ble_eq_true rfl) (Nat.le_of_ble_eq_true rfl) (Nat.le_of_ble_eq_true rfl) (Nat.le_of_ble_eq_true rfl) (Nat.le_of_ble_eq_true rfl) (Nat.le_of_ble_eq_true rfl) (Nat.le_of_ble_eq_true rfl) (s_X4_isStar (n := n) hst hM h4 (by omega) (fun k hk9 ek => ?_) (fun qs => ?_))
  · subst ek
    have hkc : (nI k).toNatClampNeg = k := nI_clamp (by omega)
    have hin6 : vp_in (nI k) 6 := vp_in_nI (by omega) (by decide)
    refine g_if_eq hx dX4_putBack_6 (tg := 13) (by decide) (nx := 9) rfl (fun c6 => ?_) (fun c6 => ?_)
    · exact absurd c6 (by decide)
    · refine g_iconst hx dX4_putBack_9 (nx := 10) rfl (v := 0) (by decide) ?_
      refine g_goto hx dX4_putBack_10 (tg := 14) (by decide) ?_
      refine g_callV_M hx [_] (k' := 0) (n' := 0) dX4_putBack_14 (nx := 17) rfl lk_X4_114 (hM.1 0 _ rfl) (by decide) rfl rfl (Nat.le_of_ble_eq_true rfl) (Nat.le_of_ble_eq_true rfl) (Nat.le_of_ble_eq_true rfl) (Nat.le_of_ble_eq_true rfl) (Nat.le_of_ble_eq_true rfl) (Nat.le_of_ble_eq_true rfl) (Nat.le_of_ble_eq_true rfl) (s_X4_can hst hM (fun _ => ?_) (fun z => absurd rfl z))
      refine g_if_ne hx dX4_putBack_17 (tg := 22) (by decide) (nx := 20) rfl (fun c17 => ?_) (fun c17 => ?_)
      · refine g_aloadG_n hx dX4_putBack_22 rfl (nx := 23) rfl rfl ?_
        refine g_getfo_R hx dX4_putBack_23 (nx := 26) rfl fa_X4_51 rfl (r9 := 35) (hM.2 15 rfl) (hM.1 0 _ rfl) (by decide) ?_
        refine g_iloadG_n hx dX4_putBack_26 rfl (nx := 27) rfl rfl ?_
        refine g_iaload hx dX4_putBack_27 (nx := 28) rfl (hM.1 15 _ rfl) (by decide) hin6 ?_
        refine g_istore_2 hx dX4_putBack_28 (nx := 29) rfl (by decide) rfl ?_
        refine g_aloadG_n hx dX4_putBack_29 rfl (nx := 30) rfl rfl ?_
        refine g_getfo_R hx dX4_putBack_30 (nx := 33) rfl fa_X4_51 rfl (r9 := 35) (hM.2 15 rfl) (hM.1 0 _ rfl) (by decide) ?_
        refine g_iloadG_n hx dX4_putBack_33 rfl (nx := 34) rfl rfl ?_
        refine g_iconst hx dX4_putBack_34 (nx := 35) rfl (v := 0) (by decide) ?_
        refine g_iastore hx dX4_putBack_35 (nx := 36) rfl (hM.1 15 _ rfl) (by decide) hin6 ?_
        refine g_iloadG_n hx dX4_putBack_36 rfl (nx := 37) rfl rfl ?_
        refine g_iret hx dX4_putBack_37 rfl rfl (Nat.le_of_ble_eq_true rfl) (Nat.le_of_ble_eq_true rfl) ?_
        first | exact hf1 qs | (rw [hkc, au2_n (by omega)]; exact hk k hk9 rfl)
      · exact absurd c17 (by decide)
  · refine g_if_eq hx dX4_putBack_6 (tg := 13) (by decide) (nx := 9) rfl (fun c6 => ?_) (fun c6 => ?_)
    · refine g_iconst hx dX4_putBack_13 (nx := 14) rfl (v := 1) (by decide) ?_
      refine g_callV_M hx [_] (k' := 0) (n' := 0) dX4_putBack_14 (nx := 17) rfl lk_X4_114 (hM.1 0 _ rfl) (by decide) rfl rfl (Nat.le_of_ble_eq_true rfl) (Nat.le_of_ble_eq_true rfl) (Nat.le_of_ble_eq_true rfl) (Nat.le_of_ble_eq_true rfl) (Nat.le_of_ble_eq_true rfl) (Nat.le_of_ble_eq_true rfl) (Nat.le_of_ble_eq_true rfl) (s_X4_can hst hM (fun z => absurd z (by decide)) (fun _ => ?_))
      refine g_if_ne hx dX4_putBack_17 (tg := 22) (by decide) (nx := 20) rfl (fun c17 => ?_) (fun c17 => ?_)
      · exact absurd c17 (by decide)
      · refine g_iconst hx dX4_putBack_20 (nx := 21) rfl (v := 0) (by decide) ?_
        refine g_iret hx dX4_putBack_21 rfl rfl (Nat.le_of_ble_eq_true rfl) (Nat.le_of_ble_eq_true rfl) ?_
        first | exact hf1 qs | (rw [hkc, au2_n (by omega)]; exact hk k hk9 rfl)
    · exact absurd c6 (by decide)

