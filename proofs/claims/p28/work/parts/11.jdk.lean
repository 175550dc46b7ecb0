/-! the JDK's own methods -/
theorem aMet.ofF {l : Launch} {E : aE} {y : MethodName} {cc : ByteArray} {nL : Nat} {ret : Option FieldType} {rm : Room} {av lv0 : List Value} {z : Nat} {S : aS} {I : aI} {L : aL} {Rf : aR} {Kr : aK} {Kx : aX} (hy : plainFor y = true) (hst : l.stackTraces = false) (h0 : aIni av ++ List.replicate z aU = lv0) (hlen : (aIni av).length ≤ nL)
    (body : ∀ (p : Program) (e : Env) (s : State) (m : MethodId) (args : Array Value) (below : List Frame) (meth : Method) (c : Code) (io0 : aM), aCx p l s m args meth c y.cls cc nL ret E → meth.name = y.name → (∀ x ∈ c.exceptionTable.toList, False) →
      aG p l e rm s m args below meth c E io0 S nL (vx_MQ below (aQc E io0 S Kr) (aXC E io0 S Kx) args s rm.cells rm.slots (aW E)) 0 lv0 [] S I L Rf 0 0) : aMet l E y cc nL ret rm av S I L Rf Kr Kx := by
  intro io0
  refine MetFree.of_bodySF (code := cc) (maxLocals := nL) (ret := ret) hy ?_ ?_
  · intro args s m h hn
    obtain ⟨meth, c, h1, h2, h3, h4, h5, h6, -, -⟩ := Cond.code_spec hn (atoms_spec (ws := Cond.code y cc nL ret :: aBIG) h _ List.mem_cons_self)
    exact ⟨meth, c, h1, h2, h3, h4, h5, h6⟩
  · intro p e s m args below meth c s₁ B hml hP _
    obtain ⟨rfl, hHR, hEv, hok⟩ := hP
    have hh0 : s₁.heap = s.heap := by rw [B.state]; rfl
    have ht : ∀ x ∈ c.exceptionTable.toList, False := by
      obtain ⟨meth9, c9, h1, h2, -, -, -, -, h7, -⟩ := Cond.code_spec B.named (atoms_spec (ws := Cond.code y cc nL ret :: aBIG) B.pre _ List.mem_cons_self)
      cases Option.some.inj (h1.symm.trans B.method)
      cases Option.some.inj (h2.symm.trans (Stand.of_body B).code)
      intro x hx
      rw [Array.isEmpty_iff.mp h7] at hx
      cases hx
    have hts := atoms_spec (ws := Cond.code y cc nL ret :: aBIG) B.pre
    have hl := lv_entry (av.map (arn io0)) (n := nL) (by rw [lg_sl_len]; exact hlen)
    subst h0
    have K := body p e s m _ below meth c io0 ⟨B.exec, B.bytes, hml, findClass_of_methodNamed B.named, fun w hw => hts w (List.mem_cons_of_mem _ hw), B.notSynchronized, hEv, hst, B.returns⟩ (name_of_methodNamed B.named B.method).1 ht io0 s.heap [] _ hHR (fun _ _ => ⟨rfl, rfl⟩) (aIni_ok av z hok) aOk.nil va_S.rf ⟨hl.1, hl.2.1, fun i v hi hk => by
      have h9 := aIni_at (io := io0) av 0 i v z hi hk
      rw [Nat.zero_add] at h9
      exact hl.2.2 _ h9⟩
    have e1 := lg_entry_eq m (av.map (arn io0)) nL
    obtain ⟨t, a1, o, b1, b2, b3⟩ := K s₁ hh0 (Stand.of_body B)
    exact ⟨t, o, by rw [e1]; exact a1, b1, b2, b3⟩
def fdI (a b : Int32) : Int32 := if 0 ≤ a ^^^ b then a / b else if a / b * b = a then a / b else a / b - 1
def fdL (a b : Int64) : Int64 := if 0 ≤ a ^^^ b then a / b else if a / b * b = a then a / b else a / b - 1
def iabs (a : Int32) : Int32 := if 0 ≤ a then a else -a
def imax (a b : Int32) : Int32 := if a < b then b else a
def imin (a b : Int32) : Int32 := if b < a then b else a
def lsr (a : Int64) (k : Int32) : Int64 := (a.toUInt64 >>> (k.toInt64.toUInt64 &&& Int64.toUInt64 63)).toInt64
def bc1 (a : Int64) : Int64 := a - (lsr a 1 &&& 6148914691236517205)
def bc2 (a : Int64) : Int64 := (a &&& 3689348814741910323) + (lsr a 2 &&& 3689348814741910323)
def bc3 (a : Int64) : Int64 := (a + lsr a 4) &&& 1085102592571150095
def bc4 (a : Int64) : Int64 := a + lsr a 8
def bc5 (a : Int64) : Int64 := a + lsr a 16
def bc6 (a : Int64) : Int64 := a + lsr a 32
def bcnt (a : Int64) : Int32 := (bc6 (bc5 (bc4 (bc3 (bc2 (bc1 a)))))).toInt32 &&& 127
abbrev rmJ9_floorDiv_7cf53 : Room := { frames := 0, cells := 0, slots := 0, locals := 0 }
set_option maxHeartbeats 4000000 in
set_option maxRecDepth 100000 in
theorem s_J9_floorDiv_7cf53 {l : Launch} {E : aE} {S : aS} {I : aI} {L : aL} {Rf : aR} {Kr : aK} {Kx : aX} (hst : l.stackTraces = false) {x y : Int32} (h0 : ¬ y = 0) (hk : Kr (some (.int (fdI x y))) S I L Rf) : aMet l E yJ9_floorDiv_7cf53 cJ9_floorDiv_7cf53 3 (some .int) rmJ9_floorDiv_7cf53 [.int x, .int y] (S) (I) (L) (Rf) Kr Kx := by
  refine aMet.ofF (lv0 := [.int x, .int y, aU]) (z := 1) (by decide +kernel) hst rfl (Nat.le_of_ble_eq_true rfl) ?_
  intro p e s m args below meth c io0 hx hin hno
  have hx : aCx p l s m args meth c RJ9 cJ9_floorDiv_7cf53 3 (some .int) E := hx
  refine g_iloadG_n hx dJ9_floorDiv_7cf53_0 rfl (nx := 1) rfl rfl ?_
  refine g_iloadG_n hx dJ9_floorDiv_7cf53_1 rfl (nx := 2) rfl rfl ?_
  refine g_idiv hx dJ9_floorDiv_7cf53_2 (nx := 3) rfl h0 ?_
  refine g_istore_2 hx dJ9_floorDiv_7cf53_3 (nx := 4) rfl (by decide) rfl ?_
  refine g_iloadG_n hx dJ9_floorDiv_7cf53_4 rfl (nx := 5) rfl rfl ?_
  refine g_iloadG_n hx dJ9_floorDiv_7cf53_5 rfl (nx := 6) rfl rfl ?_
  refine g_ixor hx dJ9_floorDiv_7cf53_6 (nx := 7) rfl ?_
  refine g_if_ge hx dJ9_floorDiv_7cf53_7 (tg := 21) (by decide) (nx := 10) rfl (fun c7 => ?_) (fun c7 => ?_)
  · refine g_iloadG_n hx dJ9_floorDiv_7cf53_21 rfl (nx := 22) rfl rfl ?_
    refine g_iret hx dJ9_floorDiv_7cf53_22 rfl rfl (Nat.le_of_ble_eq_true rfl) (Nat.le_of_ble_eq_true rfl) ?_
    first | (rw [fdI, if_pos c7] at hk; exact hk) | (rw [fdI, if_neg c7, if_pos c14] at hk; exact hk) | (rw [fdI, if_neg c7, if_neg c14] at hk; exact hk)
  · refine g_iloadG_n hx dJ9_floorDiv_7cf53_10 rfl (nx := 11) rfl rfl ?_
    refine g_iloadG_n hx dJ9_floorDiv_7cf53_11 rfl (nx := 12) rfl rfl ?_
    refine g_imul hx dJ9_floorDiv_7cf53_12 (nx := 13) rfl ?_
    refine g_iloadG_n hx dJ9_floorDiv_7cf53_13 rfl (nx := 14) rfl rfl ?_
    refine g_icmp_eq hx dJ9_floorDiv_7cf53_14 (tg := 21) (by decide) (nx := 17) rfl (fun c14 => ?_) (fun c14 => ?_)
    · refine g_iloadG_n hx dJ9_floorDiv_7cf53_21 rfl (nx := 22) rfl rfl ?_
      refine g_iret hx dJ9_floorDiv_7cf53_22 rfl rfl (Nat.le_of_ble_eq_true rfl) (Nat.le_of_ble_eq_true rfl) ?_
      first | (rw [fdI, if_pos c7] at hk; exact hk) | (rw [fdI, if_neg c7, if_pos c14] at hk; exact hk) | (rw [fdI, if_neg c7, if_neg c14] at hk; exact hk)
    · refine g_iloadG_n hx dJ9_floorDiv_7cf53_17 rfl (nx := 18) rfl rfl ?_
      refine g_iconst hx dJ9_floorDiv_7cf53_18 (nx := 19) rfl (v := 1) (by decide) ?_
      refine g_isub hx dJ9_floorDiv_7cf53_19 (nx := 20) rfl ?_
      refine g_iret hx dJ9_floorDiv_7cf53_20 rfl rfl (Nat.le_of_ble_eq_true rfl) (Nat.le_of_ble_eq_true rfl) ?_
      first | (rw [fdI, if_pos c7] at hk; exact hk) | (rw [fdI, if_neg c7, if_pos c14] at hk; exact hk) | (rw [fdI, if_neg c7, if_neg c14] at hk; exact hk)

abbrev rmJ9_floorDiv_f86c9 : Room := { frames := 0, cells := 0, slots := 0, locals := 0 }
set_option maxHeartbeats 4000000 in
set_option maxRecDepth 100000 in
theorem s_J9_floorDiv_f86c9 {l : Launch} {E : aE} {S : aS} {I : aI} {L : aL} {Rf : aR} {Kr : aK} {Kx : aX} (hst : l.stackTraces = false) {x y : Int64} (h0 : ¬ y = 0) (hk : Kr (some (.long (fdL x y))) S I L Rf) : aMet l E yJ9_floorDiv_f86c9 cJ9_floorDiv_f86c9 6 (some .long) rmJ9_floorDiv_f86c9 [.long x, .long y] (S) (I) (L) (Rf) Kr Kx := by
  refine aMet.ofF (lv0 := [.long x, aU, .long y, aU, aU, aU]) (z := 2) (by decide +kernel) hst rfl (Nat.le_of_ble_eq_true rfl) ?_
  intro p e s m args below meth c io0 hx hin hno
  have hx : aCx p l s m args meth c RJ9 cJ9_floorDiv_f86c9 6 (some .long) E := hx
  refine g_lloadG_n hx dJ9_floorDiv_f86c9_0 rfl (nx := 1) rfl rfl ?_
  refine g_lloadG_n hx dJ9_floorDiv_f86c9_1 rfl (nx := 2) rfl rfl ?_
  refine g_ldiv hx dJ9_floorDiv_f86c9_2 (nx := 3) rfl h0 ?_
  refine g_lstore_4 hx dJ9_floorDiv_f86c9_3 (nx := 5) rfl (by decide) rfl ?_
  refine g_lloadG_n hx dJ9_floorDiv_f86c9_5 rfl (nx := 6) rfl rfl ?_
  refine g_lloadG_n hx dJ9_floorDiv_f86c9_6 rfl (nx := 7) rfl rfl ?_
  refine g_lxor hx dJ9_floorDiv_f86c9_7 (nx := 8) rfl ?_
  refine g_lconst hx dJ9_floorDiv_f86c9_8 (nx := 9) rfl (v := 0) (by decide) ?_
  refine g_lcmp hx dJ9_floorDiv_f86c9_9 (nx := 10) rfl ?_
  refine g_if_ge hx dJ9_floorDiv_f86c9_10 (tg := 27) (by decide) (nx := 13) rfl (fun c10 => ?_) (fun c10 => ?_)
  · refine g_lloadG hx dJ9_floorDiv_f86c9_27 (nx := 29) rfl rfl ?_
    refine g_lret hx dJ9_floorDiv_f86c9_29 rfl (Nat.le_of_ble_eq_true rfl) (Nat.le_of_ble_eq_true rfl) ?_
    first | (rw [fdL, if_pos ((lg_cmp_ge _ _).mp c10)] at hk; exact hk) | (rw [fdL, if_neg c10, if_neg c19] at hk; exact hk) | (rw [fdL, if_neg c10, if_pos ((lg_cmp_eq _ _).mp c19)] at hk; exact hk)
  · have c10 : ¬ 0 ≤ x ^^^ y := fun z => c10 ((lg_cmp_ge _ _).mpr z)
    refine g_lloadG hx dJ9_floorDiv_f86c9_13 (nx := 15) rfl rfl ?_
    refine g_lloadG_n hx dJ9_floorDiv_f86c9_15 rfl (nx := 16) rfl rfl ?_
    refine g_lmul hx dJ9_floorDiv_f86c9_16 (nx := 17) rfl ?_
    refine g_lloadG_n hx dJ9_floorDiv_f86c9_17 rfl (nx := 18) rfl rfl ?_
    refine g_lcmp hx dJ9_floorDiv_f86c9_18 (nx := 19) rfl ?_
    refine g_if_eq hx dJ9_floorDiv_f86c9_19 (tg := 27) (by decide) (nx := 22) rfl (fun c19 => ?_) (fun c19 => ?_)
    · refine g_lloadG hx dJ9_floorDiv_f86c9_27 (nx := 29) rfl rfl ?_
      refine g_lret hx dJ9_floorDiv_f86c9_29 rfl (Nat.le_of_ble_eq_true rfl) (Nat.le_of_ble_eq_true rfl) ?_
      first | (rw [fdL, if_pos ((lg_cmp_ge _ _).mp c10)] at hk; exact hk) | (rw [fdL, if_neg c10, if_neg c19] at hk; exact hk) | (rw [fdL, if_neg c10, if_pos ((lg_cmp_eq _ _).mp c19)] at hk; exact hk)
    · have c19 : ¬ x / y * y = x := fun z => c19 ((lg_cmp_eq _ _).mpr z)
      refine g_lloadG hx dJ9_floorDiv_f86c9_22 (nx := 24) rfl rfl ?_
      refine g_lconst hx dJ9_floorDiv_f86c9_24 (nx := 25) rfl (v := 1) (by decide) ?_
      refine g_lsub hx dJ9_floorDiv_f86c9_25 (nx := 26) rfl ?_
      refine g_lret hx dJ9_floorDiv_f86c9_26 rfl (Nat.le_of_ble_eq_true rfl) (Nat.le_of_ble_eq_true rfl) ?_
      first | (rw [fdL, if_pos ((lg_cmp_ge _ _).mp c10)] at hk; exact hk) | (rw [fdL, if_neg c10, if_neg c19] at hk; exact hk) | (rw [fdL, if_neg c10, if_pos ((lg_cmp_eq _ _).mp c19)] at hk; exact hk)

abbrev rmJ9_abs_0f7a4 : Room := { frames := 0, cells := 0, slots := 0, locals := 0 }
set_option maxHeartbeats 4000000 in
set_option maxRecDepth 100000 in
theorem s_J9_abs_0f7a4 {l : Launch} {E : aE} {S : aS} {I : aI} {L : aL} {Rf : aR} {Kr : aK} {Kx : aX} (hst : l.stackTraces = false) {x : Int32} (hk : Kr (some (.int (iabs x))) S I L Rf) : aMet l E yJ9_abs_0f7a4 cJ9_abs_0f7a4 1 (some .int) rmJ9_abs_0f7a4 [.int x] (S) (I) (L) (Rf) Kr Kx := by
  refine aMet.ofF (lv0 := [.int x]) (z := 0) (by decide +kernel) hst rfl (Nat.le_of_ble_eq_true rfl) ?_
  intro p e s m args below meth c io0 hx hin hno
  have hx : aCx p l s m args meth c RJ9 cJ9_abs_0f7a4 1 (some .int) E := hx
  refine g_iloadG_n hx dJ9_abs_0f7a4_0 rfl (nx := 1) rfl rfl ?_
  refine g_if_ge hx dJ9_abs_0f7a4_1 (tg := 9) (by decide) (nx := 4) rfl (fun c1 => ?_) (fun c1 => ?_)
  · refine g_iloadG_n hx dJ9_abs_0f7a4_9 rfl (nx := 10) rfl rfl ?_
    refine g_iret hx dJ9_abs_0f7a4_10 rfl rfl (Nat.le_of_ble_eq_true rfl) (Nat.le_of_ble_eq_true rfl) ?_
    first | (rw [iabs, if_pos c1] at hk; exact hk) | (rw [iabs, if_neg c1] at hk; exact hk)
  · refine g_iloadG_n hx dJ9_abs_0f7a4_4 rfl (nx := 5) rfl rfl ?_
    refine g_ineg hx dJ9_abs_0f7a4_5 (nx := 6) rfl ?_
    refine g_goto hx dJ9_abs_0f7a4_6 (tg := 10) (by decide) ?_
    refine g_iret hx dJ9_abs_0f7a4_10 rfl rfl (Nat.le_of_ble_eq_true rfl) (Nat.le_of_ble_eq_true rfl) ?_
    first | (rw [iabs, if_pos c1] at hk; exact hk) | (rw [iabs, if_neg c1] at hk; exact hk)

abbrev rmJ9_max_7cf53 : Room := { frames := 0, cells := 0, slots := 0, locals := 0 }
set_option maxHeartbeats 4000000 in
set_option maxRecDepth 100000 in
theorem s_J9_max_7cf53 {l : Launch} {E : aE} {S : aS} {I : aI} {L : aL} {Rf : aR} {Kr : aK} {Kx : aX} (hst : l.stackTraces = false) {x y : Int32} (hk : Kr (some (.int (imax x y))) S I L Rf) : aMet l E yJ9_max_7cf53 cJ9_max_7cf53 2 (some .int) rmJ9_max_7cf53 [.int x, .int y] (S) (I) (L) (Rf) Kr Kx := by
  refine aMet.ofF (lv0 := [.int x, .int y]) (z := 0) (by decide +kernel) hst rfl (Nat.le_of_ble_eq_true rfl) ?_
  intro p e s m args below meth c io0 hx hin hno
  have hx : aCx p l s m args meth c RJ9 cJ9_max_7cf53 2 (some .int) E := hx
  refine g_iloadG_n hx dJ9_max_7cf53_0 rfl (nx := 1) rfl rfl ?_
  refine g_iloadG_n hx dJ9_max_7cf53_1 rfl (nx := 2) rfl rfl ?_
  refine g_icmp_lt hx dJ9_max_7cf53_2 (tg := 9) (by decide) (nx := 5) rfl (fun c2 => ?_) (fun c2 => ?_)
  · refine g_iloadG_n hx dJ9_max_7cf53_9 rfl (nx := 10) rfl rfl ?_
    refine g_iret hx dJ9_max_7cf53_10 rfl rfl (Nat.le_of_ble_eq_true rfl) (Nat.le_of_ble_eq_true rfl) ?_
    first | (rw [imax, if_pos c2] at hk; exact hk) | (rw [imax, if_neg c2] at hk; exact hk)
  · refine g_iloadG_n hx dJ9_max_7cf53_5 rfl (nx := 6) rfl rfl ?_
    refine g_goto hx dJ9_max_7cf53_6 (tg := 10) (by decide) ?_
    refine g_iret hx dJ9_max_7cf53_10 rfl rfl (Nat.le_of_ble_eq_true rfl) (Nat.le_of_ble_eq_true rfl) ?_
    first | (rw [imax, if_pos c2] at hk; exact hk) | (rw [imax, if_neg c2] at hk; exact hk)

abbrev rmJ9_min_7cf53 : Room := { frames := 0, cells := 0, slots := 0, locals := 0 }
set_option maxHeartbeats 4000000 in
set_option maxRecDepth 100000 in
theorem s_J9_min_7cf53 {l : Launch} {E : aE} {S : aS} {I : aI} {L : aL} {Rf : aR} {Kr : aK} {Kx : aX} (hst : l.stackTraces = false) {x y : Int32} (hk : Kr (some (.int (imin x y))) S I L Rf) : aMet l E yJ9_min_7cf53 cJ9_min_7cf53 2 (some .int) rmJ9_min_7cf53 [.int x, .int y] (S) (I) (L) (Rf) Kr Kx := by
  refine aMet.ofF (lv0 := [.int x, .int y]) (z := 0) (by decide +kernel) hst rfl (Nat.le_of_ble_eq_true rfl) ?_
  intro p e s m args below meth c io0 hx hin hno
  have hx : aCx p l s m args meth c RJ9 cJ9_min_7cf53 2 (some .int) E := hx
  refine g_iloadG_n hx dJ9_min_7cf53_0 rfl (nx := 1) rfl rfl ?_
  refine g_iloadG_n hx dJ9_min_7cf53_1 rfl (nx := 2) rfl rfl ?_
  refine g_icmp_gt hx dJ9_min_7cf53_2 (tg := 9) (by decide) (nx := 5) rfl (fun c2 => ?_) (fun c2 => ?_)
  · refine g_iloadG_n hx dJ9_min_7cf53_9 rfl (nx := 10) rfl rfl ?_
    refine g_iret hx dJ9_min_7cf53_10 rfl rfl (Nat.le_of_ble_eq_true rfl) (Nat.le_of_ble_eq_true rfl) ?_
    first | (rw [imin, if_pos c2] at hk; exact hk) | (rw [imin, if_neg c2] at hk; exact hk)
  · refine g_iloadG_n hx dJ9_min_7cf53_5 rfl (nx := 6) rfl rfl ?_
    refine g_goto hx dJ9_min_7cf53_6 (tg := 10) (by decide) ?_
    refine g_iret hx dJ9_min_7cf53_10 rfl rfl (Nat.le_of_ble_eq_true rfl) (Nat.le_of_ble_eq_true rfl) ?_
    first | (rw [imin, if_pos c2] at hk; exact hk) | (rw [imin, if_neg c2] at hk; exact hk)

abbrev rmJ13_bitCount_95d88 : Room := { frames := 0, cells := 0, slots := 0, locals := 0 }
set_option maxHeartbeats 4000000 in
set_option maxRecDepth 100000 in
theorem s_J13_bitCount_95d88 {l : Launch} {E : aE} {S : aS} {I : aI} {L : aL} {Rf : aR} {Kr : aK} {Kx : aX} (hst : l.stackTraces = false) {x : Int64} (hk : Kr (some (.int (bcnt x))) S I L Rf) : aMet l E yJ13_bitCount_95d88 cJ13_bitCount_95d88 2 (some .int) rmJ13_bitCount_95d88 [.long x] (S) (I) (L) (Rf) Kr Kx := by
  refine aMet.of (lv0 := [.long x, aU]) (z := 0) (by decide +kernel) hst rfl (Nat.le_of_ble_eq_true rfl) ?_
  intro p e s m args below meth c io0 hx hin hno
  have hx : aCx p l s m args meth c RJ13 cJ13_bitCount_95d88 2 (some .int) E := hx
  refine g_lloadG_n hx dJ13_bitCount_95d88_0 rfl (nx := 1) rfl rfl ?_
  refine g_lloadG_n hx dJ13_bitCount_95d88_1 rfl (nx := 2) rfl rfl ?_
  refine g_iconst hx dJ13_bitCount_95d88_2 (nx := 3) rfl (v := 1) (by decide) ?_
  refine g_lushr hx dJ13_bitCount_95d88_3 (nx := 4) rfl ?_
  refine g_ldc2 hx dJ13_bitCount_95d88_4 (nx := 7) rfl kl_J13_314 ?_
  refine g_land hx dJ13_bitCount_95d88_7 (nx := 8) rfl ?_
  refine g_lsub hx dJ13_bitCount_95d88_8 (nx := 9) rfl ?_
  refine g_lstore_0 hx dJ13_bitCount_95d88_9 (nx := 10) rfl (by decide) ?_
  refine g_lloadG_n hx dJ13_bitCount_95d88_10 rfl (nx := 11) rfl rfl ?_
  refine g_ldc2 hx dJ13_bitCount_95d88_11 (nx := 14) rfl kl_J13_316 ?_
  refine g_land hx dJ13_bitCount_95d88_14 (nx := 15) rfl ?_
  refine g_lloadG_n hx dJ13_bitCount_95d88_15 rfl (nx := 16) rfl rfl ?_
  refine g_iconst hx dJ13_bitCount_95d88_16 (nx := 17) rfl (v := 2) (by decide) ?_
  refine g_lushr hx dJ13_bitCount_95d88_17 (nx := 18) rfl ?_
  refine g_ldc2 hx dJ13_bitCount_95d88_18 (nx := 21) rfl kl_J13_316 ?_
  refine g_land hx dJ13_bitCount_95d88_21 (nx := 22) rfl ?_
  refine g_ladd hx dJ13_bitCount_95d88_22 (nx := 23) rfl ?_
  refine g_lstore_0 hx dJ13_bitCount_95d88_23 (nx := 24) rfl (by decide) ?_
  refine g_lloadG_n hx dJ13_bitCount_95d88_24 rfl (nx := 25) rfl rfl ?_
  refine g_lloadG_n hx dJ13_bitCount_95d88_25 rfl (nx := 26) rfl rfl ?_
  refine g_iconst hx dJ13_bitCount_95d88_26 (nx := 27) rfl (v := 4) (by decide) ?_
  refine g_lushr hx dJ13_bitCount_95d88_27 (nx := 28) rfl ?_
  refine g_ladd hx dJ13_bitCount_95d88_28 (nx := 29) rfl ?_
  refine g_ldc2 hx dJ13_bitCount_95d88_29 (nx := 32) rfl kl_J13_318 ?_
  refine g_land hx dJ13_bitCount_95d88_32 (nx := 33) rfl ?_
  refine g_lstore_0 hx dJ13_bitCount_95d88_33 (nx := 34) rfl (by decide) ?_
  refine g_lloadG_n hx dJ13_bitCount_95d88_34 rfl (nx := 35) rfl rfl ?_
  refine g_lloadG_n hx dJ13_bitCount_95d88_35 rfl (nx := 36) rfl rfl ?_
  refine g_bipush hx dJ13_bitCount_95d88_36 (nx := 38) rfl (v := 8) (by decide) ?_
  refine g_lushr hx dJ13_bitCount_95d88_38 (nx := 39) rfl ?_
  refine g_ladd hx dJ13_bitCount_95d88_39 (nx := 40) rfl ?_
  refine g_lstore_0 hx dJ13_bitCount_95d88_40 (nx := 41) rfl (by decide) ?_
  refine g_lloadG_n hx dJ13_bitCount_95d88_41 rfl (nx := 42) rfl rfl ?_
  refine g_lloadG_n hx dJ13_bitCount_95d88_42 rfl (nx := 43) rfl rfl ?_
  refine g_bipush hx dJ13_bitCount_95d88_43 (nx := 45) rfl (v := 16) (by decide) ?_
  refine g_lushr hx dJ13_bitCount_95d88_45 (nx := 46) rfl ?_
  refine g_ladd hx dJ13_bitCount_95d88_46 (nx := 47) rfl ?_
  refine g_lstore_0 hx dJ13_bitCount_95d88_47 (nx := 48) rfl (by decide) ?_
  refine g_lloadG_n hx dJ13_bitCount_95d88_48 rfl (nx := 49) rfl rfl ?_
  refine g_lloadG_n hx dJ13_bitCount_95d88_49 rfl (nx := 50) rfl rfl ?_
  refine g_bipush hx dJ13_bitCount_95d88_50 (nx := 52) rfl (v := 32) (by decide) ?_
  refine g_lushr hx dJ13_bitCount_95d88_52 (nx := 53) rfl ?_
  refine g_ladd hx dJ13_bitCount_95d88_53 (nx := 54) rfl ?_
  refine g_lstore_0 hx dJ13_bitCount_95d88_54 (nx := 55) rfl (by decide) ?_
  refine g_lloadG_n hx dJ13_bitCount_95d88_55 rfl (nx := 56) rfl rfl ?_
  refine g_l2i hx dJ13_bitCount_95d88_56 (nx := 57) rfl ?_
  refine g_bipush hx dJ13_bitCount_95d88_57 (nx := 59) rfl (v := 127) (by decide) ?_
  refine g_iand hx dJ13_bitCount_95d88_59 (nx := 60) rfl ?_
  refine g_iret hx dJ13_bitCount_95d88_60 rfl rfl (Nat.le_of_ble_eq_true rfl) (Nat.le_of_ble_eq_true rfl) ?_
  exact hk

abbrev rmJ7_fill_d0a16 : Room := { frames := 0, cells := 0, slots := 0, locals := 0 }
set_option maxHeartbeats 4000000 in
set_option maxRecDepth 100000 in
theorem s_J7_fill_d0a16 {l : Launch} {E : aE} {S : aS} {I : aI} {L : aL} {Rf : aR} {Kr : aK} {Kx : aX} (hst : l.stackTraces = false) {q N : Nat} {v : Int64} (hq : S q = some (.inl (.long, N))) (hq2 : 3 ≤ q) (hN : N < 65536) (hk : ∀ L', (∀ a b, a ≠ q → L' a b = L a b) → (∀ b, b < N → L' q b = v) → Kr none S I L' Rf) : aMet l E yJ7_fill_d0a16 cJ7_fill_d0a16 5 none rmJ7_fill_d0a16 [.ref q, .long v] (S) (I) (L) (Rf) Kr Kx := by
  refine aMet.of (lv0 := [.ref q, .long v, aU, aU, aU]) (z := 2) (by decide +kernel) hst rfl (Nat.le_of_ble_eq_true rfl) ?_
  intro p e s m args below meth c io0 hx hin hno
  have hx : aCx p l s m args meth c RJ7 cJ7_fill_d0a16 5 none E := hx
  have loop : ∀ (r i : Nat) (L' : aL), i + r = N → (∀ a b, a ≠ q → L' a b = L a b) → (∀ b, b < i → L' q b = v) → aG p l e rmJ7_fill_d0a16 s m args below meth c E io0 S 5 (vx_MQ below (aQc E io0 S Kr) (aXC E io0 S Kx) args s rmJ7_fill_d0a16.cells rmJ7_fill_d0a16.slots (aW E)) 6 [.ref q, .long v, aU, .int (nI i), .int (Int32.ofNat N)] [] S I L' Rf 0 0 := by
    intro r
    induction r with
    | zero =>
      intro i L' hi h1 h2
      have hi : i = N := by omega
      subst hi
      refine g_iloadG_n hx dJ7_fill_d0a16_6 rfl (nx := 7) rfl rfl ?_
      refine g_iloadG hx dJ7_fill_d0a16_7 (nx := 9) rfl rfl ?_
      refine g_icmp_ge hx dJ7_fill_d0a16_9 (tg := 22) (by decide) (nx := 12) rfl (fun c9 => ?_) (fun c9 => ?_)
      · refine g_vret hx dJ7_fill_d0a16_22 rfl (Nat.le_of_ble_eq_true rfl) (Nat.le_of_ble_eq_true rfl) ?_
        exact hk L' h1 h2
      · exact absurd (Int32.le_refl (nI i)) c9
    | succ r ih =>
      intro i L' hi h1 h2
      have hn : (nI i).toNatClampNeg = i := nI_clamp (by omega)
      refine g_iloadG_n hx dJ7_fill_d0a16_6 rfl (nx := 7) rfl rfl ?_
      refine g_iloadG hx dJ7_fill_d0a16_7 (nx := 9) rfl rfl ?_
      refine g_icmp_ge hx dJ7_fill_d0a16_9 (tg := 22) (by decide) (nx := 12) rfl (fun c9 => ?_) (fun c9 => ?_)
      · exact absurd c9 (nI_ge (by omega) (by omega))
      · refine g_aloadG_n hx dJ7_fill_d0a16_12 rfl (nx := 13) rfl rfl ?_
        refine g_iloadG_n hx dJ7_fill_d0a16_13 rfl (nx := 14) rfl rfl ?_
        refine g_lloadG_n hx dJ7_fill_d0a16_14 rfl (nx := 15) rfl rfl ?_
        refine g_lastore hx dJ7_fill_d0a16_15 (nx := 16) rfl hq (by omega) (vp_in_nI (by omega) (by omega)) ?_
        refine g_iinc_3 hx dJ7_fill_d0a16_16 (nx := 19) rfl (by decide) (v := 1) (by decide) rfl ?_
        refine g_goto hx dJ7_fill_d0a16_19 (tg := 6) (by decide) ?_
        rw [← nI_succ, hn]
        refine ih (i + 1) _ (by omega) (fun a b h => ?_) (fun b h => ?_)
        · rw [au2_n (fun z => h z.1)]; exact h1 a b h
        · by_cases e : b = i
          · rw [e, au2_s]
          · rw [au2_n (fun z => e z.2)]; exact h2 b (by omega)
  refine g_iconst hx dJ7_fill_d0a16_0 (nx := 1) rfl (v := 0) (by decide) ?_
  refine g_istore_3 hx dJ7_fill_d0a16_1 (nx := 2) rfl (by decide) rfl ?_
  refine g_aloadG_n hx dJ7_fill_d0a16_2 rfl (nx := 3) rfl rfl ?_
  refine g_alen hx dJ7_fill_d0a16_3 (nx := 4) rfl hq (by omega) ⟨1, rfl⟩ ?_
  refine g_istore_4 hx dJ7_fill_d0a16_4 (nx := 6) rfl (by decide) rfl ?_
  exact loop N 0 L (Nat.zero_add _) (fun _ _ _ => rfl) (fun b h => absurd h (Nat.not_lt_zero _))

abbrev rmJ7_fill_53178 : Room := { frames := 0, cells := 0, slots := 0, locals := 0 }
set_option maxHeartbeats 4000000 in
set_option maxRecDepth 100000 in
theorem s_J7_fill_53178 {l : Launch} {E : aE} {S : aS} {I : aI} {L : aL} {Rf : aR} {Kr : aK} {Kx : aX} (hst : l.stackTraces = false) {q N : Nat} {v : Int32} (hq : S q = some (.inl (.int, N))) (hq2 : 3 ≤ q) (hN : N < 65536) (hk : ∀ I', (∀ a b, a ≠ q → I' a b = I a b) → (∀ b, b < N → I' q b = v) → Kr none S I' L Rf) : aMet l E yJ7_fill_53178 cJ7_fill_53178 4 none rmJ7_fill_53178 [.ref q, .int v] (S) (I) (L) (Rf) Kr Kx := by
  refine aMet.of (lv0 := [.ref q, .int v, aU, aU]) (z := 2) (by decide +kernel) hst rfl (Nat.le_of_ble_eq_true rfl) ?_
  intro p e s m args below meth c io0 hx hin hno
  have hx : aCx p l s m args meth c RJ7 cJ7_fill_53178 4 none E := hx
  have loop : ∀ (r i : Nat) (I' : aI), i + r = N → (∀ a b, a ≠ q → I' a b = I a b) → (∀ b, b < i → I' q b = v) → aG p l e rmJ7_fill_53178 s m args below meth c E io0 S 4 (vx_MQ below (aQc E io0 S Kr) (aXC E io0 S Kx) args s rmJ7_fill_53178.cells rmJ7_fill_53178.slots (aW E)) 5 [.ref q, .int v, .int (nI i), .int (Int32.ofNat N)] [] S I' L Rf 0 0 := by
    intro r
    induction r with
    | zero =>
      intro i I' hi h1 h2
      have hi : i = N := by omega
      subst hi
      refine g_iloadG_n hx dJ7_fill_53178_5 rfl (nx := 6) rfl rfl ?_
      refine g_iloadG_n hx dJ7_fill_53178_6 rfl (nx := 7) rfl rfl ?_
      refine g_icmp_ge hx dJ7_fill_53178_7 (tg := 20) (by decide) (nx := 10) rfl (fun c7 => ?_) (fun c7 => ?_)
      · refine g_vret hx dJ7_fill_53178_20 rfl (Nat.le_of_ble_eq_true rfl) (Nat.le_of_ble_eq_true rfl) ?_
        exact hk I' h1 h2
      · exact absurd (Int32.le_refl (nI i)) c7
    | succ r ih =>
      intro i I' hi h1 h2
      have hn : (nI i).toNatClampNeg = i := nI_clamp (by omega)
      refine g_iloadG_n hx dJ7_fill_53178_5 rfl (nx := 6) rfl rfl ?_
      refine g_iloadG_n hx dJ7_fill_53178_6 rfl (nx := 7) rfl rfl ?_
      refine g_icmp_ge hx dJ7_fill_53178_7 (tg := 20) (by decide) (nx := 10) rfl (fun c7 => ?_) (fun c7 => ?_)
      · exact absurd c7 (nI_ge (by omega) (by omega))
      · refine g_aloadG_n hx dJ7_fill_53178_10 rfl (nx := 11) rfl rfl ?_
        refine g_iloadG_n hx dJ7_fill_53178_11 rfl (nx := 12) rfl rfl ?_
        refine g_iloadG_n hx dJ7_fill_53178_12 rfl (nx := 13) rfl rfl ?_
        refine g_iastore hx dJ7_fill_53178_13 (nx := 14) rfl hq (by omega) (vp_in_nI (by omega) (by omega)) ?_
        refine g_iinc_2 hx dJ7_fill_53178_14 (nx := 17) rfl (by decide) (v := 1) (by decide) rfl ?_
        refine g_goto hx dJ7_fill_53178_17 (tg := 5) (by decide) ?_
        rw [← nI_succ, hn]
        refine ih (i + 1) _ (by omega) (fun a b h => ?_) (fun b h => ?_)
        · rw [au2_n (fun z => h z.1)]; exact h1 a b h
        · by_cases e : b = i
          · rw [e, au2_s]
          · rw [au2_n (fun z => e z.2)]; exact h2 b (by omega)
  refine g_iconst hx dJ7_fill_53178_0 (nx := 1) rfl (v := 0) (by decide) ?_
  refine g_istore_2 hx dJ7_fill_53178_1 (nx := 2) rfl (by decide) rfl ?_
  refine g_aloadG_n hx dJ7_fill_53178_2 rfl (nx := 3) rfl rfl ?_
  refine g_alen hx dJ7_fill_53178_3 (nx := 4) rfl hq (by omega) ⟨0, rfl⟩ ?_
  refine g_istore_3 hx dJ7_fill_53178_4 (nx := 5) rfl (by decide) rfl ?_
  exact loop N 0 I (Nat.zero_add _) (fun _ _ _ => rfl) (fun b h => absurd h (Nat.not_lt_zero _))

