section AG
variable {p : Program} {l : Launch} {e : Env} {R : Room} {s : State} {m : MethodId} {args : Array Value} {below : List Frame} {meth : Method} {c : Code} {E : aE} {io0 : aM} {S0 : aS} {nL : Nat} {Q : State → Prop}
def aG (p : Program) (l : Launch) (e : Env) (R : Room) (s : State) (m : MethodId) (args : Array Value) (below : List Frame) (meth : Method) (c : Code) (E : aE) (io0 : aM) (S0 : aS) (nL : Nat) (Q : State → Prop) (pc : Nat) (lv st : List Value) (S : aS) (I : aI) (L : aL) (Rf : aR) (k n : Nat) : Prop :=
  ∀ (io : aM) (H : Heap) (locs : List Loc) (ls : Array Slot), aHR E io S I L Rf H → (∀ q, S0 q ≠ none → io q = io0 q ∧ S q = S0 q) → aOk S lv → aOk S st → va_S (aW E) s.heap H locs → aLc io nL lv ls → W p l e R s m args below meth c H locs k n Q (F0 m pc ls (st.map (arn io)))
def aCx (p : Program) (l : Launch) (s : State) (m : MethodId) (args : Array Value) (meth : Method) (c : Code) (own : String) (cc : ByteArray) (nL : Nat) (ret : Option FieldType) (E : aE) : Prop :=
  p.tables.exec = Jvm.exec ∧ c.code = cc ∧ c.maxLocals = nL ∧ s.vm.findClass own = some m.cls ∧ (∀ w ∈ aBIG, w.before args s = true) ∧ meth.locks = false ∧ aEv E s ∧ l.stackTraces = false ∧ meth.sig.returnType = ret
variable {own : String} {cc : ByteArray} {ret : Option FieldType} {pc nx : Nat} {lv st : List Value} {S : aS} {I : aI} {L : aL} {Rf : aR} {k n : Nat}

theorem g_iconst (hx : aCx p l s m args meth c own cc nL ret E) {i : Int} {v : Int32} (d : decode cc pc = .ok (.iconst i, 1)) (hn : pc + 1 = nx) (hv : Int32.ofInt i = v) (kk : aG p l e R s m args below meth c E io0 S0 nL Q nx lv (.int v :: st) S I L Rf k n) : aG p l e R s m args below meth c E io0 S0 nL Q pc lv (st) S I L Rf k n := by
  subst hn
  intro io H locs ls h1 h2 h3 h4 h5 h6
  exact lv_iconst hx.1 hx.2.1 d hv (kk io H locs ls h1 h2 h3 (h4.i) h5 h6)

theorem g_bipush (hx : aCx p l s m args meth c own cc nL ret E) {i : Int} {v : Int32} (d : decode cc pc = .ok (.bipush i, 2)) (hn : pc + 2 = nx) (hv : (Int8.ofInt i).toInt32 = v) (kk : aG p l e R s m args below meth c E io0 S0 nL Q nx lv (.int v :: st) S I L Rf k n) : aG p l e R s m args below meth c E io0 S0 nL Q pc lv (st) S I L Rf k n := by
  subst hn
  intro io H locs ls h1 h2 h3 h4 h5 h6
  exact lv_bipush hx.1 hx.2.1 d hv (kk io H locs ls h1 h2 h3 (h4.i) h5 h6)

theorem g_sipush (hx : aCx p l s m args meth c own cc nL ret E) {i : Int} {v : Int32} (d : decode cc pc = .ok (.sipush i, 3)) (hn : pc + 3 = nx) (hv : (Int16.ofInt i).toInt32 = v) (kk : aG p l e R s m args below meth c E io0 S0 nL Q nx lv (.int v :: st) S I L Rf k n) : aG p l e R s m args below meth c E io0 S0 nL Q pc lv (st) S I L Rf k n := by
  subst hn
  intro io H locs ls h1 h2 h3 h4 h5 h6
  exact lv_sipush hx.1 hx.2.1 d hv (kk io H locs ls h1 h2 h3 (h4.i) h5 h6)

theorem g_lconst (hx : aCx p l s m args meth c own cc nL ret E) {i : Fin 2} {v : Int64} (d : decode cc pc = .ok (.lconst i, 1)) (hn : pc + 1 = nx) (hv : Int64.ofNat (i : Nat) = v) (kk : aG p l e R s m args below meth c E io0 S0 nL Q nx lv (.long v :: st) S I L Rf k n) : aG p l e R s m args below meth c E io0 S0 nL Q pc lv (st) S I L Rf k n := by
  subst hn
  intro io H locs ls h1 h2 h3 h4 h5 h6
  exact lv_lconst hx.1 hx.2.1 d hv (kk io H locs ls h1 h2 h3 (h4.l) h5 h6)

theorem g_ldc (hx : aCx p l s m args meth c own cc nL ret E) {i : Nat} {v : Int32} (d : decode cc pc = .ok (.ldc i, 2)) (hn : pc + 2 = nx) (hw : Cond.constant own i v ∈ aBIG) (kk : aG p l e R s m args below meth c E io0 S0 nL Q nx lv (.int v :: st) S I L Rf k n) : aG p l e R s m args below meth c E io0 S0 nL Q pc lv (st) S I L Rf k n := by
  subst hn
  intro io H locs ls h1 h2 h3 h4 h5 h6
  exact lv_ldc hx.1 hx.2.1 hx.2.2.2.1 (hx.2.2.2.2.1 _ hw) d (kk io H locs ls h1 h2 h3 (h4.i) h5 h6)

theorem g_ldc_w (hx : aCx p l s m args meth c own cc nL ret E) {i : Nat} {v : Int32} (d : decode cc pc = .ok (.ldc_w i, 3)) (hn : pc + 3 = nx) (hw : Cond.constant own i v ∈ aBIG) (kk : aG p l e R s m args below meth c E io0 S0 nL Q nx lv (.int v :: st) S I L Rf k n) : aG p l e R s m args below meth c E io0 S0 nL Q pc lv (st) S I L Rf k n := by
  subst hn
  intro io H locs ls h1 h2 h3 h4 h5 h6
  exact lv_ldcw hx.1 hx.2.1 hx.2.2.2.1 (hx.2.2.2.2.1 _ hw) d (kk io H locs ls h1 h2 h3 (h4.i) h5 h6)

theorem g_ldc2 (hx : aCx p l s m args meth c own cc nL ret E) {i : Nat} {v : Int64} (d : decode cc pc = .ok (.ldc2_w i, 3)) (hn : pc + 3 = nx) (hw : Cond.constantLong own i v ∈ aBIG) (kk : aG p l e R s m args below meth c E io0 S0 nL Q nx lv (.long v :: st) S I L Rf k n) : aG p l e R s m args below meth c E io0 S0 nL Q pc lv (st) S I L Rf k n := by
  subst hn
  intro io H locs ls h1 h2 h3 h4 h5 h6
  exact lv_ldc2 hx.1 hx.2.1 hx.2.2.2.1 (hx.2.2.2.2.1 _ hw) d (kk io H locs ls h1 h2 h3 (h4.l) h5 h6)

theorem g_null (hx : aCx p l s m args meth c own cc nL ret E)  (d : decode cc pc = .ok (.aconst_null, 1)) (hn : pc + 1 = nx)  (kk : aG p l e R s m args below meth c E io0 S0 nL Q nx lv (.null :: st) S I L Rf k n) : aG p l e R s m args below meth c E io0 S0 nL Q pc lv (st) S I L Rf k n := by
  subst hn
  intro io H locs ls h1 h2 h3 h4 h5 h6
  exact lv_null hx.1 hx.2.1 d (kk io H locs ls h1 h2 h3 (h4.n) h5 h6)

theorem g_iadd (hx : aCx p l s m args meth c own cc nL ret E) {x y : Int32} (d : decode cc pc = .ok (.iadd, 1)) (hn : pc + 1 = nx)  (kk : aG p l e R s m args below meth c E io0 S0 nL Q nx lv (.int (x + y) :: st) S I L Rf k n) : aG p l e R s m args below meth c E io0 S0 nL Q pc lv (.int y :: .int x :: st) S I L Rf k n := by
  subst hn
  intro io H locs ls h1 h2 h3 h4 h5 h6
  exact lv_iadd hx.1 hx.2.1 d (kk io H locs ls h1 h2 h3 (h4.tl.tl.i) h5 h6)

theorem g_isub (hx : aCx p l s m args meth c own cc nL ret E) {x y : Int32} (d : decode cc pc = .ok (.isub, 1)) (hn : pc + 1 = nx)  (kk : aG p l e R s m args below meth c E io0 S0 nL Q nx lv (.int (x - y) :: st) S I L Rf k n) : aG p l e R s m args below meth c E io0 S0 nL Q pc lv (.int y :: .int x :: st) S I L Rf k n := by
  subst hn
  intro io H locs ls h1 h2 h3 h4 h5 h6
  exact lv_isub hx.1 hx.2.1 d (kk io H locs ls h1 h2 h3 (h4.tl.tl.i) h5 h6)

theorem g_imul (hx : aCx p l s m args meth c own cc nL ret E) {x y : Int32} (d : decode cc pc = .ok (.imul, 1)) (hn : pc + 1 = nx)  (kk : aG p l e R s m args below meth c E io0 S0 nL Q nx lv (.int (x * y) :: st) S I L Rf k n) : aG p l e R s m args below meth c E io0 S0 nL Q pc lv (.int y :: .int x :: st) S I L Rf k n := by
  subst hn
  intro io H locs ls h1 h2 h3 h4 h5 h6
  exact lv_imul hx.1 hx.2.1 d (kk io H locs ls h1 h2 h3 (h4.tl.tl.i) h5 h6)

theorem g_iand (hx : aCx p l s m args meth c own cc nL ret E) {x y : Int32} (d : decode cc pc = .ok (.iand, 1)) (hn : pc + 1 = nx)  (kk : aG p l e R s m args below meth c E io0 S0 nL Q nx lv (.int (x &&& y) :: st) S I L Rf k n) : aG p l e R s m args below meth c E io0 S0 nL Q pc lv (.int y :: .int x :: st) S I L Rf k n := by
  subst hn
  intro io H locs ls h1 h2 h3 h4 h5 h6
  exact lv_iand hx.1 hx.2.1 d (kk io H locs ls h1 h2 h3 (h4.tl.tl.i) h5 h6)

theorem g_ior (hx : aCx p l s m args meth c own cc nL ret E) {x y : Int32} (d : decode cc pc = .ok (.ior, 1)) (hn : pc + 1 = nx)  (kk : aG p l e R s m args below meth c E io0 S0 nL Q nx lv (.int (x ||| y) :: st) S I L Rf k n) : aG p l e R s m args below meth c E io0 S0 nL Q pc lv (.int y :: .int x :: st) S I L Rf k n := by
  subst hn
  intro io H locs ls h1 h2 h3 h4 h5 h6
  exact lv_ior hx.1 hx.2.1 d (kk io H locs ls h1 h2 h3 (h4.tl.tl.i) h5 h6)

theorem g_ixor (hx : aCx p l s m args meth c own cc nL ret E) {x y : Int32} (d : decode cc pc = .ok (.ixor, 1)) (hn : pc + 1 = nx)  (kk : aG p l e R s m args below meth c E io0 S0 nL Q nx lv (.int (x ^^^ y) :: st) S I L Rf k n) : aG p l e R s m args below meth c E io0 S0 nL Q pc lv (.int y :: .int x :: st) S I L Rf k n := by
  subst hn
  intro io H locs ls h1 h2 h3 h4 h5 h6
  exact lv_ixor hx.1 hx.2.1 d (kk io H locs ls h1 h2 h3 (h4.tl.tl.i) h5 h6)

theorem g_ladd (hx : aCx p l s m args meth c own cc nL ret E) {x y : Int64} (d : decode cc pc = .ok (.ladd, 1)) (hn : pc + 1 = nx)  (kk : aG p l e R s m args below meth c E io0 S0 nL Q nx lv (.long (x + y) :: st) S I L Rf k n) : aG p l e R s m args below meth c E io0 S0 nL Q pc lv (.long y :: .long x :: st) S I L Rf k n := by
  subst hn
  intro io H locs ls h1 h2 h3 h4 h5 h6
  exact lv_ladd hx.1 hx.2.1 d (kk io H locs ls h1 h2 h3 (h4.tl.tl.l) h5 h6)

theorem g_lsub (hx : aCx p l s m args meth c own cc nL ret E) {x y : Int64} (d : decode cc pc = .ok (.lsub, 1)) (hn : pc + 1 = nx)  (kk : aG p l e R s m args below meth c E io0 S0 nL Q nx lv (.long (x - y) :: st) S I L Rf k n) : aG p l e R s m args below meth c E io0 S0 nL Q pc lv (.long y :: .long x :: st) S I L Rf k n := by
  subst hn
  intro io H locs ls h1 h2 h3 h4 h5 h6
  exact lv_lsub hx.1 hx.2.1 d (kk io H locs ls h1 h2 h3 (h4.tl.tl.l) h5 h6)

theorem g_lmul (hx : aCx p l s m args meth c own cc nL ret E) {x y : Int64} (d : decode cc pc = .ok (.lmul, 1)) (hn : pc + 1 = nx)  (kk : aG p l e R s m args below meth c E io0 S0 nL Q nx lv (.long (x * y) :: st) S I L Rf k n) : aG p l e R s m args below meth c E io0 S0 nL Q pc lv (.long y :: .long x :: st) S I L Rf k n := by
  subst hn
  intro io H locs ls h1 h2 h3 h4 h5 h6
  exact lv_lmul hx.1 hx.2.1 d (kk io H locs ls h1 h2 h3 (h4.tl.tl.l) h5 h6)

theorem g_land (hx : aCx p l s m args meth c own cc nL ret E) {x y : Int64} (d : decode cc pc = .ok (.land, 1)) (hn : pc + 1 = nx)  (kk : aG p l e R s m args below meth c E io0 S0 nL Q nx lv (.long (x &&& y) :: st) S I L Rf k n) : aG p l e R s m args below meth c E io0 S0 nL Q pc lv (.long y :: .long x :: st) S I L Rf k n := by
  subst hn
  intro io H locs ls h1 h2 h3 h4 h5 h6
  exact lv_land hx.1 hx.2.1 d (kk io H locs ls h1 h2 h3 (h4.tl.tl.l) h5 h6)

theorem g_lor (hx : aCx p l s m args meth c own cc nL ret E) {x y : Int64} (d : decode cc pc = .ok (.lor, 1)) (hn : pc + 1 = nx)  (kk : aG p l e R s m args below meth c E io0 S0 nL Q nx lv (.long (x ||| y) :: st) S I L Rf k n) : aG p l e R s m args below meth c E io0 S0 nL Q pc lv (.long y :: .long x :: st) S I L Rf k n := by
  subst hn
  intro io H locs ls h1 h2 h3 h4 h5 h6
  exact lv_lor hx.1 hx.2.1 d (kk io H locs ls h1 h2 h3 (h4.tl.tl.l) h5 h6)

theorem g_lxor (hx : aCx p l s m args meth c own cc nL ret E) {x y : Int64} (d : decode cc pc = .ok (.lxor, 1)) (hn : pc + 1 = nx)  (kk : aG p l e R s m args below meth c E io0 S0 nL Q nx lv (.long (x ^^^ y) :: st) S I L Rf k n) : aG p l e R s m args below meth c E io0 S0 nL Q pc lv (.long y :: .long x :: st) S I L Rf k n := by
  subst hn
  intro io H locs ls h1 h2 h3 h4 h5 h6
  exact lv_lxor hx.1 hx.2.1 d (kk io H locs ls h1 h2 h3 (h4.tl.tl.l) h5 h6)

theorem g_idiv (hx : aCx p l s m args meth c own cc nL ret E) {x y : Int32} (d : decode cc pc = .ok (.idiv, 1)) (hn : pc + 1 = nx) (h0 : ¬ y = 0) (kk : aG p l e R s m args below meth c E io0 S0 nL Q nx lv (.int (x / y) :: st) S I L Rf k n) : aG p l e R s m args below meth c E io0 S0 nL Q pc lv (.int y :: .int x :: st) S I L Rf k n := by
  subst hn
  intro io H locs ls h1 h2 h3 h4 h5 h6
  exact lv_idiv hx.1 hx.2.1 d h0 (kk io H locs ls h1 h2 h3 (h4.tl.tl.i) h5 h6)

theorem g_irem (hx : aCx p l s m args meth c own cc nL ret E) {x y : Int32} (d : decode cc pc = .ok (.irem, 1)) (hn : pc + 1 = nx) (h0 : ¬ y = 0) (kk : aG p l e R s m args below meth c E io0 S0 nL Q nx lv (.int (x - x / y * y) :: st) S I L Rf k n) : aG p l e R s m args below meth c E io0 S0 nL Q pc lv (.int y :: .int x :: st) S I L Rf k n := by
  subst hn
  intro io H locs ls h1 h2 h3 h4 h5 h6
  exact lv_irem hx.1 hx.2.1 d h0 (kk io H locs ls h1 h2 h3 (h4.tl.tl.i) h5 h6)

theorem g_ldiv (hx : aCx p l s m args meth c own cc nL ret E) {x y : Int64} (d : decode cc pc = .ok (.ldiv, 1)) (hn : pc + 1 = nx) (h0 : ¬ y = 0) (kk : aG p l e R s m args below meth c E io0 S0 nL Q nx lv (.long (x / y) :: st) S I L Rf k n) : aG p l e R s m args below meth c E io0 S0 nL Q pc lv (.long y :: .long x :: st) S I L Rf k n := by
  subst hn
  intro io H locs ls h1 h2 h3 h4 h5 h6
  exact lv_ldiv hx.1 hx.2.1 d h0 (kk io H locs ls h1 h2 h3 (h4.tl.tl.l) h5 h6)

theorem g_lrem (hx : aCx p l s m args meth c own cc nL ret E) {x y : Int64} (d : decode cc pc = .ok (.lrem, 1)) (hn : pc + 1 = nx) (h0 : ¬ y = 0) (kk : aG p l e R s m args below meth c E io0 S0 nL Q nx lv (.long (x - x / y * y) :: st) S I L Rf k n) : aG p l e R s m args below meth c E io0 S0 nL Q pc lv (.long y :: .long x :: st) S I L Rf k n := by
  subst hn
  intro io H locs ls h1 h2 h3 h4 h5 h6
  exact lv_lrem hx.1 hx.2.1 d h0 (kk io H locs ls h1 h2 h3 (h4.tl.tl.l) h5 h6)

theorem g_ineg (hx : aCx p l s m args meth c own cc nL ret E) {x : Int32} (d : decode cc pc = .ok (.ineg, 1)) (hn : pc + 1 = nx)  (kk : aG p l e R s m args below meth c E io0 S0 nL Q nx lv (.int (-x) :: st) S I L Rf k n) : aG p l e R s m args below meth c E io0 S0 nL Q pc lv (.int x :: st) S I L Rf k n := by
  subst hn
  intro io H locs ls h1 h2 h3 h4 h5 h6
  exact lv_ineg hx.1 hx.2.1 d (kk io H locs ls h1 h2 h3 (h4.tl.i) h5 h6)

theorem g_lneg (hx : aCx p l s m args meth c own cc nL ret E) {x : Int64} (d : decode cc pc = .ok (.lneg, 1)) (hn : pc + 1 = nx)  (kk : aG p l e R s m args below meth c E io0 S0 nL Q nx lv (.long (-x) :: st) S I L Rf k n) : aG p l e R s m args below meth c E io0 S0 nL Q pc lv (.long x :: st) S I L Rf k n := by
  subst hn
  intro io H locs ls h1 h2 h3 h4 h5 h6
  exact lv_lneg hx.1 hx.2.1 d (kk io H locs ls h1 h2 h3 (h4.tl.l) h5 h6)

theorem g_ishl (hx : aCx p l s m args meth c own cc nL ret E) {x y : Int32} (d : decode cc pc = .ok (.ishl, 1)) (hn : pc + 1 = nx)  (kk : aG p l e R s m args below meth c E io0 S0 nL Q nx lv (.int (x <<< (y &&& 31)) :: st) S I L Rf k n) : aG p l e R s m args below meth c E io0 S0 nL Q pc lv (.int y :: .int x :: st) S I L Rf k n := by
  subst hn
  intro io H locs ls h1 h2 h3 h4 h5 h6
  exact lv_ishl hx.1 hx.2.1 d (kk io H locs ls h1 h2 h3 (h4.tl.tl.i) h5 h6)

theorem g_ishr (hx : aCx p l s m args meth c own cc nL ret E) {x y : Int32} (d : decode cc pc = .ok (.ishr, 1)) (hn : pc + 1 = nx)  (kk : aG p l e R s m args below meth c E io0 S0 nL Q nx lv (.int (x >>> (y &&& 31)) :: st) S I L Rf k n) : aG p l e R s m args below meth c E io0 S0 nL Q pc lv (.int y :: .int x :: st) S I L Rf k n := by
  subst hn
  intro io H locs ls h1 h2 h3 h4 h5 h6
  exact lv_ishr hx.1 hx.2.1 d (kk io H locs ls h1 h2 h3 (h4.tl.tl.i) h5 h6)

theorem g_lshl (hx : aCx p l s m args meth c own cc nL ret E) {x : Int64} {y : Int32} (d : decode cc pc = .ok (.lshl, 1)) (hn : pc + 1 = nx)  (kk : aG p l e R s m args below meth c E io0 S0 nL Q nx lv (.long (x <<< (y.toInt64 &&& 63)) :: st) S I L Rf k n) : aG p l e R s m args below meth c E io0 S0 nL Q pc lv (.int y :: .long x :: st) S I L Rf k n := by
  subst hn
  intro io H locs ls h1 h2 h3 h4 h5 h6
  exact lv_lshl hx.1 hx.2.1 d rfl (kk io H locs ls h1 h2 h3 (h4.tl.tl.l) h5 h6)

theorem g_lshr (hx : aCx p l s m args meth c own cc nL ret E) {x : Int64} {y : Int32} (d : decode cc pc = .ok (.lshr, 1)) (hn : pc + 1 = nx)  (kk : aG p l e R s m args below meth c E io0 S0 nL Q nx lv (.long (x >>> (y.toInt64 &&& 63)) :: st) S I L Rf k n) : aG p l e R s m args below meth c E io0 S0 nL Q pc lv (.int y :: .long x :: st) S I L Rf k n := by
  subst hn
  intro io H locs ls h1 h2 h3 h4 h5 h6
  exact lv_lshr hx.1 hx.2.1 d rfl (kk io H locs ls h1 h2 h3 (h4.tl.tl.l) h5 h6)

theorem g_lushr (hx : aCx p l s m args meth c own cc nL ret E) {x : Int64} {y : Int32} (d : decode cc pc = .ok (.lushr, 1)) (hn : pc + 1 = nx)  (kk : aG p l e R s m args below meth c E io0 S0 nL Q nx lv (.long ((x.toUInt64 >>> (y.toInt64.toUInt64 &&& Int64.toUInt64 63)).toInt64) :: st) S I L Rf k n) : aG p l e R s m args below meth c E io0 S0 nL Q pc lv (.int y :: .long x :: st) S I L Rf k n := by
  subst hn
  intro io H locs ls h1 h2 h3 h4 h5 h6
  exact lv_lushr hx.1 hx.2.1 d rfl (kk io H locs ls h1 h2 h3 (h4.tl.tl.l) h5 h6)

theorem g_i2l (hx : aCx p l s m args meth c own cc nL ret E) {x : Int32} (d : decode cc pc = .ok (.i2l, 1)) (hn : pc + 1 = nx)  (kk : aG p l e R s m args below meth c E io0 S0 nL Q nx lv (.long x.toInt64 :: st) S I L Rf k n) : aG p l e R s m args below meth c E io0 S0 nL Q pc lv (.int x :: st) S I L Rf k n := by
  subst hn
  intro io H locs ls h1 h2 h3 h4 h5 h6
  exact lv_i2l hx.1 hx.2.1 d rfl (kk io H locs ls h1 h2 h3 (h4.tl.l) h5 h6)

theorem g_l2i (hx : aCx p l s m args meth c own cc nL ret E) {x : Int64} (d : decode cc pc = .ok (.l2i, 1)) (hn : pc + 1 = nx)  (kk : aG p l e R s m args below meth c E io0 S0 nL Q nx lv (.int x.toInt32 :: st) S I L Rf k n) : aG p l e R s m args below meth c E io0 S0 nL Q pc lv (.long x :: st) S I L Rf k n := by
  subst hn
  intro io H locs ls h1 h2 h3 h4 h5 h6
  exact lv_l2i hx.1 hx.2.1 d rfl (kk io H locs ls h1 h2 h3 (h4.tl.i) h5 h6)

theorem g_dup (hx : aCx p l s m args meth c own cc nL ret E) {v : Value} (d : decode cc pc = .ok (.dup, 1)) (hn : pc + 1 = nx) (hc : v.category = 1) (kk : aG p l e R s m args below meth c E io0 S0 nL Q nx lv (v :: v :: st) S I L Rf k n) : aG p l e R s m args below meth c E io0 S0 nL Q pc lv (v :: st) S I L Rf k n := by
  subst hn
  intro io H locs ls h1 h2 h3 h4 h5 h6
  exact lv_dup hx.1 hx.2.1 d ((arn_cat io v).trans hc) (kk io H locs ls h1 h2 h3 (h4.cons (h4 _ List.mem_cons_self)) h5 h6)

theorem g_dup2i (hx : aCx p l s m args meth c own cc nL ret E) {v w : Value} (d : decode cc pc = .ok (.dup2, 1)) (hn : pc + 1 = nx) (hc : v.category = 1) (hd : w.category = 1) (kk : aG p l e R s m args below meth c E io0 S0 nL Q nx lv (v :: w :: v :: w :: st) S I L Rf k n) : aG p l e R s m args below meth c E io0 S0 nL Q pc lv (v :: w :: st) S I L Rf k n := by
  subst hn
  intro io H locs ls h1 h2 h3 h4 h5 h6
  exact lv_dup2_11 hx.1 hx.2.1 d ((arn_cat io v).trans hc) ((arn_cat io w).trans hd) (kk io H locs ls h1 h2 h3 ((h4.cons (h4 _ (List.mem_cons_of_mem _ List.mem_cons_self))).cons (h4 _ List.mem_cons_self)) h5 h6)

theorem g_dup2l (hx : aCx p l s m args meth c own cc nL ret E) {v : Value} (d : decode cc pc = .ok (.dup2, 1)) (hn : pc + 1 = nx) (hc : v.category = 2) (kk : aG p l e R s m args below meth c E io0 S0 nL Q nx lv (v :: v :: st) S I L Rf k n) : aG p l e R s m args below meth c E io0 S0 nL Q pc lv (v :: st) S I L Rf k n := by
  subst hn
  intro io H locs ls h1 h2 h3 h4 h5 h6
  exact lv_dup2_2 hx.1 hx.2.1 d ((arn_cat io v).trans hc) (kk io H locs ls h1 h2 h3 (h4.cons (h4 _ List.mem_cons_self)) h5 h6)

theorem g_pop (hx : aCx p l s m args meth c own cc nL ret E) {v : Value} (d : decode cc pc = .ok (.pop, 1)) (hn : pc + 1 = nx) (hc : v.category = 1) (kk : aG p l e R s m args below meth c E io0 S0 nL Q nx lv (st) S I L Rf k n) : aG p l e R s m args below meth c E io0 S0 nL Q pc lv (v :: st) S I L Rf k n := by
  subst hn
  intro io H locs ls h1 h2 h3 h4 h5 h6
  exact lv_pop hx.1 hx.2.1 d ((arn_cat io v).trans hc) (kk io H locs ls h1 h2 h3 (h4.tl) h5 h6)

theorem g_lcmp (hx : aCx p l s m args meth c own cc nL ret E) {x y : Int64} (d : decode cc pc = .ok (.lcmp, 1)) (hn : pc + 1 = nx) (kk : aG p l e R s m args below meth c E io0 S0 nL Q nx lv (.int (lg_cmp x y) :: st) S I L Rf k n) : aG p l e R s m args below meth c E io0 S0 nL Q pc lv (.long y :: .long x :: st) S I L Rf k n := by
  subst hn
  intro io H locs ls h1 h2 h3 h4 h5 h6
  exact W.lcmp hx.1 hx.2.1 d (kk io H locs ls h1 h2 h3 h4.tl.tl.i h5 h6)

theorem g_if_eq (hx : aCx p l s m args meth c own cc nL ret E) {x : Int32} {off : Int} {tg : Nat} (d : decode cc pc = .ok (.ifCond .eq off, 3)) (ht : (pc : Int) + off = (tg : Int)) (hn : pc + 3 = nx) (kt : x = 0 → aG p l e R s m args below meth c E io0 S0 nL Q tg lv (st) S I L Rf k n) (kf : ¬ (x = 0) → aG p l e R s m args below meth c E io0 S0 nL Q nx lv (st) S I L Rf k n) : aG p l e R s m args below meth c E io0 S0 nL Q pc lv (.int x :: st) S I L Rf k n := by
  subst hn
  intro io H locs ls h1 h2 h3 h4 h5 h6
  exact lv_if_eq hx.1 hx.2.1 d ht (fun q => kt q io H locs ls h1 h2 h3 h4.tl h5 h6) (fun q => kf q io H locs ls h1 h2 h3 h4.tl h5 h6)

theorem g_if_ne (hx : aCx p l s m args meth c own cc nL ret E) {x : Int32} {off : Int} {tg : Nat} (d : decode cc pc = .ok (.ifCond .ne off, 3)) (ht : (pc : Int) + off = (tg : Int)) (hn : pc + 3 = nx) (kt : x ≠ 0 → aG p l e R s m args below meth c E io0 S0 nL Q tg lv (st) S I L Rf k n) (kf : x = 0 → aG p l e R s m args below meth c E io0 S0 nL Q nx lv (st) S I L Rf k n) : aG p l e R s m args below meth c E io0 S0 nL Q pc lv (.int x :: st) S I L Rf k n := by
  subst hn
  intro io H locs ls h1 h2 h3 h4 h5 h6
  exact lv_if_ne hx.1 hx.2.1 d ht (fun q => kt q io H locs ls h1 h2 h3 h4.tl h5 h6) (fun q => kf q io H locs ls h1 h2 h3 h4.tl h5 h6)

theorem g_if_lt (hx : aCx p l s m args meth c own cc nL ret E) {x : Int32} {off : Int} {tg : Nat} (d : decode cc pc = .ok (.ifCond .lt off, 3)) (ht : (pc : Int) + off = (tg : Int)) (hn : pc + 3 = nx) (kt : x < 0 → aG p l e R s m args below meth c E io0 S0 nL Q tg lv (st) S I L Rf k n) (kf : ¬ (x < 0) → aG p l e R s m args below meth c E io0 S0 nL Q nx lv (st) S I L Rf k n) : aG p l e R s m args below meth c E io0 S0 nL Q pc lv (.int x :: st) S I L Rf k n := by
  subst hn
  intro io H locs ls h1 h2 h3 h4 h5 h6
  exact lv_if_lt hx.1 hx.2.1 d ht (fun q => kt q io H locs ls h1 h2 h3 h4.tl h5 h6) (fun q => kf q io H locs ls h1 h2 h3 h4.tl h5 h6)

theorem g_if_ge (hx : aCx p l s m args meth c own cc nL ret E) {x : Int32} {off : Int} {tg : Nat} (d : decode cc pc = .ok (.ifCond .ge off, 3)) (ht : (pc : Int) + off = (tg : Int)) (hn : pc + 3 = nx) (kt : 0 ≤ x → aG p l e R s m args below meth c E io0 S0 nL Q tg lv (st) S I L Rf k n) (kf : ¬ (0 ≤ x) → aG p l e R s m args below meth c E io0 S0 nL Q nx lv (st) S I L Rf k n) : aG p l e R s m args below meth c E io0 S0 nL Q pc lv (.int x :: st) S I L Rf k n := by
  subst hn
  intro io H locs ls h1 h2 h3 h4 h5 h6
  exact lv_if_ge hx.1 hx.2.1 d ht (fun q => kt q io H locs ls h1 h2 h3 h4.tl h5 h6) (fun q => kf q io H locs ls h1 h2 h3 h4.tl h5 h6)

theorem g_if_gt (hx : aCx p l s m args meth c own cc nL ret E) {x : Int32} {off : Int} {tg : Nat} (d : decode cc pc = .ok (.ifCond .gt off, 3)) (ht : (pc : Int) + off = (tg : Int)) (hn : pc + 3 = nx) (kt : 0 < x → aG p l e R s m args below meth c E io0 S0 nL Q tg lv (st) S I L Rf k n) (kf : ¬ (0 < x) → aG p l e R s m args below meth c E io0 S0 nL Q nx lv (st) S I L Rf k n) : aG p l e R s m args below meth c E io0 S0 nL Q pc lv (.int x :: st) S I L Rf k n := by
  subst hn
  intro io H locs ls h1 h2 h3 h4 h5 h6
  exact lv_if_gt hx.1 hx.2.1 d ht (fun q => kt q io H locs ls h1 h2 h3 h4.tl h5 h6) (fun q => kf q io H locs ls h1 h2 h3 h4.tl h5 h6)

theorem g_if_le (hx : aCx p l s m args meth c own cc nL ret E) {x : Int32} {off : Int} {tg : Nat} (d : decode cc pc = .ok (.ifCond .le off, 3)) (ht : (pc : Int) + off = (tg : Int)) (hn : pc + 3 = nx) (kt : x ≤ 0 → aG p l e R s m args below meth c E io0 S0 nL Q tg lv (st) S I L Rf k n) (kf : ¬ (x ≤ 0) → aG p l e R s m args below meth c E io0 S0 nL Q nx lv (st) S I L Rf k n) : aG p l e R s m args below meth c E io0 S0 nL Q pc lv (.int x :: st) S I L Rf k n := by
  subst hn
  intro io H locs ls h1 h2 h3 h4 h5 h6
  exact lv_if_le hx.1 hx.2.1 d ht (fun q => kt q io H locs ls h1 h2 h3 h4.tl h5 h6) (fun q => kf q io H locs ls h1 h2 h3 h4.tl h5 h6)

theorem g_icmp_eq (hx : aCx p l s m args meth c own cc nL ret E) {x y : Int32} {off : Int} {tg : Nat} (d : decode cc pc = .ok (.if_icmp .eq off, 3)) (ht : (pc : Int) + off = (tg : Int)) (hn : pc + 3 = nx) (kt : x = y → aG p l e R s m args below meth c E io0 S0 nL Q tg lv (st) S I L Rf k n) (kf : ¬ (x = y) → aG p l e R s m args below meth c E io0 S0 nL Q nx lv (st) S I L Rf k n) : aG p l e R s m args below meth c E io0 S0 nL Q pc lv (.int y :: .int x :: st) S I L Rf k n := by
  subst hn
  intro io H locs ls h1 h2 h3 h4 h5 h6
  exact lv_icmp_eq hx.1 hx.2.1 d ht (fun q => kt q io H locs ls h1 h2 h3 h4.tl.tl h5 h6) (fun q => kf q io H locs ls h1 h2 h3 h4.tl.tl h5 h6)

theorem g_icmp_ne (hx : aCx p l s m args meth c own cc nL ret E) {x y : Int32} {off : Int} {tg : Nat} (d : decode cc pc = .ok (.if_icmp .ne off, 3)) (ht : (pc : Int) + off = (tg : Int)) (hn : pc + 3 = nx) (kt : x ≠ y → aG p l e R s m args below meth c E io0 S0 nL Q tg lv (st) S I L Rf k n) (kf : x = y → aG p l e R s m args below meth c E io0 S0 nL Q nx lv (st) S I L Rf k n) : aG p l e R s m args below meth c E io0 S0 nL Q pc lv (.int y :: .int x :: st) S I L Rf k n := by
  subst hn
  intro io H locs ls h1 h2 h3 h4 h5 h6
  exact lv_icmp_ne hx.1 hx.2.1 d ht (fun q => kt q io H locs ls h1 h2 h3 h4.tl.tl h5 h6) (fun q => kf q io H locs ls h1 h2 h3 h4.tl.tl h5 h6)

theorem g_icmp_lt (hx : aCx p l s m args meth c own cc nL ret E) {x y : Int32} {off : Int} {tg : Nat} (d : decode cc pc = .ok (.if_icmp .lt off, 3)) (ht : (pc : Int) + off = (tg : Int)) (hn : pc + 3 = nx) (kt : x < y → aG p l e R s m args below meth c E io0 S0 nL Q tg lv (st) S I L Rf k n) (kf : ¬ (x < y) → aG p l e R s m args below meth c E io0 S0 nL Q nx lv (st) S I L Rf k n) : aG p l e R s m args below meth c E io0 S0 nL Q pc lv (.int y :: .int x :: st) S I L Rf k n := by
  subst hn
  intro io H locs ls h1 h2 h3 h4 h5 h6
  exact lv_icmp_lt hx.1 hx.2.1 d ht (fun q => kt q io H locs ls h1 h2 h3 h4.tl.tl h5 h6) (fun q => kf q io H locs ls h1 h2 h3 h4.tl.tl h5 h6)

theorem g_icmp_ge (hx : aCx p l s m args meth c own cc nL ret E) {x y : Int32} {off : Int} {tg : Nat} (d : decode cc pc = .ok (.if_icmp .ge off, 3)) (ht : (pc : Int) + off = (tg : Int)) (hn : pc + 3 = nx) (kt : y ≤ x → aG p l e R s m args below meth c E io0 S0 nL Q tg lv (st) S I L Rf k n) (kf : ¬ (y ≤ x) → aG p l e R s m args below meth c E io0 S0 nL Q nx lv (st) S I L Rf k n) : aG p l e R s m args below meth c E io0 S0 nL Q pc lv (.int y :: .int x :: st) S I L Rf k n := by
  subst hn
  intro io H locs ls h1 h2 h3 h4 h5 h6
  exact lv_icmp_ge hx.1 hx.2.1 d ht (fun q => kt q io H locs ls h1 h2 h3 h4.tl.tl h5 h6) (fun q => kf q io H locs ls h1 h2 h3 h4.tl.tl h5 h6)

theorem g_icmp_gt (hx : aCx p l s m args meth c own cc nL ret E) {x y : Int32} {off : Int} {tg : Nat} (d : decode cc pc = .ok (.if_icmp .gt off, 3)) (ht : (pc : Int) + off = (tg : Int)) (hn : pc + 3 = nx) (kt : y < x → aG p l e R s m args below meth c E io0 S0 nL Q tg lv (st) S I L Rf k n) (kf : ¬ (y < x) → aG p l e R s m args below meth c E io0 S0 nL Q nx lv (st) S I L Rf k n) : aG p l e R s m args below meth c E io0 S0 nL Q pc lv (.int y :: .int x :: st) S I L Rf k n := by
  subst hn
  intro io H locs ls h1 h2 h3 h4 h5 h6
  exact lv_icmp_gt hx.1 hx.2.1 d ht (fun q => kt q io H locs ls h1 h2 h3 h4.tl.tl h5 h6) (fun q => kf q io H locs ls h1 h2 h3 h4.tl.tl h5 h6)

theorem g_icmp_le (hx : aCx p l s m args meth c own cc nL ret E) {x y : Int32} {off : Int} {tg : Nat} (d : decode cc pc = .ok (.if_icmp .le off, 3)) (ht : (pc : Int) + off = (tg : Int)) (hn : pc + 3 = nx) (kt : x ≤ y → aG p l e R s m args below meth c E io0 S0 nL Q tg lv (st) S I L Rf k n) (kf : ¬ (x ≤ y) → aG p l e R s m args below meth c E io0 S0 nL Q nx lv (st) S I L Rf k n) : aG p l e R s m args below meth c E io0 S0 nL Q pc lv (.int y :: .int x :: st) S I L Rf k n := by
  subst hn
  intro io H locs ls h1 h2 h3 h4 h5 h6
  exact lv_icmp_le hx.1 hx.2.1 d ht (fun q => kt q io H locs ls h1 h2 h3 h4.tl.tl h5 h6) (fun q => kf q io H locs ls h1 h2 h3 h4.tl.tl h5 h6)

theorem g_goto (hx : aCx p l s m args meth c own cc nL ret E) {off : Int} {tg : Nat} (d : decode cc pc = .ok (.goto off, 3)) (ht : (pc : Int) + off = (tg : Int)) (kk : aG p l e R s m args below meth c E io0 S0 nL Q tg lv (st) S I L Rf k n) : aG p l e R s m args below meth c E io0 S0 nL Q pc lv (st) S I L Rf k n := by
  intro io H locs ls h1 h2 h3 h4 h5 h6
  exact lv_goto hx.1 hx.2.1 d ht (kk io H locs ls h1 h2 h3 h4 h5 h6)
theorem g_ifnull (hx : aCx p l s m args meth c own cc nL ret E) {v : Value} {off : Int} {tg : Nat} (d : decode cc pc = .ok (.ifnull off, 3)) (ht : (pc : Int) + off = (tg : Int)) (hn : pc + 3 = nx) (kt : v = .null → aG p l e R s m args below meth c E io0 S0 nL Q tg lv (st) S I L Rf k n) (kf : ∀ q, v = .ref q → aG p l e R s m args below meth c E io0 S0 nL Q nx lv (st) S I L Rf k n) (hv : v = .null ∨ ∃ q, v = .ref q) : aG p l e R s m args below meth c E io0 S0 nL Q pc lv (v :: st) S I L Rf k n := by
  subst hn
  intro io H locs ls h1 h2 h3 h4 h5 h6
  rcases hv with rfl | ⟨q, rfl⟩
  · exact lv_ifnullN hx.1 hx.2.1 d ht (kt rfl io H locs ls h1 h2 h3 h4.tl h5 h6)
  · exact lv_ifnull hx.1 hx.2.1 d (kf q rfl io H locs ls h1 h2 h3 h4.tl h5 h6)
theorem g_ifnonnull (hx : aCx p l s m args meth c own cc nL ret E) {v : Value} {off : Int} {tg : Nat} (d : decode cc pc = .ok (.ifnonnull off, 3)) (ht : (pc : Int) + off = (tg : Int)) (hn : pc + 3 = nx) (kt : ∀ q, v = .ref q → aG p l e R s m args below meth c E io0 S0 nL Q tg lv (st) S I L Rf k n) (kf : v = .null → aG p l e R s m args below meth c E io0 S0 nL Q nx lv (st) S I L Rf k n) (hv : v = .null ∨ ∃ q, v = .ref q) : aG p l e R s m args below meth c E io0 S0 nL Q pc lv (v :: st) S I L Rf k n := by
  subst hn
  intro io H locs ls h1 h2 h3 h4 h5 h6
  rcases hv with rfl | ⟨q, rfl⟩
  · exact lv_ifnonnullN hx.1 hx.2.1 d (kf rfl io H locs ls h1 h2 h3 h4.tl h5 h6)
  · exact lv_ifnonnull hx.1 hx.2.1 d ht (kt q rfl io H locs ls h1 h2 h3 h4.tl h5 h6)
theorem g_tabOut (hx : aCx p l s m args meth c own cc nL ret E) {dflt lo hi : Int} {offs : Array Int} {len : Nat} {x : Int32} {tg : Nat} (d : decode cc pc = .ok (.tableswitch dflt lo hi offs, len)) (h : x.toInt < lo ∨ hi < x.toInt) (ht : (pc : Int) + dflt = (tg : Int)) (kk : aG p l e R s m args below meth c E io0 S0 nL Q tg lv (st) S I L Rf k n) : aG p l e R s m args below meth c E io0 S0 nL Q pc lv (.int x :: st) S I L Rf k n := by
  intro io H locs ls h1 h2 h3 h4 h5 h6
  exact lv_tableOut hx.1 hx.2.1 d h ht (kk io H locs ls h1 h2 h3 h4.tl h5 h6)
theorem g_tabIn (hx : aCx p l s m args meth c own cc nL ret E) {dflt lo hi : Int} {offs : Array Int} {len : Nat} {x : Int32} {off : Int} {tg : Nat} (d : decode cc pc = .ok (.tableswitch dflt lo hi offs, len)) (ha : ¬ x.toInt < lo) (hb : ¬ hi < x.toInt) (ho : offs[(x.toInt - lo).toNat]? = some off) (ht : (pc : Int) + off = (tg : Int)) (kk : aG p l e R s m args below meth c E io0 S0 nL Q tg lv (st) S I L Rf k n) : aG p l e R s m args below meth c E io0 S0 nL Q pc lv (.int x :: st) S I L Rf k n := by
  intro io H locs ls h1 h2 h3 h4 h5 h6
  exact lv_tableIn hx.1 hx.2.1 d ha hb ho ht (kk io H locs ls h1 h2 h3 h4.tl h5 h6)

theorem g_iloadG_n (hx : aCx p l s m args meth c own cc nL ret E) {j : Fin 4} {i : Nat} {x : Int32} (d : decode cc pc = .ok (.iload_n j, 1)) (hj : (j : Nat) = i) (hn : pc + 1 = nx) (hi : lv[i]? = some (.int x)) (kk : aG p l e R s m args below meth c E io0 S0 nL Q nx lv (.int x :: st) S I L Rf k n) : aG p l e R s m args below meth c E io0 S0 nL Q pc lv (st) S I L Rf k n := by
  subst hn
  intro io H locs ls h1 h2 h3 h4 h5 h6
  exact lv_iload_n hx.1 hx.2.1 d hj (h6.2.2 _ _ hi rfl) (kk io H locs ls h1 h2 h3 h4.i h5 h6)

theorem g_iloadG (hx : aCx p l s m args meth c own cc nL ret E) {i : Nat} {x : Int32} (d : decode cc pc = .ok (.iload i, 2)) (hn : pc + 2 = nx) (hi : lv[i]? = some (.int x)) (kk : aG p l e R s m args below meth c E io0 S0 nL Q nx lv (.int x :: st) S I L Rf k n) : aG p l e R s m args below meth c E io0 S0 nL Q pc lv (st) S I L Rf k n := by
  subst hn
  intro io H locs ls h1 h2 h3 h4 h5 h6
  exact lv_iload hx.1 hx.2.1 d (h6.2.2 _ _ hi rfl) (kk io H locs ls h1 h2 h3 h4.i h5 h6)

theorem g_lloadG_n (hx : aCx p l s m args meth c own cc nL ret E) {j : Fin 4} {i : Nat} {x : Int64} (d : decode cc pc = .ok (.lload_n j, 1)) (hj : (j : Nat) = i) (hn : pc + 1 = nx) (hi : lv[i]? = some (.long x)) (kk : aG p l e R s m args below meth c E io0 S0 nL Q nx lv (.long x :: st) S I L Rf k n) : aG p l e R s m args below meth c E io0 S0 nL Q pc lv (st) S I L Rf k n := by
  subst hn
  intro io H locs ls h1 h2 h3 h4 h5 h6
  exact lv_lload_n hx.1 hx.2.1 d hj (h6.2.2 _ _ hi rfl) (kk io H locs ls h1 h2 h3 h4.l h5 h6)

theorem g_lloadG (hx : aCx p l s m args meth c own cc nL ret E) {i : Nat} {x : Int64} (d : decode cc pc = .ok (.lload i, 2)) (hn : pc + 2 = nx) (hi : lv[i]? = some (.long x)) (kk : aG p l e R s m args below meth c E io0 S0 nL Q nx lv (.long x :: st) S I L Rf k n) : aG p l e R s m args below meth c E io0 S0 nL Q pc lv (st) S I L Rf k n := by
  subst hn
  intro io H locs ls h1 h2 h3 h4 h5 h6
  exact lv_lload hx.1 hx.2.1 d (h6.2.2 _ _ hi rfl) (kk io H locs ls h1 h2 h3 h4.l h5 h6)

theorem g_aloadG_n (hx : aCx p l s m args meth c own cc nL ret E) {j : Fin 4} {i : Nat} {x : Nat} (d : decode cc pc = .ok (.aload_n j, 1)) (hj : (j : Nat) = i) (hn : pc + 1 = nx) (hi : lv[i]? = some (.ref x)) (kk : aG p l e R s m args below meth c E io0 S0 nL Q nx lv (.ref x :: st) S I L Rf k n) : aG p l e R s m args below meth c E io0 S0 nL Q pc lv (st) S I L Rf k n := by
  subst hn
  intro io H locs ls h1 h2 h3 h4 h5 h6
  exact lv_aload_n hx.1 hx.2.1 d hj (h6.2.2 _ _ hi rfl) (kk io H locs ls h1 h2 h3 (h4.r (h3 _ (List.mem_of_getElem? hi) x rfl)) h5 h6)

theorem g_aloadG (hx : aCx p l s m args meth c own cc nL ret E) {i : Nat} {x : Nat} (d : decode cc pc = .ok (.aload i, 2)) (hn : pc + 2 = nx) (hi : lv[i]? = some (.ref x)) (kk : aG p l e R s m args below meth c E io0 S0 nL Q nx lv (.ref x :: st) S I L Rf k n) : aG p l e R s m args below meth c E io0 S0 nL Q pc lv (st) S I L Rf k n := by
  subst hn
  intro io H locs ls h1 h2 h3 h4 h5 h6
  exact lv_aload hx.1 hx.2.1 d (h6.2.2 _ _ hi rfl) (kk io H locs ls h1 h2 h3 (h4.r (h3 _ (List.mem_of_getElem? hi) x rfl)) h5 h6)

theorem g_istoreG_n (hx : aCx p l s m args meth c own cc nL ret E) {j : Fin 4} {i : Nat} {x : Int32} {lv' : List Value} (d : decode cc pc = .ok (.istore_n j, 1)) (hj : (j : Nat) = i) (hn : pc + 1 = nx) (hb : i < nL) (hs : aStv i (.int x) lv lv') (kk : aG p l e R s m args below meth c E io0 S0 nL Q nx lv' (st) S I L Rf k n) : aG p l e R s m args below meth c E io0 S0 nL Q pc lv (.int x :: st) S I L Rf k n := by
  subst hn
  intro io H locs ls h1 h2 h3 h4 h5 h6
  refine lv_istore_n hx.1 hx.2.1 d hj (aAll_has h6.1 h6.2.1) hb rfl fun ls' h => kk io H locs ls' h1 h2 (fun v hv q e => ?_) h4.tl h5 (h6.st1 (v := .int x) rfl hs h)
  obtain ⟨j, hj⟩ := List.getElem?_of_mem hv
  rcases hs j v hj (by rw [e]; rfl) with ⟨-, e2⟩ | ⟨-, h9, -⟩
  · exact h4 _ List.mem_cons_self q (e2.symm.trans e)
  · exact h3 v (List.mem_of_getElem? h9) q e

theorem g_istoreG (hx : aCx p l s m args meth c own cc nL ret E) {i : Nat} {x : Int32} {lv' : List Value} (d : decode cc pc = .ok (.istore i, 2)) (hn : pc + 2 = nx) (hb : i < nL) (hs : aStv i (.int x) lv lv') (kk : aG p l e R s m args below meth c E io0 S0 nL Q nx lv' (st) S I L Rf k n) : aG p l e R s m args below meth c E io0 S0 nL Q pc lv (.int x :: st) S I L Rf k n := by
  subst hn
  intro io H locs ls h1 h2 h3 h4 h5 h6
  refine lv_istore hx.1 hx.2.1 d (aAll_has h6.1 h6.2.1) hb rfl fun ls' h => kk io H locs ls' h1 h2 (fun v hv q e => ?_) h4.tl h5 (h6.st1 (v := .int x) rfl hs h)
  obtain ⟨j, hj⟩ := List.getElem?_of_mem hv
  rcases hs j v hj (by rw [e]; rfl) with ⟨-, e2⟩ | ⟨-, h9, -⟩
  · exact h4 _ List.mem_cons_self q (e2.symm.trans e)
  · exact h3 v (List.mem_of_getElem? h9) q e

theorem g_lstoreG_n (hx : aCx p l s m args meth c own cc nL ret E) {j : Fin 4} {i : Nat} {x : Int64} {lv' : List Value} (d : decode cc pc = .ok (.lstore_n j, 1)) (hj : (j : Nat) = i) (hn : pc + 1 = nx) (hb : i + 1 < nL) (hs : aStv i (.long x) lv lv') (kk : aG p l e R s m args below meth c E io0 S0 nL Q nx lv' (st) S I L Rf k n) : aG p l e R s m args below meth c E io0 S0 nL Q pc lv (.long x :: st) S I L Rf k n := by
  subst hn
  intro io H locs ls h1 h2 h3 h4 h5 h6
  refine lv_lstore_n hx.1 hx.2.1 d hj (aAll_has h6.1 h6.2.1) hb rfl fun ls' h => kk io H locs ls' h1 h2 (fun v hv q e => ?_) h4.tl h5 (h6.st2 (v := .long x) rfl hs h)
  obtain ⟨j, hj⟩ := List.getElem?_of_mem hv
  rcases hs j v hj (by rw [e]; rfl) with ⟨-, e2⟩ | ⟨-, h9, -⟩
  · exact h4 _ List.mem_cons_self q (e2.symm.trans e)
  · exact h3 v (List.mem_of_getElem? h9) q e

theorem g_lstoreG (hx : aCx p l s m args meth c own cc nL ret E) {i : Nat} {x : Int64} {lv' : List Value} (d : decode cc pc = .ok (.lstore i, 2)) (hn : pc + 2 = nx) (hb : i + 1 < nL) (hs : aStv i (.long x) lv lv') (kk : aG p l e R s m args below meth c E io0 S0 nL Q nx lv' (st) S I L Rf k n) : aG p l e R s m args below meth c E io0 S0 nL Q pc lv (.long x :: st) S I L Rf k n := by
  subst hn
  intro io H locs ls h1 h2 h3 h4 h5 h6
  refine lv_lstore hx.1 hx.2.1 d (aAll_has h6.1 h6.2.1) hb rfl fun ls' h => kk io H locs ls' h1 h2 (fun v hv q e => ?_) h4.tl h5 (h6.st2 (v := .long x) rfl hs h)
  obtain ⟨j, hj⟩ := List.getElem?_of_mem hv
  rcases hs j v hj (by rw [e]; rfl) with ⟨-, e2⟩ | ⟨-, h9, -⟩
  · exact h4 _ List.mem_cons_self q (e2.symm.trans e)
  · exact h3 v (List.mem_of_getElem? h9) q e

theorem g_astoreG_n (hx : aCx p l s m args meth c own cc nL ret E) {j : Fin 4} {i : Nat} {x : Nat} {lv' : List Value} (d : decode cc pc = .ok (.astore_n j, 1)) (hj : (j : Nat) = i) (hn : pc + 1 = nx) (hb : i < nL) (hs : aStv i (.ref x) lv lv') (kk : aG p l e R s m args below meth c E io0 S0 nL Q nx lv' (st) S I L Rf k n) : aG p l e R s m args below meth c E io0 S0 nL Q pc lv (.ref x :: st) S I L Rf k n := by
  subst hn
  intro io H locs ls h1 h2 h3 h4 h5 h6
  refine lv_astore_n hx.1 hx.2.1 d hj (aAll_has h6.1 h6.2.1) hb rfl fun ls' h => kk io H locs ls' h1 h2 (fun v hv q e => ?_) h4.tl h5 (h6.st1 (v := .ref x) rfl hs h)
  obtain ⟨j, hj⟩ := List.getElem?_of_mem hv
  rcases hs j v hj (by rw [e]; rfl) with ⟨-, e2⟩ | ⟨-, h9, -⟩
  · exact h4 _ List.mem_cons_self q (e2.symm.trans e)
  · exact h3 v (List.mem_of_getElem? h9) q e

theorem g_astoreG (hx : aCx p l s m args meth c own cc nL ret E) {i : Nat} {x : Nat} {lv' : List Value} (d : decode cc pc = .ok (.astore i, 2)) (hn : pc + 2 = nx) (hb : i < nL) (hs : aStv i (.ref x) lv lv') (kk : aG p l e R s m args below meth c E io0 S0 nL Q nx lv' (st) S I L Rf k n) : aG p l e R s m args below meth c E io0 S0 nL Q pc lv (.ref x :: st) S I L Rf k n := by
  subst hn
  intro io H locs ls h1 h2 h3 h4 h5 h6
  refine lv_astore hx.1 hx.2.1 d (aAll_has h6.1 h6.2.1) hb rfl fun ls' h => kk io H locs ls' h1 h2 (fun v hv q e => ?_) h4.tl h5 (h6.st1 (v := .ref x) rfl hs h)
  obtain ⟨j, hj⟩ := List.getElem?_of_mem hv
  rcases hs j v hj (by rw [e]; rfl) with ⟨-, e2⟩ | ⟨-, h9, -⟩
  · exact h4 _ List.mem_cons_self q (e2.symm.trans e)
  · exact h3 v (List.mem_of_getElem? h9) q e

theorem g_iincG (hx : aCx p l s m args meth c own cc nL ret E) {i : Nat} {z : Int} {x v : Int32} {lv' : List Value} (d : decode cc pc = .ok (.iinc i z, 3)) (hn : pc + 3 = nx) (hb : i < nL) (hi : lv[i]? = some (.int x)) (hv : x + Int32.ofInt z = v) (hs : aStv i (.int v) lv lv') (kk : aG p l e R s m args below meth c E io0 S0 nL Q nx lv' (st) S I L Rf k n) : aG p l e R s m args below meth c E io0 S0 nL Q pc lv (st) S I L Rf k n := by
  subst hn
  intro io H locs ls h1 h2 h3 h4 h5 h6
  obtain ⟨j, hj⟩ := List.getElem?_of_mem (aAll_mem (h6.2.2 _ _ hi rfl))
  refine lv_iinc hx.1 hx.2.1 d (aAll_has h6.1 h6.2.1) hj hv hb rfl fun ls' h => kk io H locs ls' h1 h2 (fun w hw q e => ?_) h4 h5 (h6.st1 (v := .int v) rfl hs h)
  obtain ⟨j, hj⟩ := List.getElem?_of_mem hw
  rcases hs j w hj (by rw [e]; rfl) with ⟨-, e2⟩ | ⟨-, h9, -⟩
  · rw [e2] at e; cases e
  · exact h3 w (List.mem_of_getElem? h9) q e

theorem g_iincGW (hx : aCx p l s m args meth c own cc nL ret E) {i : Nat} {z : Int} {x v : Int32} {lv' : List Value} (d : decode cc pc = .ok (.iinc i z, 6)) (hn : pc + 6 = nx) (hb : i < nL) (hi : lv[i]? = some (.int x)) (hv : x + Int32.ofInt z = v) (hs : aStv i (.int v) lv lv') (kk : aG p l e R s m args below meth c E io0 S0 nL Q nx lv' (st) S I L Rf k n) : aG p l e R s m args below meth c E io0 S0 nL Q pc lv (st) S I L Rf k n := by
  subst hn
  intro io H locs ls h1 h2 h3 h4 h5 h6
  obtain ⟨j, hj⟩ := List.getElem?_of_mem (aAll_mem (h6.2.2 _ _ hi rfl))
  refine lv_iincW hx.1 hx.2.1 d (aAll_has h6.1 h6.2.1) hj hv hb rfl fun ls' h => kk io H locs ls' h1 h2 (fun w hw q e => ?_) h4 h5 (h6.st1 (v := .int v) rfl hs h)
  obtain ⟨j, hj⟩ := List.getElem?_of_mem hw
  rcases hs j w hj (by rw [e]; rfl) with ⟨-, e2⟩ | ⟨-, h9, -⟩
  · rw [e2] at e; cases e
  · exact h3 w (List.mem_of_getElem? h9) q e

end AG
