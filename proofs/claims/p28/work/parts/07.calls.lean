/-! ends and calls -/
section AEND
variable {p : Program} {l : Launch} {e : Env} {R : Room} {s : State} {m : MethodId} {args : Array Value} {below : List Frame} {meth : Method} {c : Code} {E : aE} {io0 : aM} {S0 : aS} {nL : Nat} {Q : State → Prop}
variable {own : String} {cc : ByteArray} {ret : Option FieldType} {pc nx : Nat} {lv st : List Value} {S : aS} {I : aI} {L : aL} {Rf : aR} {k n mc ms : Nat} {Kr : aK} {Kx : aX}
theorem g_iret (hx : aCx p l s m args meth c own cc nL ret E) {v : Int32} {ty : FieldType} (d : decode cc pc = .ok (.ireturn, 1)) (hr : ret = some ty) (hnr : narrow ty (.int v) = .int v) (hk : k ≤ mc) (hs : n ≤ ms) (hK : Kr (some (.int v)) S I L Rf) : aG p l e R s m args below meth c E io0 S0 nL (vx_MQ below (aQc E io0 S0 Kr) (aXC E io0 S0 Kx) args s mc ms (aW E)) pc lv ([.int v]) (S) (I) (L) (Rf) (k) (n) := by
  subst hr
  intro io H locs ls h1 h2 h3 h4 h5 h6
  exact vx_ret (W.widen hk hs (W.zret (v := v) hx.1 hx.2.1 hx.2.2.2.2.2.2.2.2 hnr (fun t ht hW => ⟨⟨io, S, I, L, Rf, some (.int v), rfl, hK, aOk.nil.i, by rw [ht]; exact h1, h2⟩, h5.F ht⟩) h5.2.2 d hx.2.2.2.2.2.1))
theorem g_lret (hx : aCx p l s m args meth c own cc nL ret E) {v : Int64} (d : decode cc pc = .ok (.lreturn, 1)) (hr : ret = some .long) (hk : k ≤ mc) (hs : n ≤ ms) (hK : Kr (some (.long v)) S I L Rf) : aG p l e R s m args below meth c E io0 S0 nL (vx_MQ below (aQc E io0 S0 Kr) (aXC E io0 S0 Kx) args s mc ms (aW E)) pc lv ([.long v]) (S) (I) (L) (Rf) (k) (n) := by
  subst hr
  intro io H locs ls h1 h2 h3 h4 h5 h6
  exact vx_ret (W.widen hk hs (W.lret (v := v) hx.1 hx.2.1 hx.2.2.2.2.2.2.2.2 (fun t ht hW => ⟨⟨io, S, I, L, Rf, some (.long v), rfl, hK, aOk.nil.l, by rw [ht]; exact h1, h2⟩, h5.F ht⟩) h5.2.2 d hx.2.2.2.2.2.1))
theorem g_aret (hx : aCx p l s m args meth c own cc nL ret E) {q : Nat} {cn : String} (d : decode cc pc = .ok (.areturn, 1)) (hr : ret = some (.object cn)) (hk : k ≤ mc) (hs : n ≤ ms) (hK : Kr (some (.ref q)) S I L Rf) : aG p l e R s m args below meth c E io0 S0 nL (vx_MQ below (aQc E io0 S0 Kr) (aXC E io0 S0 Kx) args s mc ms (aW E)) pc lv ([.ref q]) (S) (I) (L) (Rf) (k) (n) := by
  subst hr
  intro io H locs ls h1 h2 h3 h4 h5 h6
  exact vx_ret (W.widen hk hs (W.aret (v := .ref (io q)) hx.1 hx.2.1 hx.2.2.2.2.2.2.2.2 (Or.inl ⟨_, rfl⟩) (Or.inr ⟨_, rfl⟩) (fun t ht hW => ⟨⟨io, S, I, L, Rf, some (.ref q), rfl, hK, h4, by rw [ht]; exact h1, h2⟩, h5.F ht⟩) h5.2.2 d hx.2.2.2.2.2.1))
theorem g_vret (hx : aCx p l s m args meth c own cc nL ret E) (d : decode cc pc = .ok (.return_, 1)) (hr : ret = none) (hk : k ≤ mc) (hs : n ≤ ms) (hK : Kr none S I L Rf) : aG p l e R s m args below meth c E io0 S0 nL (vx_MQ below (aQc E io0 S0 Kr) (aXC E io0 S0 Kx) args s mc ms (aW E)) pc lv ([]) (S) (I) (L) (Rf) (k) (n) := by
  subst hr
  intro io H locs ls h1 h2 h3 h4 h5 h6
  exact vx_ret (W.widen hk hs (W.vret hx.1 hx.2.1 hx.2.2.2.2.2.2.2.2 (fun t ht hW => ⟨⟨io, S, I, L, Rf, none, rfl, hK, aOk.nil, by rw [ht]; exact h1, h2⟩, h5.F ht⟩) h5.2.2 d hx.2.2.2.2.2.1))
theorem arn_cats (io : aM) (st : List Value) : ((st.map (arn io)).map fun v => v.category) = st.map fun v => v.category := by
  rw [List.map_map]; exact List.map_congr_left fun v _ => arn_cat io v
/-- behind a call -/
theorem aG.cont (hx : aCx p l s m args meth c own cc nL ret E) {st0 : List Value} {Kr' : aK} {Kx' : aX} {a : Array Value} {mc' ms' : Nat} {io : aM} {H : Heap} {locs : List Loc} {ls : Array Slot} (hr : vx_Run p l e R s m args below meth c H locs k n mc' ms' (F0 m pc ls st0) (st.map (arn io)) (aQc E io S Kr' a) (aXC E io S Kx') (aW E))
    (h2 : ∀ q, S0 q ≠ none → io q = io0 q ∧ S q = S0 q) (h3 : aOk S lv) (h4 : aOk S st) (h5 : va_S (aW E) s.heap H locs) (h6 : aLc io nL lv ls)
    (hkr : ∀ v S' I' L' R', Kr' v S' I' L' R' → aG p l e R s m args below meth c E io0 S0 nL (Q) (pc + 3) lv (v.toList ++ st) (S') (I') (L') (R') (k + mc') (n + ms'))
    (hkx : ∀ (X : String) (io' : aM) (S' : aS) (I' : aI) (L' : aL) (R' : aR) (H1 : Heap) (locs1 : List Loc) (q : Nat) (ce : Cell), Kx' X S' I' L' R' → aHR E io' S' I' L' R' H1 → (∀ q, S0 q ≠ none → io' q = io0 q ∧ S' q = S0 q) → (∀ q, S q ≠ none → io' q = io q ∧ S' q = S q) → va_S (aW E) s.heap H1 locs1 → H1[q]? = some ce → ce.vm = .none → s.vm.findClass X = some ce.cls → vx_W p l e R s m args below meth c H1 locs1 (k + mc') (n + ms') Q (F0 m pc ls (st.map (arn io))) q) :
    W p l e R s m args below meth c H locs k n Q (F0 m pc ls st0) := by
  intro T hT X
  rcases hr T hT X with ⟨v, st₀, t, T', L9, e0, X', hL, e1, e2, ⟨⟨io', S', I', L', R', v', hv, hK, hok, hHR, hag⟩, hF⟩, stp⟩ | ⟨q, st₀, t, T', L9, X9, ce, e0, X', hL, e1, e2, ⟨⟨io', S', I', L', R', hK, hHR, hag⟩, hF⟩, hce, hcv, hcl, stp⟩
  · obtain ⟨k1, k2, k3⟩ := vx_keep e0 e1 h5 (fun _ _ z => z) (fun _ z => z) hL hF
    have hm : ∀ r, S r ≠ none → S' r ≠ none := fun r z => by rw [(hag r z).2]; exact z
    have hio : ∀ r, S r ≠ none → io' r = io r := fun r z => (hag r z).1
    have K := hkr v' S' I' L' R' hK io' T'.heap (locs ++ L9) ls (by rw [e1]; exact hHR) (fun r z => by
      have y := h2 r z
      have y2 : S r ≠ none := by rw [y.2]; exact z
      exact ⟨(hag r y2).1.trans y.1, (hag r y2).2.trans y.2⟩) (h3.mono hm) (by
        intro w hw
        rcases List.mem_append.mp hw with z | z
        · exact hok w z
        · exact (h4.mono hm) w z) k3 (h6.congr h3 hio)
    have e3 : (v'.toList ++ st).map (arn io') = (v'.map (arn io')).toList ++ st.map (arn io) := by
      rw [List.map_append, arn_congr h4 hio]
      cases v' <;> rfl
    rw [e3] at K
    have e4 : v = v'.map (arn io') := Outcome.returned.inj hv
    rw [← e4] at K
    obtain ⟨t2, a1, b1⟩ := K T' rfl X'
    exact ⟨t2, stp t2 a1, b1⟩
  · obtain ⟨k1, k2, k3⟩ := vx_keep e0 e1 h5 (fun _ _ z => z) (fun _ z => z) hL hF
    obtain ⟨t2, a1, b1⟩ := hkx X9 io' S' I' L' R' T'.heap (locs ++ L9) q ce hK (by rw [e1]; exact hHR) (fun r z => by
      have y := h2 r z
      have y2 : S r ≠ none := by rw [y.2]; exact z
      exact ⟨(hag r y2).1.trans y.1, (hag r y2).2.trans y.2⟩) hag k3 (by rw [e1]; exact hce) hcv hcl T' rfl X'
    exact ⟨t2, stp.trans a1, b1⟩
theorem met_of {y : MethodName} {ws : List Cond} {rm : Room} {Pc : Array Value → State → Prop} {Qc : Array Value → State → Outcome → State → Prop} {XC : String → State → State → Prop} {free : Addr → Prop} (h : vx_Met l y ws rm Pc Qc XC mc ms free) (hx : ∀ X st t, ¬ XC X st t) : Met l y ws rm Pc Qc mc ms free := by
  intro p e ha hc hk s m args below hf happ hpre hK
  obtain ⟨n, o, h1, h2, h3, h4⟩ := h p e ha hc hk s m args below hf happ hpre hK
  rcases h4 with h4 | ⟨q, -, X, ce, L, h5, -⟩
  · exact ⟨n, o, h1, h2, h3, h4⟩
  · exact absurd h5 (hx _ _ _)
theorem run_of {H : Heap} {locs : List Loc} {gg : JFrame} {rest : List Value} {Qa : State → Outcome → State → Prop} {XC : String → State → State → Prop} {free : Addr → Prop} (h : va_Run p l e R s m args below meth c H locs k n mc ms gg rest Qa free) : vx_Run p l e R s m args below meth c H locs k n mc ms gg rest Qa XC free := fun T hT X => Or.inl (h T hT X)
/-- where a callee is named: its words; own instance methods, statics, constructors; nest mates' -/
def aLV (own : String) (idx : Nat) (y : MethodName) (cc : ByteArray) (nL : Nat) (ret : Option FieldType) (n : Nat) : Prop := Cond.methodLink own idx y ∈ aBIG ∧ Cond.instanceMethod y ∈ aBIG ∧ Cond.selects y.cls y y ∈ aBIG ∧ Cond.initialized y.cls ∈ aBIG ∧ Cond.code y cc nL ret ∈ aBIG ∧ y.cls ≠ "java/lang/invoke/MethodHandle" ∧ y.cls ≠ "java/lang/invoke/VarHandle" ∧ (parseMethodDescriptor y.desc).map (fun d => d.parameters.length) = some n
def aLS (own : String) (idx : Nat) (y : MethodName) (cc : ByteArray) (nL : Nat) (ret : Option FieldType) (n : Nat) : Prop := Cond.methodLink own idx y ∈ aBIG ∧ Cond.static y ∈ aBIG ∧ Cond.initialized y.cls ∈ aBIG ∧ Cond.code y cc nL ret ∈ aBIG ∧ y.cls ≠ "java/lang/invoke/MethodHandle" ∧ y.cls ≠ "java/lang/invoke/VarHandle" ∧ (parseMethodDescriptor y.desc).map (fun d => d.parameters.length) = some n
def aLI (own : String) (idx : Nat) (y : MethodName) (cc : ByteArray) (nL : Nat) (n : Nat) : Prop := Cond.methodLink own idx y ∈ aBIG ∧ Cond.instanceMethod y ∈ aBIG ∧ Cond.initialized y.cls ∈ aBIG ∧ Cond.code y cc nL none ∈ aBIG ∧ y.name = "<init>" ∧ y.cls ≠ "java/lang/invoke/MethodHandle" ∧ y.cls ≠ "java/lang/invoke/VarHandle" ∧ (parseMethodDescriptor y.desc).map (fun d => d.parameters.length) = some n
def aNV (own : String) (idx : Nat) (y : MethodName) (cc : ByteArray) (nL : Nat) (ret : Option FieldType) (n : Nat) : Prop := (∃ host, Cond.methodLinkNest own idx y host ∈ lw_tbl) ∧ Cond.instanceMethod y ∈ aBIG ∧ Cond.selects y.cls y y ∈ aBIG ∧ Cond.initialized y.cls ∈ aBIG ∧ Cond.code y cc nL ret ∈ aBIG ∧ y.cls ≠ "java/lang/invoke/MethodHandle" ∧ y.cls ≠ "java/lang/invoke/VarHandle" ∧ (parseMethodDescriptor y.desc).map (fun d => d.parameters.length) = some n
def aNS (own : String) (idx : Nat) (y : MethodName) (cc : ByteArray) (nL : Nat) (ret : Option FieldType) (n : Nat) : Prop := (∃ host, Cond.methodLinkNest own idx y host ∈ lw_tbl) ∧ Cond.static y ∈ aBIG ∧ Cond.initialized y.cls ∈ aBIG ∧ Cond.code y cc nL ret ∈ aBIG ∧ y.cls ≠ "java/lang/invoke/MethodHandle" ∧ y.cls ≠ "java/lang/invoke/VarHandle" ∧ (parseMethodDescriptor y.desc).map (fun d => d.parameters.length) = some n
def aNI (own : String) (idx : Nat) (y : MethodName) (cc : ByteArray) (nL : Nat) (n : Nat) : Prop := (∃ host, Cond.methodLinkNest own idx y host ∈ lw_tbl) ∧ Cond.instanceMethod y ∈ aBIG ∧ Cond.initialized y.cls ∈ aBIG ∧ Cond.code y cc nL none ∈ aBIG ∧ y.name = "<init>" ∧ y.cls ≠ "java/lang/invoke/MethodHandle" ∧ y.cls ≠ "java/lang/invoke/VarHandle" ∧ (parseMethodDescriptor y.desc).map (fun d => d.parameters.length) = some n
theorem abig_cons {w : Cond} {L : List Cond} (h : w ∈ aBIG) (hL : GoodIn aBIG L) : GoodIn aBIG (w :: L) := fun x hx => by
  rcases List.mem_cons.mp hx with e | e
  · rw [e]; exact ⟨h, (abig_good w h).2⟩
  · exact hL x e
theorem aPc.at (hx : aCx p l s m args meth c own cc nL ret E) {av : List Value} {io : aM} {H : Heap} {locs : List Loc} (h1 : aHR E io S I L Rf H) (h4 : aOk S av) (h5 : va_S (aW E) s.heap H locs) : ∀ U : State, U.heap = H → s.WarmedH U.vm → aPc E io S I L Rf av (av.map (arn io)).toArray U := fun U hU hW => ⟨rfl, by rw [hU]; exact h1, hx.2.2.2.2.2.2.1.go hW hU h5, h4⟩
theorem aRecv (hx : aCx p l s m args meth c own cc nL ret E) {io : aM} {H : Heap} {q ci : Nat} {C : String} (h1 : aHR E io S I L Rf H) (hq : S q = some (.inr ci)) (h9 : 3 ≤ q) (hC : (aCl[ci]?).map (fun r => r.1) = some C) : ∃ cellB : Cell, H[io q]? = some cellB ∧ cellB.vm.isStatics = false ∧ s.vm.findClass C = some cellB.cls := by
  obtain ⟨r, hr, cell, g1, g2, g3, -⟩ := h1.1 q _ hq h9
  rw [hr] at hC
  cases hC
  exact ⟨cell, g1, by rw [g3]; rfl, by rw [g2]; exact (hx.K.1 ci r hr).2.1⟩

theorem g_callV_M (hx : aCx p l s m args meth c own cc nL ret E) {idx : Nat} {q : Nat} {ci : Nat} {y : MethodName} {cc' : ByteArray} {nL' : Nat} {ret' : Option FieldType} {rm : Room} (as : List Value) {stk : List Value} {k' n' : Nat} (d : decode cc pc = .ok (.invokevirtual idx, 3)) (hn : pc + 3 = nx) (lk : aLV own idx y cc' nL' ret' as.length) (hq : S q = some (.inr ci)) (h9 : 3 ≤ q) (hC : (aCl[ci]?).map (fun r => r.1) = some y.cls) (hstk : as.reverse ++ .ref q :: st = stk) (hcat : (st.map fun v => v.category).sum ≤ 8) (hrf : rm.frames + 1 ≤ R.frames) (hrl : 8 + (nL' + 11) + rm.locals ≤ R.locals) (hk : k + rm.cells ≤ k') (hs : n + rm.slots ≤ n') (hkR : k' ≤ R.cells) (hsR : n' ≤ R.slots) 
    (hm : aMet l E y cc' nL' ret' rm (.ref q :: as) S I L Rf (fun v S' I' L' R' => aG p l e R s m args below meth c E io0 S0 nL (Q) nx lv (v.toList ++ st) (S') (I') (L') (R') (k') (n')) aNoX) : aG p l e R s m args below meth c E io0 S0 nL (Q) pc lv (stk) (S) (I) (L) (Rf) (k) (n) := by
  subst hn; subst hstk
  intro io H locs ls h1 h2 h3 h4 h5 h6
  obtain ⟨l1, l2, l3, l4, l5, l6, l7, l8⟩ := lk
  have hav : aOk S (.ref q :: as) := by
    intro v hv
    refine h4 v ?_
    rcases List.mem_cons.mp hv with z | z
    · exact List.mem_append_right _ (by rw [z]; exact List.mem_cons_self)
    · exact List.mem_append_left _ (List.mem_reverse.mpr z)
  have hos : aOk S st := fun v hv => h4 v (List.mem_append_right _ (List.mem_cons_of_mem _ hv))
  have hst : (as.reverse ++ .ref q :: st).map (arn io) = (as.map (arn io)).reverse ++ .ref (io q) :: st.map (arn io) := by
    rw [List.map_append, List.map_reverse]; rfl
  exact aG.cont hx (vx_runV (b := io q) (C := y.cls) (As := as.map (arn io)) (rest := st.map (arn io)) ⟨hx.1, hx.2.1, hx.2.2.1, hx.2.2.2.1, hx.2.2.2.2.1⟩ (hm io) (cwV as.length hx.2.2.2.2.1 (abig_cons l1 (abig_cons l2 (abig_cons l3 (abig_cons l4 (abig_cons l5 abig_good))))) rfl rfl rfl ⟨rfl, l6, l7, l8⟩ ⟨hrf, hrl⟩) ⟨aPc.blind, aRecv hx h1 hq h9 hC, aPc.at hx h1 hav h5⟩ rfl (by rw [List.length_map]) (h6.1) hst (lv_room (by rw [arn_cats]; exact hcat)) d ⟨Nat.le_trans hk hkR, Nat.le_trans hs hsR⟩) h2 h3 hos h5 h6 (fun v S' I' L' R' z io' H' locs' ls' b1 b2 b3 b4 b5 b6 => W.widen hk hs (z io' H' locs' ls' b1 b2 b3 b4 b5 b6)) (fun _ _ _ _ _ _ _ _ _ _ z => absurd z id)

theorem g_callV_X (hx : aCx p l s m args meth c own cc nL ret E) {idx : Nat} {q : Nat} {ci : Nat} {y : MethodName} {cc' : ByteArray} {nL' : Nat} {ret' : Option FieldType} {rm : Room} (as : List Value) {stk : List Value} {k' n' : Nat} (d : decode cc pc = .ok (.invokevirtual idx, 3)) (hn : pc + 3 = nx) (lk : aLV own idx y cc' nL' ret' as.length) (hq : S q = some (.inr ci)) (h9 : 3 ≤ q) (hC : (aCl[ci]?).map (fun r => r.1) = some y.cls) (hstk : as.reverse ++ .ref q :: st = stk) (hcat : (st.map fun v => v.category).sum ≤ 8) (hrf : rm.frames + 1 ≤ R.frames) (hrl : 8 + (nL' + 11) + rm.locals ≤ R.locals) (hk : k + rm.cells ≤ k') (hs : n + rm.slots ≤ n') (hkR : k' ≤ R.cells) (hsR : n' ≤ R.slots) (hno : ∀ x ∈ c.exceptionTable.toList, False) (hmc : k' ≤ mc) (hms : n' ≤ ms) 
    (hm : aMet l E y cc' nL' ret' rm (.ref q :: as) S I L Rf (fun v S' I' L' R' => aG p l e R s m args below meth c E io0 S0 nL (vx_MQ below (aQc E io0 S0 Kr) (aXC E io0 S0 Kx) args s mc ms (aW E)) nx lv (v.toList ++ st) (S') (I') (L') (R') (k') (n')) Kx) : aG p l e R s m args below meth c E io0 S0 nL (vx_MQ below (aQc E io0 S0 Kr) (aXC E io0 S0 Kx) args s mc ms (aW E)) pc lv (stk) (S) (I) (L) (Rf) (k) (n) := by
  subst hn; subst hstk
  intro io H locs ls h1 h2 h3 h4 h5 h6
  obtain ⟨l1, l2, l3, l4, l5, l6, l7, l8⟩ := lk
  have hav : aOk S (.ref q :: as) := by
    intro v hv
    refine h4 v ?_
    rcases List.mem_cons.mp hv with z | z
    · exact List.mem_append_right _ (by rw [z]; exact List.mem_cons_self)
    · exact List.mem_append_left _ (List.mem_reverse.mpr z)
  have hos : aOk S st := fun v hv => h4 v (List.mem_append_right _ (List.mem_cons_of_mem _ hv))
  have hst : (as.reverse ++ .ref q :: st).map (arn io) = (as.map (arn io)).reverse ++ .ref (io q) :: st.map (arn io) := by
    rw [List.map_append, List.map_reverse]; rfl
  exact aG.cont hx (vx_runV (b := io q) (C := y.cls) (As := as.map (arn io)) (rest := st.map (arn io)) ⟨hx.1, hx.2.1, hx.2.2.1, hx.2.2.2.1, hx.2.2.2.2.1⟩ (hm io) (cwV as.length hx.2.2.2.2.1 (abig_cons l1 (abig_cons l2 (abig_cons l3 (abig_cons l4 (abig_cons l5 abig_good))))) rfl rfl rfl ⟨rfl, l6, l7, l8⟩ ⟨hrf, hrl⟩) ⟨aPc.blind, aRecv hx h1 hq h9 hC, aPc.at hx h1 hav h5⟩ rfl (by rw [List.length_map]) (h6.1) hst (lv_room (by rw [arn_cats]; exact hcat)) d ⟨Nat.le_trans hk hkR, Nat.le_trans hs hsR⟩) h2 h3 hos h5 h6 (fun v S' I' L' R' z io' H' locs' ls' b1 b2 b3 b4 b5 b6 => W.widen hk hs (z io' H' locs' ls' b1 b2 b3 b4 b5 b6)) (fun X io' S' I' L' R' H1 locs1 q ce hK hHR hag hag2 hS hce hcv hcl => vx_out (fun x hx => absurd (hno x hx) id) hx.2.2.2.2.2.1 hce hcv hcl (fun t ht hA => ⟨⟨io', S', I', L', R', hK, by rw [ht]; exact hHR, hag⟩, hS.F ht⟩) hS.2.2 (Nat.le_trans hk hmc) (Nat.le_trans hs hms))

theorem g_callS_M (hx : aCx p l s m args meth c own cc nL ret E) {idx : Nat} {y : MethodName} {cc' : ByteArray} {nL' : Nat} {ret' : Option FieldType} {rm : Room} (as : List Value) {stk : List Value} {k' n' : Nat} (d : decode cc pc = .ok (.invokestatic idx, 3)) (hn : pc + 3 = nx) (lk : aLS own idx y cc' nL' ret' as.length) (hstk : as.reverse ++ st = stk) (hcat : (st.map fun v => v.category).sum ≤ 8) (hrf : rm.frames + 1 ≤ R.frames) (hrl : 8 + (nL' + 11) + rm.locals ≤ R.locals) (hk : k + rm.cells ≤ k') (hs : n + rm.slots ≤ n') (hkR : k' ≤ R.cells) (hsR : n' ≤ R.slots) 
    (hm : aMet l E y cc' nL' ret' rm (as) S I L Rf (fun v S' I' L' R' => aG p l e R s m args below meth c E io0 S0 nL (Q) nx lv (v.toList ++ st) (S') (I') (L') (R') (k') (n')) aNoX) : aG p l e R s m args below meth c E io0 S0 nL (Q) pc lv (stk) (S) (I) (L) (Rf) (k) (n) := by
  subst hn; subst hstk
  intro io H locs ls h1 h2 h3 h4 h5 h6
  obtain ⟨l1, l2, l3, l4, l6, l7, l8⟩ := lk
  have hav : aOk S (as) := by
    intro v hv
    refine h4 v ?_
    exact List.mem_append_left _ (List.mem_reverse.mpr hv)
  have hos : aOk S st := fun v hv => h4 v (List.mem_append_right _ hv)
  have hst : (as.reverse ++ st).map (arn io) = (as.map (arn io)).reverse ++ st.map (arn io) := by
    rw [List.map_append, List.map_reverse]
  exact aG.cont hx (vx_runS (As := as.map (arn io)) (rest := st.map (arn io)) ⟨hx.1, hx.2.1, hx.2.2.1, hx.2.2.2.1, hx.2.2.2.2.1⟩ (hm io) (va_cwS as.length hx.2.2.2.2.1 (abig_cons l1 (abig_cons l2 (abig_cons l3 (abig_cons l4 abig_good)))) rfl rfl rfl ⟨l6, l7, l8⟩ ⟨hrf, hrl⟩) ⟨aPc.blind, aPc.at hx h1 hav h5⟩ rfl (by rw [List.length_map]) (h6.1) hst (lv_room (by rw [arn_cats]; exact hcat)) d ⟨Nat.le_trans hk hkR, Nat.le_trans hs hsR⟩) h2 h3 hos h5 h6 (fun v S' I' L' R' z io' H' locs' ls' b1 b2 b3 b4 b5 b6 => W.widen hk hs (z io' H' locs' ls' b1 b2 b3 b4 b5 b6)) (fun _ _ _ _ _ _ _ _ _ _ z => absurd z id)

theorem g_callS_X (hx : aCx p l s m args meth c own cc nL ret E) {idx : Nat} {y : MethodName} {cc' : ByteArray} {nL' : Nat} {ret' : Option FieldType} {rm : Room} (as : List Value) {stk : List Value} {k' n' : Nat} (d : decode cc pc = .ok (.invokestatic idx, 3)) (hn : pc + 3 = nx) (lk : aLS own idx y cc' nL' ret' as.length) (hstk : as.reverse ++ st = stk) (hcat : (st.map fun v => v.category).sum ≤ 8) (hrf : rm.frames + 1 ≤ R.frames) (hrl : 8 + (nL' + 11) + rm.locals ≤ R.locals) (hk : k + rm.cells ≤ k') (hs : n + rm.slots ≤ n') (hkR : k' ≤ R.cells) (hsR : n' ≤ R.slots) (hno : ∀ x ∈ c.exceptionTable.toList, False) (hmc : k' ≤ mc) (hms : n' ≤ ms) 
    (hm : aMet l E y cc' nL' ret' rm (as) S I L Rf (fun v S' I' L' R' => aG p l e R s m args below meth c E io0 S0 nL (vx_MQ below (aQc E io0 S0 Kr) (aXC E io0 S0 Kx) args s mc ms (aW E)) nx lv (v.toList ++ st) (S') (I') (L') (R') (k') (n')) Kx) : aG p l e R s m args below meth c E io0 S0 nL (vx_MQ below (aQc E io0 S0 Kr) (aXC E io0 S0 Kx) args s mc ms (aW E)) pc lv (stk) (S) (I) (L) (Rf) (k) (n) := by
  subst hn; subst hstk
  intro io H locs ls h1 h2 h3 h4 h5 h6
  obtain ⟨l1, l2, l3, l4, l6, l7, l8⟩ := lk
  have hav : aOk S (as) := by
    intro v hv
    refine h4 v ?_
    exact List.mem_append_left _ (List.mem_reverse.mpr hv)
  have hos : aOk S st := fun v hv => h4 v (List.mem_append_right _ hv)
  have hst : (as.reverse ++ st).map (arn io) = (as.map (arn io)).reverse ++ st.map (arn io) := by
    rw [List.map_append, List.map_reverse]
  exact aG.cont hx (vx_runS (As := as.map (arn io)) (rest := st.map (arn io)) ⟨hx.1, hx.2.1, hx.2.2.1, hx.2.2.2.1, hx.2.2.2.2.1⟩ (hm io) (va_cwS as.length hx.2.2.2.2.1 (abig_cons l1 (abig_cons l2 (abig_cons l3 (abig_cons l4 abig_good)))) rfl rfl rfl ⟨l6, l7, l8⟩ ⟨hrf, hrl⟩) ⟨aPc.blind, aPc.at hx h1 hav h5⟩ rfl (by rw [List.length_map]) (h6.1) hst (lv_room (by rw [arn_cats]; exact hcat)) d ⟨Nat.le_trans hk hkR, Nat.le_trans hs hsR⟩) h2 h3 hos h5 h6 (fun v S' I' L' R' z io' H' locs' ls' b1 b2 b3 b4 b5 b6 => W.widen hk hs (z io' H' locs' ls' b1 b2 b3 b4 b5 b6)) (fun X io' S' I' L' R' H1 locs1 q ce hK hHR hag hag2 hS hce hcv hcl => vx_out (fun x hx => absurd (hno x hx) id) hx.2.2.2.2.2.1 hce hcv hcl (fun t ht hA => ⟨⟨io', S', I', L', R', hK, by rw [ht]; exact hHR, hag⟩, hS.F ht⟩) hS.2.2 (Nat.le_trans hk hmc) (Nat.le_trans hs hms))

theorem g_callI_M (hx : aCx p l s m args meth c own cc nL ret E) {idx : Nat} {q : Nat} {y : MethodName} {cc' : ByteArray} {nL' : Nat} {rm : Room} (as : List Value) {stk : List Value} {k' n' : Nat} (d : decode cc pc = .ok (.invokespecial idx, 3)) (hn : pc + 3 = nx) (lk : aLI own idx y cc' nL' as.length) (hstk : as.reverse ++ .ref q :: st = stk) (hcat : (st.map fun v => v.category).sum ≤ 8) (hrf : rm.frames + 1 ≤ R.frames) (hrl : 8 + (nL' + 11) + rm.locals ≤ R.locals) (hk : k + rm.cells ≤ k') (hs : n + rm.slots ≤ n') (hkR : k' ≤ R.cells) (hsR : n' ≤ R.slots) 
    (hm : aMet l E y cc' nL' none rm (.ref q :: as) S I L Rf (fun v S' I' L' R' => aG p l e R s m args below meth c E io0 S0 nL (Q) nx lv (v.toList ++ st) (S') (I') (L') (R') (k') (n')) aNoX) : aG p l e R s m args below meth c E io0 S0 nL (Q) pc lv (stk) (S) (I) (L) (Rf) (k) (n) := by
  subst hn; subst hstk
  intro io H locs ls h1 h2 h3 h4 h5 h6
  obtain ⟨l1, l2, l3, l4, l5, l6, l7, l8⟩ := lk
  have hav : aOk S (.ref q :: as) := by
    intro v hv
    refine h4 v ?_
    rcases List.mem_cons.mp hv with z | z
    · exact List.mem_append_right _ (by rw [z]; exact List.mem_cons_self)
    · exact List.mem_append_left _ (List.mem_reverse.mpr z)
  have hos : aOk S st := fun v hv => h4 v (List.mem_append_right _ (List.mem_cons_of_mem _ hv))
  have hst : (as.reverse ++ .ref q :: st).map (arn io) = (as.map (arn io)).reverse ++ .ref (io q) :: st.map (arn io) := by
    rw [List.map_append, List.map_reverse]; rfl
  exact aG.cont hx (run_of (va_runI (b := io q) (As := as.map (arn io)) (rest := st.map (arn io)) ⟨hx.1, hx.2.1, hx.2.2.1, hx.2.2.2.1, hx.2.2.2.2.1⟩ (met_of (hm io) (fun _ _ _ z => z.1.choose_spec.choose_spec.choose_spec.choose_spec.choose_spec.1)) (cwI as.length hx.2.2.2.2.1 (abig_cons l4 abig_good) rfl rfl rfl (hx.W l3) (hx.W l1) (hx.W l2) l5 ⟨l6, l7, l8⟩ ⟨hrf, hrl⟩) ⟨aPc.blind, aPc.at hx h1 hav h5⟩ rfl (by rw [List.length_map]) (h6.1) hst (lv_room (by rw [arn_cats]; exact hcat)) d ⟨Nat.le_trans hk hkR, Nat.le_trans hs hsR⟩)) h2 h3 hos h5 h6 (fun v S' I' L' R' z io' H' locs' ls' b1 b2 b3 b4 b5 b6 => W.widen hk hs (z io' H' locs' ls' b1 b2 b3 b4 b5 b6)) (fun _ _ _ _ _ _ _ _ _ _ z => absurd z id)

theorem g_callNV_M (hx : aCx p l s m args meth c own cc nL ret E) {idx : Nat} {q : Nat} {ci : Nat} {y : MethodName} {cc' : ByteArray} {nL' : Nat} {ret' : Option FieldType} {rm : Room} (as : List Value) {stk : List Value} {k' n' : Nat} (d : decode cc pc = .ok (.invokevirtual idx, 3)) (hn : pc + 3 = nx) (lk : aNV own idx y cc' nL' ret' as.length) (hq : S q = some (.inr ci)) (h9 : 3 ≤ q) (hC : (aCl[ci]?).map (fun r => r.1) = some y.cls) (hstk : as.reverse ++ .ref q :: st = stk) (hcat : (st.map fun v => v.category).sum ≤ 8) (hrf : rm.frames + 1 ≤ R.frames) (hrl : 8 + (nL' + 11) + rm.locals ≤ R.locals) (hk : k + rm.cells ≤ k') (hs : n + rm.slots ≤ n') (hkR : k' ≤ R.cells) (hsR : n' ≤ R.slots) 
    (hm : aMet l E y cc' nL' ret' rm (.ref q :: as) S I L Rf (fun v S' I' L' R' => aG p l e R s m args below meth c E io0 S0 nL (Q) nx lv (v.toList ++ st) (S') (I') (L') (R') (k') (n')) aNoX) : aG p l e R s m args below meth c E io0 S0 nL (Q) pc lv (stk) (S) (I) (L) (Rf) (k) (n) := by
  subst hn; subst hstk
  intro io H locs ls h1 h2 h3 h4 h5 h6
  obtain ⟨⟨host, l1⟩, l2, l3, l4, l5, l6, l7, l8⟩ := lk
  have hav : aOk S (.ref q :: as) := by
    intro v hv
    refine h4 v ?_
    rcases List.mem_cons.mp hv with z | z
    · exact List.mem_append_right _ (by rw [z]; exact List.mem_cons_self)
    · exact List.mem_append_left _ (List.mem_reverse.mpr z)
  have hos : aOk S st := fun v hv => h4 v (List.mem_append_right _ (List.mem_cons_of_mem _ hv))
  have hst : (as.reverse ++ .ref q :: st).map (arn io) = (as.map (arn io)).reverse ++ .ref (io q) :: st.map (arn io) := by
    rw [List.map_append, List.map_reverse]; rfl
  exact aG.cont hx (run_of (va_runVN (b := io q) (C := y.cls) (As := as.map (arn io)) (rest := st.map (arn io)) ⟨hx.1, hx.2.1, hx.2.2.1, hx.2.2.2.1, hx.2.2.2.2.1⟩ (met_of (hm io) (fun _ _ _ z => z.1.choose_spec.choose_spec.choose_spec.choose_spec.choose_spec.1)) ⟨va_cnB as.length hx.2.2.2.2.1 (abig_cons l5 abig_good) rfl rfl rfl (va_Nw.of rfl (hx.N l1 rfl)) (hx.W l4) ⟨l6, l7, l8⟩ ⟨hrf, hrl⟩, hx.W l2, hx.W l3⟩ ⟨aPc.blind, aRecv hx h1 hq h9 hC, aPc.at hx h1 hav h5⟩ rfl (by rw [List.length_map]) (h6.1) hst (lv_room (by rw [arn_cats]; exact hcat)) d ⟨Nat.le_trans hk hkR, Nat.le_trans hs hsR⟩)) h2 h3 hos h5 h6 (fun v S' I' L' R' z io' H' locs' ls' b1 b2 b3 b4 b5 b6 => W.widen hk hs (z io' H' locs' ls' b1 b2 b3 b4 b5 b6)) (fun _ _ _ _ _ _ _ _ _ _ z => absurd z id)

theorem g_callNS_M (hx : aCx p l s m args meth c own cc nL ret E) {idx : Nat} {y : MethodName} {cc' : ByteArray} {nL' : Nat} {ret' : Option FieldType} {rm : Room} (as : List Value) {stk : List Value} {k' n' : Nat} (d : decode cc pc = .ok (.invokestatic idx, 3)) (hn : pc + 3 = nx) (lk : aNS own idx y cc' nL' ret' as.length) (hstk : as.reverse ++ st = stk) (hcat : (st.map fun v => v.category).sum ≤ 8) (hrf : rm.frames + 1 ≤ R.frames) (hrl : 8 + (nL' + 11) + rm.locals ≤ R.locals) (hk : k + rm.cells ≤ k') (hs : n + rm.slots ≤ n') (hkR : k' ≤ R.cells) (hsR : n' ≤ R.slots) 
    (hm : aMet l E y cc' nL' ret' rm (as) S I L Rf (fun v S' I' L' R' => aG p l e R s m args below meth c E io0 S0 nL (Q) nx lv (v.toList ++ st) (S') (I') (L') (R') (k') (n')) aNoX) : aG p l e R s m args below meth c E io0 S0 nL (Q) pc lv (stk) (S) (I) (L) (Rf) (k) (n) := by
  subst hn; subst hstk
  intro io H locs ls h1 h2 h3 h4 h5 h6
  obtain ⟨⟨host, l1⟩, l2, l3, l4, l6, l7, l8⟩ := lk
  have hav : aOk S (as) := by
    intro v hv
    refine h4 v ?_
    exact List.mem_append_left _ (List.mem_reverse.mpr hv)
  have hos : aOk S st := fun v hv => h4 v (List.mem_append_right _ hv)
  have hst : (as.reverse ++ st).map (arn io) = (as.map (arn io)).reverse ++ st.map (arn io) := by
    rw [List.map_append, List.map_reverse]
  exact aG.cont hx (run_of (va_runSN (As := as.map (arn io)) (rest := st.map (arn io)) ⟨hx.1, hx.2.1, hx.2.2.1, hx.2.2.2.1, hx.2.2.2.2.1⟩ (met_of (hm io) (fun _ _ _ z => z.1.choose_spec.choose_spec.choose_spec.choose_spec.choose_spec.1)) ⟨va_cnB as.length hx.2.2.2.2.1 (abig_cons l4 abig_good) rfl rfl rfl (va_Nw.of rfl (hx.N l1 rfl)) (hx.W l3) ⟨l6, l7, l8⟩ ⟨hrf, hrl⟩, hx.W l2, trivial⟩ ⟨aPc.blind, aPc.at hx h1 hav h5⟩ rfl (by rw [List.length_map]) (h6.1) hst (lv_room (by rw [arn_cats]; exact hcat)) d ⟨Nat.le_trans hk hkR, Nat.le_trans hs hsR⟩)) h2 h3 hos h5 h6 (fun v S' I' L' R' z io' H' locs' ls' b1 b2 b3 b4 b5 b6 => W.widen hk hs (z io' H' locs' ls' b1 b2 b3 b4 b5 b6)) (fun _ _ _ _ _ _ _ _ _ _ z => absurd z id)

theorem g_callNI_M (hx : aCx p l s m args meth c own cc nL ret E) {idx : Nat} {q : Nat} {y : MethodName} {cc' : ByteArray} {nL' : Nat} {rm : Room} (as : List Value) {stk : List Value} {k' n' : Nat} (d : decode cc pc = .ok (.invokespecial idx, 3)) (hn : pc + 3 = nx) (lk : aNI own idx y cc' nL' as.length) (hstk : as.reverse ++ .ref q :: st = stk) (hcat : (st.map fun v => v.category).sum ≤ 8) (hrf : rm.frames + 1 ≤ R.frames) (hrl : 8 + (nL' + 11) + rm.locals ≤ R.locals) (hk : k + rm.cells ≤ k') (hs : n + rm.slots ≤ n') (hkR : k' ≤ R.cells) (hsR : n' ≤ R.slots) 
    (hm : aMet l E y cc' nL' none rm (.ref q :: as) S I L Rf (fun v S' I' L' R' => aG p l e R s m args below meth c E io0 S0 nL (Q) nx lv (v.toList ++ st) (S') (I') (L') (R') (k') (n')) aNoX) : aG p l e R s m args below meth c E io0 S0 nL (Q) pc lv (stk) (S) (I) (L) (Rf) (k) (n) := by
  subst hn; subst hstk
  intro io H locs ls h1 h2 h3 h4 h5 h6
  obtain ⟨⟨host, l1⟩, l2, l3, l4, l5, l6, l7, l8⟩ := lk
  have hav : aOk S (.ref q :: as) := by
    intro v hv
    refine h4 v ?_
    rcases List.mem_cons.mp hv with z | z
    · exact List.mem_append_right _ (by rw [z]; exact List.mem_cons_self)
    · exact List.mem_append_left _ (List.mem_reverse.mpr z)
  have hos : aOk S st := fun v hv => h4 v (List.mem_append_right _ (List.mem_cons_of_mem _ hv))
  have hst : (as.reverse ++ .ref q :: st).map (arn io) = (as.map (arn io)).reverse ++ .ref (io q) :: st.map (arn io) := by
    rw [List.map_append, List.map_reverse]; rfl
  exact aG.cont hx (run_of (va_runIN (b := io q) (As := as.map (arn io)) (rest := st.map (arn io)) ⟨hx.1, hx.2.1, hx.2.2.1, hx.2.2.2.1, hx.2.2.2.2.1⟩ (met_of (hm io) (fun _ _ _ z => z.1.choose_spec.choose_spec.choose_spec.choose_spec.choose_spec.1)) ⟨va_cnB as.length hx.2.2.2.2.1 (abig_cons l4 abig_good) rfl rfl rfl (va_Nw.of rfl (hx.N l1 rfl)) (hx.W l3) ⟨l6, l7, l8⟩ ⟨hrf, hrl⟩, l5, hx.W l2⟩ ⟨aPc.blind, aPc.at hx h1 hav h5⟩ rfl (by rw [List.length_map]) (h6.1) hst (lv_room (by rw [arn_cats]; exact hcat)) d ⟨Nat.le_trans hk hkR, Nat.le_trans hs hsR⟩)) h2 h3 hos h5 h6 (fun v S' I' L' R' z io' H' locs' ls' b1 b2 b3 b4 b5 b6 => W.widen hk hs (z io' H' locs' ls' b1 b2 b3 b4 b5 b6)) (fun _ _ _ _ _ _ _ _ _ _ z => absurd z id)

end AEND
