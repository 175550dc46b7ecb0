/-! throws; methods that catch -/
abbrev aXn : List String := ["java/lang/RuntimeException", "java/lang/Exception"]
theorem aHR.kept {E : aE} {io : aM} {S : aS} {I : aI} {L : aL} {R : aR} {H H1 : Heap} (h : aHR E io S I L R H) (hk : ∀ q, q < H.size → H1[q]? = H[q]?) : aHR E io S I L R H1 :=
  ⟨fun q x hq h9 => (h.1 q x hq h9).kept (hk _ (h.1 q x hq h9).lt), h.2⟩
def aTh (own : String) (ik is ic : Nat) (X tx : String) : Prop := Bundle.fit X = true ∧ (∀ n ∈ aXn, Bundle.fit n = true) ∧ Cond.classLink own ik X ∈ aBIG ∧ Cond.initialized X ∈ aBIG ∧ Cond.stringRef own is tx ∈ lw_tbl ∧ (∀ w ∈ vx_atS own ic X aXn, w ∈ aBIG ∨ (w ∈ lw_tbl ∧ aNk w = true)) ∧ ∀ w ∈ Cond.classLink own ik X :: Cond.initialized X :: vx_atS own ic X aXn, vx_ot w = true
section ATH
variable {p : Program} {l : Launch} {e : Env} {R : Room} {s : State} {m : MethodId} {args : Array Value} {below : List Frame} {meth : Method} {c : Code} {E : aE} {io0 : aM} {S0 : aS} {nL : Nat} {Q : State → Prop}
variable {own : String} {cc : ByteArray} {ret : Option FieldType} {pc nx : Nat} {lv st : List Value} {S : aS} {I : aI} {L : aL} {Rf : aR} {k n mc ms : Nat} {Kr : aK} {Kx : aX}

theorem g_throw (hx : aCx p l s m args meth c own cc nL ret E) {ik is ic : Nat} {X tx : String} (th : aTh own ik is ic X tx) (d0 : decode cc pc = .ok (.new ik, 3)) (d3 : decode cc (pc + 3) = .ok (.dup, 1)) (d4 : decode cc (pc + 4) = .ok (.ldc is, 2)) (d6 : decode cc (pc + 6) = .ok (.invokespecial ic, 3)) (d9 : decode cc (pc + 9) = .ok (.athrow, 1)) (hno : ∀ x ∈ c.exceptionTable.toList, False) (hf : 6 ≤ R.frames) (hl : (st.map fun v => v.category).sum + 82 ≤ R.locals) (hkR : k + 1 ≤ R.cells) (hsR : n + 6 ≤ R.slots) (hk : k + 1 ≤ mc) (hs : n + 6 ≤ ms) (hK : Kx X S I L Rf) : aG p l e R s m args below meth c E io0 S0 nL (vx_MQ below (aQc E io0 S0 Kr) (aXC E io0 S0 Kx) args s mc ms (aW E)) pc lv (st) (S) (I) (L) (Rf) (k) (n) := by
  intro io H locs ls h1 h2 h3 h4 h5 h6
  obtain ⟨t1, t2, t3, t4, t5, t6, t7⟩ := th
  have hEv := hx.2.2.2.2.2.2.1
  obtain ⟨sa, hsa⟩ := hEv.2.2.2.2.2.2.1 own is tx t5
  refine vx_throwS (A := aW E) (names := aXn) hx.1 hx.2.1 hx.2.2.2.2.2.2.2.1 hx.2.2.2.1 t1 t2 (hx.W t3) (hx.W t4) hsa (fun w hw => ?_) t7 hEv.2.2.2.2.1 hEv.2.2.2.2.2.1 h5 (by rw [hx.2.2.1]; exact h6.1) d0 d3 d4 d6 d9 (fun x hx => absurd (hno x hx) id) (by show 2 + 3 < _; omega) (by rw [arn_cats]; show _ + (13 * (2 + 1) + 43) ≤ _; omega) hkR hsR hx.2.2.2.2.2.1 (fun t hA hz hq => ⟨⟨io, S, I, L, Rf, hK, h1.kept hq, h2⟩, Nat.le_trans h5.1 hz, fun a ha hn => (hq a (Nat.lt_of_lt_of_le ha h5.1)).trans (h5.2.1 a ha hn)⟩) h5.2.2 hk hs
  rcases t6 w hw with z | z
  · exact hx.W z
  · exact hx.N z.1 z.2

theorem g_throwW (hx : aCx p l s m args meth c own cc nL ret E) {ik is ic : Nat} {X tx : String} (th : aTh own ik is ic X tx) (d0 : decode cc pc = .ok (.new ik, 3)) (d3 : decode cc (pc + 3) = .ok (.dup, 1)) (d4 : decode cc (pc + 4) = .ok (.ldc_w is, 3)) (d6 : decode cc (pc + 7) = .ok (.invokespecial ic, 3)) (d9 : decode cc (pc + 10) = .ok (.athrow, 1)) (hno : ∀ x ∈ c.exceptionTable.toList, False) (hf : 6 ≤ R.frames) (hl : (st.map fun v => v.category).sum + 82 ≤ R.locals) (hkR : k + 1 ≤ R.cells) (hsR : n + 6 ≤ R.slots) (hk : k + 1 ≤ mc) (hs : n + 6 ≤ ms) (hK : Kx X S I L Rf) : aG p l e R s m args below meth c E io0 S0 nL (vx_MQ below (aQc E io0 S0 Kr) (aXC E io0 S0 Kx) args s mc ms (aW E)) pc lv (st) (S) (I) (L) (Rf) (k) (n) := by
  intro io H locs ls h1 h2 h3 h4 h5 h6
  obtain ⟨t1, t2, t3, t4, t5, t6, t7⟩ := th
  have hEv := hx.2.2.2.2.2.2.1
  obtain ⟨sa, hsa⟩ := hEv.2.2.2.2.2.2.1 own is tx t5
  refine vx_throwSW (A := aW E) (names := aXn) hx.1 hx.2.1 hx.2.2.2.2.2.2.2.1 hx.2.2.2.1 t1 t2 (hx.W t3) (hx.W t4) hsa (fun w hw => ?_) t7 hEv.2.2.2.2.1 hEv.2.2.2.2.2.1 h5 (by rw [hx.2.2.1]; exact h6.1) d0 d3 d4 d6 d9 (fun x hx => absurd (hno x hx) id) (by show 2 + 3 < _; omega) (by rw [arn_cats]; show _ + (13 * (2 + 1) + 43) ≤ _; omega) hkR hsR hx.2.2.2.2.2.1 (fun t hA hz hq => ⟨⟨io, S, I, L, Rf, hK, h1.kept hq, h2⟩, Nat.le_trans h5.1 hz, fun a ha hn => (hq a (Nat.lt_of_lt_of_le ha h5.1)).trans (h5.2.1 a ha hn)⟩) h5.2.2 hk hs
  rcases t6 w hw with z | z
  · exact hx.W z
  · exact hx.N z.1 z.2

/-- the handler that takes X, thrown at pc: the row of the table; the pc behind its store -/
def aHd (own : String) (cc : ByteArray) (tb : List ExceptionTableEntry) (pc j : Nat) (X : String) (t : Nat) : Prop := ∃ (pre : List ExceptionTableEntry) (x : ExceptionTableEntry) (suf : List ExceptionTableEntry) (nm : String), tb = pre ++ x :: suf ∧ (∀ z ∈ pre, covers z pc = false ∨ (z.catchType ≠ 0 ∧ ∃ nm : String, Cond.classLink own z.catchType nm ∈ aBIG ∧ (X, nm) ∈ aNcs)) ∧ covers x pc = true ∧ x.catchType ≠ 0 ∧ Cond.classLink own x.catchType nm ∈ aBIG ∧ Cond.castable X nm ∈ lw_tbl ∧ ((decode cc x.handlerPc = .ok (.astore j, 2) ∧ x.handlerPc + 2 = t) ∨ ∃ j4 : Fin 4, (j4 : Nat) = j ∧ decode cc x.handlerPc = .ok (.astore_n j4, 1) ∧ x.handlerPc + 1 = t)
def aStu (i : Nat) (lv lv' : List Value) : Prop := ∀ (j : Nat) (w : Value), lv'[j]? = some w → aKn w = true → j ≠ i ∧ lv[j]? = some w ∧ (j + 1 = i → w.category ≠ 2)
theorem aLc.stu {io : aM} {i : Nat} {v : Value} {lv lv' : List Value} {ls ls' : Array Slot} (hl : aLc io nL lv ls) (hs : aStu i lv lv') (h : lv_has ls' nL ((i, v) :: (aAll ls).filter (fun q => !(q.1 == i) && !(q.1 + 1 == i && q.2.category == 2)))) : aLc io nL lv' ls' := by
  refine ⟨h.1, h.2.1, fun j w hj hk => ?_⟩
  obtain ⟨h1, h2, h3⟩ := hs j w hj hk
  refine h.2.2 (j, arn io w) (List.mem_cons_of_mem _ (List.mem_filter.mpr ⟨aAll_mem (hl.2.2 j w h2 hk), ?_⟩))
  simp only [arn_cat, Bool.and_eq_true, Bool.not_eq_true', beq_eq_false_iff_ne, ne_eq, Bool.and_eq_false_iff]
  refine ⟨h1, ?_⟩
  by_cases e : j + 1 = i
  · exact Or.inr (h3 e)
  · exact Or.inl e
/-- a call that may throw, in a method that catches: every X that may come has its handler -/
theorem g_callV_H (hx : aCx p l s m args meth c own cc nL ret E) {idx q ci j : Nat} {y : MethodName} {cc' : ByteArray} {nL' : Nat} {ret' : Option FieldType} {rm : Room} (as : List Value) {stk : List Value} {k' n' : Nat} {tb : List ExceptionTableEntry} {lvh : List Value} (tg : String → Option Nat) (d : decode cc pc = .ok (.invokevirtual idx, 3)) (hn : pc + 3 = nx) (lk : aLV own idx y cc' nL' ret' as.length) (hq : S q = some (.inr ci)) (h9 : 3 ≤ q) (hC : (aCl[ci]?).map (fun r => r.1) = some y.cls) (hstk : as.reverse ++ .ref q :: st = stk) (hcat : (st.map fun v => v.category).sum ≤ 8) (hrf : rm.frames + 1 ≤ R.frames) (hrl : 8 + (nL' + 11) + rm.locals ≤ R.locals) (hk : k + rm.cells ≤ k') (hs : n + rm.slots ≤ n') (hkR : k' ≤ R.cells) (hsR : n' ≤ R.slots)
    (htb : c.exceptionTable.toList = tb) (hj : j < nL) (hlv : aStu j lv lvh) (htg : ∀ X t, tg X = some t → aHd own cc tb pc j X t)
    (hm : aMet l E y cc' nL' ret' rm (.ref q :: as) S I L Rf (fun v S' I' L' R' => aG p l e R s m args below meth c E io0 S0 nL (Q) nx lv (v.toList ++ st) (S') (I') (L') (R') (k') (n')) (fun X S' I' L' R' => ∃ t, tg X = some t ∧ aG p l e R s m args below meth c E io0 S0 nL (Q) t lvh ([]) (S') (I') (L') (R') (k') (n'))) : aG p l e R s m args below meth c E io0 S0 nL (Q) pc lv (stk) (S) (I) (L) (Rf) (k) (n) := by
  subst hn; subst hstk
  intro io H locs ls h1 h2 h3 h4 h5 h6
  obtain ⟨l1, l2, l3, l4, l5, l6, l7, l8⟩ := lk
  have hav : aOk S (.ref q :: as) := by
    intro v hv
    refine h4 v ?_
    rcases List.mem_cons.mp hv with z | z
    · exact List.mem_append_right _ (by rw [z]; exact List.mem_cons_self)
    · exact List.mem_append_left _ (List.mem_reverse.mpr z)
  have hos : aOk S st := fun v hv => h4 v (List.mem_append_right _ (List.mem_cons_of_mem _ hv))
  have hst : (as.reverse ++ .ref q :: st).map (arn io) = (as.map (arn io)).reverse ++ .ref (io q) :: st.map (arn io) := by
    rw [List.map_append, List.map_reverse]; rfl
  refine aG.cont hx (vx_runV (b := io q) (C := y.cls) (As := as.map (arn io)) (rest := st.map (arn io)) ⟨hx.1, hx.2.1, hx.2.2.1, hx.2.2.2.1, hx.2.2.2.2.1⟩ (hm io) (cwV as.length hx.2.2.2.2.1 (abig_cons l1 (abig_cons l2 (abig_cons l3 (abig_cons l4 (abig_cons l5 abig_good))))) rfl rfl rfl ⟨rfl, l6, l7, l8⟩ ⟨hrf, hrl⟩) ⟨aPc.blind, aRecv hx h1 hq h9 hC, aPc.at hx h1 hav h5⟩ rfl (by rw [List.length_map]) (h6.1) hst (lv_room (by rw [arn_cats]; exact hcat)) d ⟨Nat.le_trans hk hkR, Nat.le_trans hs hsR⟩) h2 h3 hos h5 h6 (fun v S' I' L' R' z io' H' locs' ls' b1 b2 b3 b4 b5 b6 => W.widen hk hs (z io' H' locs' ls' b1 b2 b3 b4 b5 b6)) ?_
  intro X io' S' I' L' R' H1 locs1 q9 ce hK hHR hag hag2 hS hce hcv hcl
  obtain ⟨t, ht, hG⟩ := hK
  obtain ⟨pre, x, suf, nm, e1, e2, e3, e4, e5, e6, e7⟩ := htg X t ht
  have hNc := hx.2.2.2.2.2.2.1.2.2.2.2.2.2.2.2.2.2.2
  refine vx_widen hk hs (vx_catch (name := nm) (E := X) (ce := ce) hx.2.2.2.1 pre x suf (htb.trans e1) (fun z hz => ?_) e3 e4 (hx.W e5) (hx.N e6 rfl) hce hcv hcl ?_)
  · rcases e2 z hz with w | ⟨w1, nm9, w2, w3⟩
    · exact Or.inl w
    · exact Or.inr ⟨w1, nm9, hx.W w2, hNc (X, nm9) w3⟩
  · have hm9 : ∀ r, S r ≠ none → S' r ≠ none := fun r z => by rw [(hag2 r z).2]; exact z
    have h6' : aLc io' nL lv ls := h6.congr h3 (fun r z => (hag2 r z).1)
    have h3' : aOk S' lvh := fun v hv q e => by
      obtain ⟨i, hi⟩ := List.getElem?_of_mem hv
      have z := hlv i v hi (by rw [e]; rfl)
      exact (h3.mono hm9) v (List.mem_of_getElem? z.2.1) q e
    rcases e7 with ⟨d7, e8⟩ | ⟨j4, e9, d7, e8⟩
    · subst e8
      exact lv_astore hx.1 hx.2.1 d7 (aAll_has h6'.1 h6'.2.1) hj rfl fun ls' hl' => hG io' H1 locs1 ls' hHR hag h3' aOk.nil hS (h6'.stu hlv hl')
    · subst e8
      exact lv_astore_n hx.1 hx.2.1 d7 e9 (aAll_has h6'.1 h6'.2.1) hj rfl fun ls' hl' => hG io' H1 locs1 ls' hHR hag h3' aOk.nil hS (h6'.stu hlv hl')
end ATH
def aMetW (l : Launch) (E : aE) (y : MethodName) (cc : ByteArray) (nL : Nat) (ret : Option FieldType) (hh : List (Nat × Nat × Nat × Nat)) (rm : Room) (av : List Value) (S : aS) (I : aI) (L : aL) (R : aR) (Kr : aK) : Prop :=
  ∀ io0 : aM, vx_Met l y (Cond.codeWith y cc nL ret hh :: aBIG) rm (aPc E io0 S I L R av) (aQc E io0 S Kr) (aXC E io0 S aNoX) rm.cells rm.slots (aW E)
theorem aMetW.of {l : Launch} {E : aE} {y : MethodName} {cc : ByteArray} {nL : Nat} {ret : Option FieldType} {hh : List (Nat × Nat × Nat × Nat)} {rm : Room} {av lv0 : List Value} {z : Nat} {S : aS} {I : aI} {L : aL} {Rf : aR} {Kr : aK} (hy : plainName y.cls = true) (hst : l.stackTraces = false) (h0 : aIni av ++ List.replicate z aU = lv0) (hlen : (aIni av).length ≤ nL)
    (body : ∀ (p : Program) (e : Env) (s : State) (m : MethodId) (args : Array Value) (below : List Frame) (meth : Method) (c : Code) (io0 : aM), aCx p l s m args meth c y.cls cc nL ret E → c.exceptionTable.toList = tableOf hh →
      aG p l e rm s m args below meth c E io0 S nL (vx_MQ below (aQc E io0 S Kr) (aXC E io0 S aNoX) args s rm.cells rm.slots (aW E)) 0 lv0 [] S I L Rf 0 0) : aMetW l E y cc nL ret hh rm av S I L Rf Kr := by
  intro io0
  refine vx_ofWH (ws' := aBIG) hy rfl ?_
  intro p e s m args below meth c s₁ B hml hv
  obtain ⟨rfl, hHR, hEv, hok⟩ := hv
  have hts := atoms_spec (ws := Cond.codeWith y cc nL ret hh :: aBIG) B.pre
  have htb := vx_table (x := y) B (hts _ List.mem_cons_self)
  have hl := lv_entry (av.map (arn io0)) (n := nL) (by rw [lg_sl_len]; exact hlen)
  rw [lg_entry_eq]
  subst h0
  refine body p e s m _ below meth c io0 ⟨B.exec, B.bytes, hml, findClass_of_methodNamed B.named, fun w hw => hts w (List.mem_cons_of_mem _ hw), B.notSynchronized, hEv, hst, B.returns⟩ htb io0 s.heap [] _ hHR (fun _ _ => ⟨rfl, rfl⟩) (aIni_ok av z hok) aOk.nil va_S.rf ⟨hl.1, hl.2.1, fun i v hi hk => ?_⟩
  have h9 := aIni_at (io := io0) av 0 i v z hi hk
  rw [Nat.zero_add] at h9
  exact hl.2.2 _ h9
def aLW (own : String) (idx : Nat) (y : MethodName) (cc : ByteArray) (nL : Nat) (ret : Option FieldType) (hh : List (Nat × Nat × Nat × Nat)) (n : Nat) : Prop := Cond.methodLink own idx y ∈ aBIG ∧ Cond.static y ∈ aBIG ∧ Cond.initialized y.cls ∈ aBIG ∧ Cond.codeWith y cc nL ret hh ∈ aBIG ∧ y.cls ≠ "java/lang/invoke/MethodHandle" ∧ y.cls ≠ "java/lang/invoke/VarHandle" ∧ (parseMethodDescriptor y.desc).map (fun d => d.parameters.length) = some n
section ATW
variable {p : Program} {l : Launch} {e : Env} {R : Room} {s : State} {m : MethodId} {args : Array Value} {below : List Frame} {meth : Method} {c : Code} {E : aE} {io0 : aM} {S0 : aS} {nL : Nat} {Q : State → Prop}
variable {own : String} {cc : ByteArray} {ret : Option FieldType} {pc nx : Nat} {lv st : List Value} {S : aS} {I : aI} {L : aL} {Rf : aR} {k n mc ms : Nat}
theorem g_callW (hx : aCx p l s m args meth c own cc nL ret E) {idx : Nat} {y : MethodName} {cc' : ByteArray} {nL' : Nat} {ret' : Option FieldType} {hh : List (Nat × Nat × Nat × Nat)} {rm : Room} (as : List Value) {stk : List Value} {k' n' : Nat} (d : decode cc pc = .ok (.invokestatic idx, 3)) (hn : pc + 3 = nx) (lk : aLW own idx y cc' nL' ret' hh as.length) (hstk : as.reverse ++ st = stk) (hcat : (st.map fun v => v.category).sum ≤ 8) (hrf : rm.frames + 1 ≤ R.frames) (hrl : 8 + (nL' + 11) + rm.locals ≤ R.locals) (hk : k + rm.cells ≤ k') (hs : n + rm.slots ≤ n') (hkR : k' ≤ R.cells) (hsR : n' ≤ R.slots)
    (hm : aMetW l E y cc' nL' ret' hh rm as S I L Rf (fun v S' I' L' R' => aG p l e R s m args below meth c E io0 S0 nL (Q) nx lv (v.toList ++ st) (S') (I') (L') (R') (k') (n'))) : aG p l e R s m args below meth c E io0 S0 nL (Q) pc lv (stk) (S) (I) (L) (Rf) (k) (n) := by
  subst hn; subst hstk
  intro io H locs ls h1 h2 h3 h4 h5 h6
  obtain ⟨l1, l2, l3, l4, l6, l7, l8⟩ := lk
  have hav : aOk S as := fun v hv => h4 v (List.mem_append_left _ (List.mem_reverse.mpr hv))
  have hos : aOk S st := fun v hv => h4 v (List.mem_append_right _ hv)
  have hst : (as.reverse ++ st).map (arn io) = (as.map (arn io)).reverse ++ st.map (arn io) := by
    rw [List.map_append, List.map_reverse]
  exact aG.cont (Kx' := aNoX) hx (run_of (vx_runSW (hh := hh) (As := as.map (arn io)) (rest := st.map (arn io)) ⟨hx.1, hx.2.1, hx.2.2.1, hx.2.2.2.1, hx.2.2.2.2.1⟩ (met_of (hm io) (fun _ _ _ z => z.1.choose_spec.choose_spec.choose_spec.choose_spec.choose_spec.1)) (vx_cwSW as.length hx.2.2.2.2.1 (abig_cons l1 (abig_cons l2 (abig_cons l3 (abig_cons l4 abig_good)))) rfl rfl rfl ⟨l6, l7, l8⟩ ⟨hrf, hrl⟩) ⟨aPc.blind, aPc.at hx h1 hav h5⟩ rfl (by rw [List.length_map]) (h6.1) hst (lv_room (by rw [arn_cats]; exact hcat)) d ⟨Nat.le_trans hk hkR, Nat.le_trans hs hsR⟩)) h2 h3 hos h5 h6 (fun v S' I' L' R' z io' H' locs' ls' b1 b2 b3 b4 b5 b6 => W.widen hk hs (z io' H' locs' ls' b1 b2 b3 b4 b5 b6)) (fun _ _ _ _ _ _ _ _ _ _ z => absurd z id)
end ATW

