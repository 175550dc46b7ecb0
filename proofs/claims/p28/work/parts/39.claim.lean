section FG
variable {p : Program} {l : Launch} {e : Env} {R : Room} {s : State} {m : MethodId} {args : Array Value} {below : List Frame} {meth : Method} {c : Code} {E : aE} {io0 : aM} {S0 S' : aS} {nL : Nat} {Q : State → Prop}
variable {pc : Nat} {lv st : List Value} {I : aI} {L : aL} {R' : aR} {k n : Nat}
/-- what was made is let go -/
theorem aG.forget (h3 : ∀ q, 3 ≤ q → S0 q = none) (hl : aOk S0 lv) (hs : aOk S0 st) (kk : aG p l e R s m args below meth c E io0 S0 nL Q pc lv st S0 I L (fun _ _ => none) k n) : aG p l e R s m args below meth c E io0 S0 nL Q pc lv st S' I L R' k n := by
  intro io H locs ls a1 a2 a3 a4 a5 a6
  obtain ⟨b1, b2, b3, b4, b5, b6, b7⟩ := a1
  have hlt : ∀ q, S0 q ≠ none → q < 3 := fun q hq => Nat.not_le.mp fun z => hq (h3 q z)
  refine kk io H locs ls ⟨fun q x hq z => ?_, fun q r hq hr _ => Or.inr ⟨hlt q hq, hlt r hr⟩, fun q hq z => absurd (h3 q z) hq, fun q k r _ z => (by cases z), b5, b6, fun q hq z => b7 q (by rw [(a2 q hq).2]; exact hq) z⟩ (fun q hq => ⟨(a2 q hq).1, rfl⟩) hl hs a5 a6
  rw [h3 q z] at hq; cases hq
end FG
/-! THE CLAIM OUT OF ONE WALK OF THE LAW'S BODY. Your part is whole_start (and what it stands on); all else here is the same for every law, but numbers. -/
def R_law : String := "AsteroToneLaw"
def lw_P (b : Addr) (xs : List Int32) (args : Array Value) (s : State) : Prop := args = #[.ref b] ∧ s.IntsAt b xs ∧ xs.length ≤ 260 ∧ (Jvm.Cond.and given_1 narrow_1).before args s = true
def lw_Q (_ : Array Value) (s : State) (o : Outcome) (t : State) : Prop := o = .returned (some (.int 1)) ∧ Framed s o t [] 600104 7301314
def lw_Z (below : List Frame) (a : Array Value) (s : State) : State → Prop := fun t => ∃ o, t.status = .running ∧ Ended t below o ∧ lw_Q a s o t
/-- the law's own end, with 1 on the stack, nothing written that was there before, its room as the claim has it -/
theorem lw_ret {p : Program} {l : Launch} {e : Env} {s : State} {m : MethodId} {below : List Frame} {meth : Method} {c : Code} {b : Nat} (hx : p.tables.exec = Jvm.exec) (hb : c.code = code) (hr : meth.sig.returnType = ret) (hlocks : meth.locks = false) {pc : Nat} {H : Heap} {ls : Array Slot} (hdg : decode code pc = .ok (.ireturn, 1)) : W p l e room_1 s m #[Value.ref b] below meth c H [] 600104 7301314 (lw_Z below #[Value.ref b] s) (F0 m pc ls [.int 1]) := by
  intro T hT X
  obtain ⟨fs, hret, hrun, hended, hW, hframe⟩ := X.leave (v := some (.int 1)) (hlocks := hlocks) (fun h => by rw [hr] at h; cases h)
  have hmeth' : T.vm.method? m = some meth := X.method'
  refine ⟨T.setFrames fs, ?_, .returned (some (.int 1)), hrun, hended, rfl, ⟨_, rfl⟩, hW, hframe⟩
  jvm_step X.here [X.here.top, hx, hb, hdg, hmeth', hr, ret, narrow_b1]
  (try refine ⟨rfl, ?_⟩); (try refine ⟨rfl, ?_⟩)
  first | (intro acts; rw [hret _ acts rfl rfl rfl]) | rw [hret _ _ rfl rfl rfl]
  exact Steps.refl _
/-- what holds at the law's entry: the machine, the code, the tables' words (any of lw_tbl by 'hts w (by decide +kernel)'), the script of L ints xs at the cell b, what the Statement gives of the start (any of its parts by flat_of_before) -/
def lw_At (p : Program) (s : State) (m : MethodId) (meth : Method) (c : Code) (b L : Nat) (xs : Nat → Int32) : Prop :=
  p.tables.exec = Jvm.exec ∧ c.code = code ∧ meth.sig.returnType = ret ∧ c.maxLocals = 1 ∧ s.vm.findClass R_law = some m.cls ∧ (∀ w ∈ lw_tbl, w.before #[Value.ref b] s = true) ∧ va_X b L xs s s.heap ∧ b < s.heap.size ∧ meth.locks = false ∧ (Jvm.Cond.and given_1 narrow_1).before #[Value.ref b] s = true
-- ===== YOUR PART BEGINS =====
/-- YOUR PART: from the entry, for every script of at most 260 ints, the law comes to its end with true ('hflags': the launch's flags, for a law that throws: no stack traces) -/
theorem whole_start {p : Program} {e : Env} {s : State} {m : MethodId} {below : List Frame} {meth : Method} {c : Code} (l : Launch) (hflags : l.flags = flags0) {b L : Nat} {xs : Nat → Int32} (hL : L ≤ 260) (C0 : lw_At p s m meth c b L xs) : W p l e room_1 s m #[Value.ref b] below meth c s.heap [] 0 0 (lw_Z below #[Value.ref b] s) (entryFrame m ([Value.ref b] : List Value).toArray 1) := by
  obtain ⟨hx, hb, hr, hml, hown, hts, hX, hbl, hlocks, hgv⟩ := id C0
  have hst := st_flags hflags
  obtain ⟨E, hE, hE1, hE2, hE3, hE4⟩ := start_env hX hbl hts hgv
  have hN : aSn E < 2 ^ 31 := by rw [hE4]; omega
  have hl := lv_entry ([.ref b]) (n := 1) (Nat.le_of_ble_eq_true rfl)
  rw [lg_entry_eq]
  generalize (lg_sl ([.ref b]) ++ List.replicate (1 - (lg_sl ([.ref b])).length) Slot.unset).toArray = ls at hl ⊢
  have hl : lv_has ls 1 [(0, .ref b)] := hl
  have hcx : aCx p l s m #[Value.ref b] meth c RL cL_law 1 ret E := ⟨hx, hb, hml, hown, fun w hw => hts w (List.mem_filter.mp hw).1, hlocks, hE, hst, hr⟩
  have hfin : ∀ (S : aS) (I : aI) (L9 : aL) (R : aR) (lv : List Value) (k n : Nat), k ≤ 600104 → n ≤ 7301314 → aG p l e room_1 s m #[Value.ref b] below meth c E (fun q => if q = 1 then b else aTb E) ((fun q => if q = 1 then some (.inl (.int, L)) else if q = 2 then some (.inl (.float, 64)) else none) : aS) 1 (lw_Z below #[Value.ref b] s) 33 lv [.int 1] S I L9 R k n := by
    intro S I L9 R lv k n hk hn io H locs ls h1 h2 h3 h4 h5 h6
    refine va_forget (fun q hq => by have h9 : E.2.2.1 ≤ q.base := h5.2.2 q hq; rw [hE1] at h9; exact h9) ?_
    refine W.widen (k := 600104) (n := 7301314) hk hn ?_
    exact lw_ret hx hb hr hlocks dL_law_33
  have hS3 : ∀ a, 3 ≤ a → ((fun q => if q = 1 then some (.inl (.int, L)) else if q = 2 then some (.inl (.float, 64)) else none) : aS) a = none := fun a ha => by
    have a1 : ¬ a = 1 := by omega
    have a2 : ¬ a = 2 := by omega
    simp [a1, a2]
  have hok : aOk ((fun q => if q = 1 then some (.inl (.int, L)) else if q = 2 then some (.inl (.float, 64)) else none) : aS) [.ref 1] := fun v hv q e => by
    rw [List.mem_singleton.mp hv] at e
    cases e; simp
  have hG : aG p l e room_1 s m #[Value.ref b] below meth c E (fun q => if q = 1 then b else aTb E) ((fun q => if q = 1 then some (.inl (.int, L)) else if q = 2 then some (.inl (.float, 64)) else none) : aS) 1 (lw_Z below #[Value.ref b] s) 0 [.ref 1] [] ((fun q => if q = 1 then some (.inl (.int, L)) else if q = 2 then some (.inl (.float, 64)) else none) : aS) (fun _ j => xs j) (fun _ _ => 0) (fun _ _ => none) 0 0 := by
    refine g_aloadG_n hcx dL_law_0 rfl (nx := 1) rfl rfl ?_
    refine g_iconst hcx dL_law_1 (nx := 2) rfl (v := nI 0) (by decide) ?_
    refine g_callS_M hcx [_, _] (k' := 2860) (n' := 59000) dL_law_2 (nx := 5) rfl lk_L_168 rfl (Nat.le_of_ble_eq_true rfl) (Nat.le_of_ble_eq_true rfl) (Nat.le_of_ble_eq_true rfl) (Nat.le_of_ble_eq_true rfl) (Nat.le_of_ble_eq_true rfl) (Nat.le_of_ble_eq_true rfl) (Nat.le_of_ble_eq_true rfl) (s_L_sky hst hN (by decide) (by simp) hS3 (fun S1 I1 L1 R1 => ?_))
    refine g_if_eqN hcx dL_law_5 (tg := 32) (by decide) (nx := 8) rfl (by decide) (fun c5 => absurd c5 (by decide)) (fun _ => ?_)
    refine aG.forget hS3 hok aOk.nil ?_
    refine g_aloadG_n hcx dL_law_8 rfl (nx := 9) rfl rfl ?_
    refine g_sipush hcx dL_law_9 (nx := 12) rfl (v := nI 160) (by decide) ?_
    refine g_callS_M hcx [_, _] (k' := 5720) (n' := 118000) dL_law_12 (nx := 15) rfl lk_L_168 rfl (Nat.le_of_ble_eq_true rfl) (Nat.le_of_ble_eq_true rfl) (Nat.le_of_ble_eq_true rfl) (Nat.le_of_ble_eq_true rfl) (Nat.le_of_ble_eq_true rfl) (Nat.le_of_ble_eq_true rfl) (Nat.le_of_ble_eq_true rfl) (s_L_sky hst hN (by decide) (by simp) hS3 (fun S2 I2 L2 R2 => ?_))
    refine g_if_eqN hcx dL_law_15 (tg := 32) (by decide) (nx := 18) rfl (by decide) (fun c15 => absurd c15 (by decide)) (fun _ => ?_)
    refine aG.forget hS3 hok aOk.nil ?_
    refine g_aloadG_n hcx dL_law_18 rfl (nx := 19) rfl rfl ?_
    refine g_sipush hcx dL_law_19 (nx := 22) rfl (v := nI 320) (by decide) ?_
    refine g_callS_M hcx [_, _] (k' := 8580) (n' := 177000) dL_law_22 (nx := 25) rfl lk_L_168 rfl (Nat.le_of_ble_eq_true rfl) (Nat.le_of_ble_eq_true rfl) (Nat.le_of_ble_eq_true rfl) (Nat.le_of_ble_eq_true rfl) (Nat.le_of_ble_eq_true rfl) (Nat.le_of_ble_eq_true rfl) (Nat.le_of_ble_eq_true rfl) (s_L_sky hst hN (by decide) (by simp) hS3 (fun S3 I3 L3 R3 => ?_))
    refine g_if_eqN hcx dL_law_25 (tg := 32) (by decide) (nx := 28) rfl (by decide) (fun c25 => absurd c25 (by decide)) (fun _ => ?_)
    refine g_iconst hcx dL_law_28 (nx := 29) rfl (v := 1) (by decide) ?_
    refine g_goto hcx dL_law_29 (tg := 33) (by decide) ?_
    exact hfin S3 I3 L3 R3 _ _ _ (Nat.le_of_ble_eq_true rfl) (Nat.le_of_ble_eq_true rfl)
  refine hG (fun q => if q = 1 then b else aTb E) s.heap [] ls ⟨fun q x hq h3 => ?_, fun q r hq hr _ => Or.inr ⟨?_, ?_⟩, fun q hq h3 => ?_, fun q k r _ h => (by cases h), ⟨rfl, hE3.symm⟩, Nat.lt_of_lt_of_eq hE2 hE1.symm, fun q hq _ => ?_⟩ (fun _ _ => ⟨rfl, rfl⟩) hok aOk.nil va_S.rf ⟨hl.1, hl.2.1, fun i v hi hk => ?_⟩
  · rw [hS3 q h3] at hq; cases hq
  · exact Nat.not_le.mp fun z => hq (hS3 q z)
  · exact Nat.not_le.mp fun z => hr (hS3 r z)
  · exact absurd (hS3 q h3) hq
  · show (if q = 1 then b else aTb E) < E.2.2.1
    rw [hE1]
    split
    · exact hbl
    · exact hE2
  · match i, hi with
    | 0, hi => cases hi; exact hl.2.2 (0, .ref b) List.mem_cons_self
    | i + 1, hi => simp at hi
-- ===== YOUR PART ENDS =====
set_option maxHeartbeats 4000000 in
theorem lw_walk (l : Launch) (hflags : l.flags = flags0) (b : Addr) (xs : List Int32) : MetFree l x (headSpec (Jvm.Cond.code x code maxLocals ret :: tables_1) room_1) (lw_P b xs) (fun _ _ _ _ _ => True) lw_Q := by
  refine MetFree.of_bodyS (code := code) (maxLocals := maxLocals) (ret := ret) (by decide) ?_ ?_
  · intro args s m h hn
    obtain ⟨meth, c, h1, h2, h3, h4, h5, h6, -, -⟩ := Cond.code_spec hn (atoms_spec (ws := Jvm.Cond.code x code maxLocals ret :: tables_1) h _ List.mem_cons_self)
    exact ⟨meth, c, h1, h2, h3, h4, h5, h6⟩
  · intro p e s m args below meth c s₁ B hml0 hP _
    obtain ⟨rfl, hx, hbd, hgv⟩ := hP
    obtain ⟨scr, harrAt, hlist, hof, hsmall⟩ := hx
    obtain ⟨hcb, hkn, -, -⟩ := State.arrayAt?_spec harrAt
    have hown : s.vm.findClass R_law = some m.cls := findClass_of_methodNamed B.named
    have hts0 : ∀ c ∈ (Jvm.Cond.code x code maxLocals ret :: tables_1), c.before #[Value.ref b] s = true := atoms_spec (ws := Jvm.Cond.code x code maxLocals ret :: tables_1) B.pre
    have hts : ∀ w ∈ lw_tbl, w.before #[Value.ref b] s = true := k2_hts_sels lw_privs (fun w hw => hts0 w (List.mem_cons_of_mem _ hw)) lw_privs_ok
    have hml : c.maxLocals = 1 := B.maxLocals_eq (hts0 _ List.mem_cons_self)
    have X₀ : Stand p l e room_1 s m #[Value.ref b] below meth c s₁ [] 0 0 := Stand.of_body B
    have hh0 : s₁.heap = s.heap := by rw [B.state]; rfl
    have hsz : scr.slots.size = xs.length := by rw [← Array.length_toList, hlist, List.length_map]
    have hval : ∀ j : Nat, j < xs.length → scr.slots[j]? = some (.int (xs.getD j 0)) := fun j hj => by
      rw [← Array.getElem?_toList, hlist]
      simp [hj]
    have hbl : b < s.heap.size := (Array.getElem?_eq_some_iff.mp hcb).1
    have hX : va_X b xs.length (fun j => xs.getD j 0) s s.heap := ⟨scr, hcb, hof, hkn, hsz, hval⟩
    have K : W p l e room_1 s m #[Value.ref b] below meth c s₁.heap [] 0 0 (lw_Z below #[Value.ref b] s) (entryFrame m ([Value.ref b] : List Value).toArray 1) := by
      rw [hh0]
      exact whole_start l hflags hbd ⟨B.exec, B.bytes, B.returns, hml, hown, hts, hX, hbl, B.notSynchronized, hgv⟩
    obtain ⟨t, a1, o, b1, b2, b3⟩ := K s₁ rfl X₀
    exact ⟨t, o, a1, b1, b2, b3⟩
theorem lw_pre_spec {args : Array Value} {s : State} (h : (Jvm.Cond.and given_1 narrow_1).before args s = true) (hr : rest_1_c.before args s = true) : ∃ (b : Addr) (xs : List Int32), lw_P b xs args s := by
  have hs := flat_of_before _ h
  have hq := flat_of_before _ hr
  have hc : (Cond.count 1).before args s = true := hs _ (by decide +kernel)
  have harr : (Cond.arrayOf (.arg 0) .int).before args s = true := hs _ (by decide +kernel)
  have hle : (Cond.le (.length (.arg 0)) (.int 260)).before args s = true := hs _ (by decide +kernel)
  have hlen : (Cond.isInt (.length (.arg 0))).before args s = true := hq _ (by decide +kernel)
  have hall : (Cond.all (.arg 0) (.isInt (.elem (.arg 0) (.index 0)))).before args s = true := hq _ (by decide +kernel)
  obtain ⟨b, xs, hb, hx⟩ := State.ints_of_pre rfl harr hlen hall
  have hsm : xs.length < 2 ^ 31 := hx.choose_spec.2.2.2
  have hev : (Term.length (.arg 0)).eval args s none [] s = some (.int xs.length.toInt32) := hx.length_eval hb
  have hv := Cond.le_ints hev (show (Term.int 260).eval args s none [] s = some (.int 260) from rfl)
  have hd : xs.length.toInt32 ≤ 260 := by
    simpa [Cond.before, Cond.holds, hv] using hle
  have hN : xs.length ≤ 260 := (Int32.ofNat_le_ofNat hsm (by decide)).mp (show Int32.ofNat xs.length ≤ Int32.ofNat 260 from hd)
  exact ⟨b, xs, Cond.one_arg hc (show args[0]? = some (.ref b) from hb), hx, hN, h⟩
theorem lw_comes (l : Launch) (hflags : l.flags = flags0) : Comes l x (Jvm.Cond.code x code maxLocals ret :: tables_1) room_1 (fun tb e args s => Calls_1 tb e args s ∧ rest_1 tb e args s ∧ Pre_1 tb e args s)
    (fun _ _ args s o t => lw_Q args s o t) := by
  intro p e ha hc hk s m args below hf hfit hheap happ hpre
  obtain ⟨b, xs, hP⟩ := lw_pre_spec hpre.2.2 hpre.2.1
  obtain ⟨k, o, h1, h2, h3, hQ⟩ := lw_walk l hflags b xs p e ha hc hk s m args below hf ((Spec.applies_iff_loose hf).mp happ).1 hP trivial
  exact ⟨k, o, h1, h2, h3, hQ⟩
theorem lw_frame {s t : State} {o : Outcome} {args : Array Value} (h : Framed s o t [] 600104 7301314) :
    Framed s o t (fieldLocs frame_1_writes args s ++ arrayLocs frame_1_arrays args s ++ staticLocs frame_1_statics s) 600104 7301314 := h
theorem lw_limb (L : Cond) (hL : ∀ (args : Array Value) (s t : State), L.after args s (.returned (some (.int 1))) t = true) :
    ArmFor flags0 classFile x code maxLocals ret World_1 tables_1 room_1 Calls_1 rest_1 Pre_1
      (fun tb e a s o t => postC L tb e a s o t ∧ Framed s o t (fieldLocs frame_1_writes a s ++ arrayLocs frame_1_arrays a s ++ staticLocs frame_1_statics s) 600104 7301314) := by
  intro l hflags _ _ p e ha hc hk s m args below hf hfit hheap happ hpre
  obtain ⟨k, o, h1, h2, h3, rfl, hF⟩ := lw_comes l hflags p e ha hc hk s m args below hf hfit hheap happ hpre
  exact ⟨k, _, h1, h2, h3, hL args s _, lw_frame hF⟩
theorem i_vc : Claimed_1_1 ∧ Claimed_1_2 := ⟨lw_limb limb_1_1 (fun args s t => by simp [limb_1_1, Cond.after, Cond.holds, Cond.value]), lw_limb limb_1_2 (fun args s t => Cond.after_iff.mpr (by
  first | (rw [show limb_1_2 = Cond.eq .result (.int 1) from rfl, Cond.eq_ints (x := 1) (y := 1) rfl rfl]; simp; done) | (simp [limb_1_2, Cond.value, Term.eval]; done)))⟩
