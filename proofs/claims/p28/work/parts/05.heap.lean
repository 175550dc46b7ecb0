/-! writing one slot -/
theorem asv_i {io : aM} {ty : FieldType} {I : aI} {L : aL} {R : aR} {q k : Nat} (h : (match ty with | .long => false | .object _ => false | .array _ => false | _ => true) = true) : asv io ty I L R q k = .int (I q k) := by
  cases ty <;> first | rfl | cases h
theorem asv_l {io : aM} {ty : FieldType} {I : aI} {L : aL} {R : aR} {q k : Nat} (h : ty = .long) : asv io ty I L R q k = .long (L q k) := by rw [h]; rfl
abbrev aKI (ty : FieldType) : Prop := (match ty with | .long => false | .object _ => false | .array _ => false | _ => true) = true
abbrev aKR (ty : FieldType) : Prop := (match ty with | .object _ => true | .array _ => true | _ => false) = true
theorem asv_r {io : aM} {ty : FieldType} {I : aI} {L : aL} {R : aR} {q k : Nat} (h : aKR ty) : asv io ty I L R q k = arv io (R q k) := by
  cases ty <;> first | rfl | cases h
theorem aHR.puti {E : aE} {io : aM} {S : aS} {I : aI} {L : aL} {R : aR} {H H1 : Heap} {q k : Nat} {x : (FieldType × Nat) ⊕ Nat} {v : Int32} (h : aHR E io S I L R H) (h99 : 3 ≤ q) (hq : S q = some x) (hc : aCell E io (au2 I q k v) L R x q H1) (ho : ∀ a, a ≠ io q → H1[a]? = H[a]?) : aHR E io S (au2 I q k v) L R H1 := by
  obtain ⟨h1, h2, h3, h4, h5⟩ := h
  refine ⟨fun r y hr h2' => ?_, h2, h3, h4, h5⟩
  by_cases e : r = q
  · subst e; cases hq.symm.trans hr; exact hc
  · exact ((h1 r y hr h2').kept (ho _ (fun z => (h2 r q (by rw [hr]; simp) (by rw [hq]; simp) z).elim e (fun w => by omega)))).congr rfl (fun j => (au2_n (fun z => e z.1)).symm) (fun _ => rfl) (fun _ => rfl) (fun _ _ _ => rfl)
theorem aHR.putl {E : aE} {io : aM} {S : aS} {I : aI} {L : aL} {R : aR} {H H1 : Heap} {q k : Nat} {x : (FieldType × Nat) ⊕ Nat} {v : Int64} (h : aHR E io S I L R H) (h99 : 3 ≤ q) (hq : S q = some x) (hc : aCell E io I (au2 L q k v) R x q H1) (ho : ∀ a, a ≠ io q → H1[a]? = H[a]?) : aHR E io S I (au2 L q k v) R H1 := by
  obtain ⟨h1, h2, h3, h4, h5⟩ := h
  refine ⟨fun r y hr h2' => ?_, h2, h3, h4, h5⟩
  by_cases e : r = q
  · subst e; cases hq.symm.trans hr; exact hc
  · exact ((h1 r y hr h2').kept (ho _ (fun z => (h2 r q (by rw [hr]; simp) (by rw [hq]; simp) z).elim e (fun w => by omega)))).congr rfl (fun _ => rfl) (fun j => (au2_n (fun z => e z.1)).symm) (fun _ => rfl) (fun _ _ _ => rfl)
theorem aHR.putr {E : aE} {io : aM} {S : aS} {I : aI} {L : aL} {R : aR} {H H1 : Heap} {q k : Nat} {x : (FieldType × Nat) ⊕ Nat} {v : Option Nat} (h : aHR E io S I L R H) (h99 : 3 ≤ q) (hq : S q = some x) (hc : aCell E io I L (au2 R q k v) x q H1) (ho : ∀ a, a ≠ io q → H1[a]? = H[a]?) (hv : ∀ r, v = some r → S r ≠ none) : aHR E io S I L (au2 R q k v) H1 := by
  obtain ⟨h1, h2, h3, h4, h5⟩ := h
  refine ⟨fun r y hr h2' => ?_, h2, h3, fun a b r hs hr => ?_, h5⟩
  · by_cases e : r = q
    · subst e; cases hq.symm.trans hr; exact hc
    · exact ((h1 r y hr h2').kept (ho _ (fun z => (h2 r q (by rw [hr]; simp) (by rw [hq]; simp) z).elim e (fun w => by omega)))).congr rfl (fun _ => rfl) (fun _ => rfl) (fun j => (au2_n (fun z => e z.1)).symm) (fun _ _ _ => rfl)
  · by_cases e : a = q ∧ b = k
    · obtain ⟨rfl, rfl⟩ := e
      rw [au2_s] at hr
      exact hv r hr
    · rw [au2_n e] at hr
      exact h4 a b r hs hr
/-- own fields, nest mates' fields -/
def aFo (own : String) (idx ci k : Nat) : Prop := ∃ r : vw_C, aCl[ci]? = some r ∧ k < r.2.2 ∧ Cond.fieldLink own idx (r.2.1 k).1 (r.2.1 k).2.1 (r.2.1 k).2.2.1 ∈ aBIG
def aFn (own : String) (idx ci k : Nat) : Prop := ∃ (r : vw_C) (host : String), aCl[ci]? = some r ∧ k < r.2.2 ∧ Cond.fieldLinkNest own idx (r.2.1 k).1 (r.2.1 k).2.1 (r.2.1 k).2.2.1 host ∈ lw_tbl
section AH
variable {p : Program} {l : Launch} {e : Env} {R : Room} {s : State} {m : MethodId} {args : Array Value} {below : List Frame} {meth : Method} {c : Code} {E : aE} {io0 : aM} {S0 : aS} {nL : Nat} {Q : State → Prop}
variable {own : String} {cc : ByteArray} {ret : Option FieldType} {pc nx : Nat} {lv st : List Value} {S : aS} {I : aI} {L : aL} {Rf : aR} {k n : Nat}
theorem aCx.K (hx : aCx p l s m args meth c own cc nL ret E) : va_K E.1 aCl (aTys E) s := hx.2.2.2.2.2.2.1.1
theorem aCx.W (hx : aCx p l s m args meth c own cc nL ret E) {w : Cond} (h : w ∈ aBIG) : w.before args s = true := hx.2.2.2.2.1 w h
theorem aCx.N (hx : aCx p l s m args meth c own cc nL ret E) {w : Cond} (h : w ∈ lw_tbl) (h2 : aNk w = true) : w.before args s = true := (hx.2.2.2.2.2.2.1.2.1 w h h2).use (aNk_ot h2)
theorem aCx.arr (hx : aCx p l s m args meth c own cc nL ret E) {ty : FieldType} (ht : ∃ i : Nat, (aTys E)[i]? = some (E.2.1 ty, ty)) : ArrOfT s (E.2.1 ty) ty ∧ va_RA s (E.2.1 ty) ty := by
  obtain ⟨i, hi⟩ := ht
  exact hx.K.2 i _ hi

theorem g_getfo_i (hx : aCx p l s m args meth c own cc nL ret E) {idx ci j q : Nat} (d : decode cc pc = .ok (.getfield idx, 3)) (hn : pc + 3 = nx) (fa : aFo own idx ci j) (ht : aKI (atyT ci j)) (hq : S q = some (.inr ci)) (h9 : 3 ≤ q) (kk : aG p l e R s m args below meth c E io0 S0 nL Q nx lv (.int (I q j) :: st) S (I) (L) (Rf) k n) : aG p l e R s m args below meth c E io0 S0 nL Q pc lv (.ref q :: st) S (I) (L) (Rf) k n := by
  subst hn
  intro io H locs ls h1 h2 h3 h4 h5 h6
  obtain ⟨r, hc, hk, hw⟩ := fa
  obtain ⟨r', hc', cell, q1, q2, q3, q4⟩ := h1.1 q _ hq h9
  cases hc.symm.trans hc'
  obtain ⟨hS, hfc, kC, hkC, hkind⟩ := hx.K.1 ci _ hc
  obtain ⟨cf, kf, fi, f, hi, hsl⟩ := hS j hk
  refine W.getf hx.1 hx.2.1 hx.2.2.2.1 (hx.W hw) hi (u_facts hfc hkC (u_lays hx.2.2.2.2.1 (abig_u ci r hc) hk) hi).1 q1 (by rw [q3]; exact fun h => by cases h) (v := .int (I q j)) (by rw [hsl, q4 j hk]; exact congrArg some (asv_i ht)) rfl rfl d (kk io H locs ls h1 h2 h3 (h4.tl.i) h5 h6)

theorem g_getfo_l (hx : aCx p l s m args meth c own cc nL ret E) {idx ci j q : Nat} (d : decode cc pc = .ok (.getfield idx, 3)) (hn : pc + 3 = nx) (fa : aFo own idx ci j) (ht : atyT ci j = .long) (hq : S q = some (.inr ci)) (h9 : 3 ≤ q) (kk : aG p l e R s m args below meth c E io0 S0 nL Q nx lv (.long (L q j) :: st) S (I) (L) (Rf) k n) : aG p l e R s m args below meth c E io0 S0 nL Q pc lv (.ref q :: st) S (I) (L) (Rf) k n := by
  subst hn
  intro io H locs ls h1 h2 h3 h4 h5 h6
  obtain ⟨r, hc, hk, hw⟩ := fa
  obtain ⟨r', hc', cell, q1, q2, q3, q4⟩ := h1.1 q _ hq h9
  cases hc.symm.trans hc'
  obtain ⟨hS, hfc, kC, hkC, hkind⟩ := hx.K.1 ci _ hc
  obtain ⟨cf, kf, fi, f, hi, hsl⟩ := hS j hk
  refine W.getf hx.1 hx.2.1 hx.2.2.2.1 (hx.W hw) hi (u_facts hfc hkC (u_lays hx.2.2.2.2.1 (abig_u ci r hc) hk) hi).1 q1 (by rw [q3]; exact fun h => by cases h) (v := .long (L q j)) (by rw [hsl, q4 j hk]; exact congrArg some (asv_l ht)) rfl rfl d (kk io H locs ls h1 h2 h3 (h4.tl.l) h5 h6)

theorem g_getfo_R (hx : aCx p l s m args meth c own cc nL ret E) {idx ci j q : Nat} {r9 : Nat} (d : decode cc pc = .ok (.getfield idx, 3)) (hn : pc + 3 = nx) (fa : aFo own idx ci j) (ht : aKR (atyT ci j)) (hr : Rf q j = some r9) (hq : S q = some (.inr ci)) (h9 : 3 ≤ q) (kk : aG p l e R s m args below meth c E io0 S0 nL Q nx lv (.ref r9 :: st) S (I) (L) (Rf) k n) : aG p l e R s m args below meth c E io0 S0 nL Q pc lv (.ref q :: st) S (I) (L) (Rf) k n := by
  subst hn
  intro io H locs ls h1 h2 h3 h4 h5 h6
  obtain ⟨r, hc, hk, hw⟩ := fa
  obtain ⟨r', hc', cell, q1, q2, q3, q4⟩ := h1.1 q _ hq h9
  cases hc.symm.trans hc'
  obtain ⟨hS, hfc, kC, hkC, hkind⟩ := hx.K.1 ci _ hc
  obtain ⟨cf, kf, fi, f, hi, hsl⟩ := hS j hk
  refine W.getf hx.1 hx.2.1 hx.2.2.2.1 (hx.W hw) hi (u_facts hfc hkC (u_lays hx.2.2.2.2.1 (abig_u ci r hc) hk) hi).1 q1 (by rw [q3]; exact fun h => by cases h) (v := .ref (io r9)) (by rw [hsl, q4 j hk]; exact congrArg some ((asv_r ht).trans (by rw [hr]; rfl))) rfl rfl d (kk io H locs ls h1 h2 h3 (h4.tl.r (h1.2.2.2.1 q j r9 (by rw [hq]; simp) hr)) h5 h6)

theorem g_getfo_N (hx : aCx p l s m args meth c own cc nL ret E) {idx ci j q : Nat} (d : decode cc pc = .ok (.getfield idx, 3)) (hn : pc + 3 = nx) (fa : aFo own idx ci j) (ht : aKR (atyT ci j)) (hr : Rf q j = none) (hq : S q = some (.inr ci)) (h9 : 3 ≤ q) (kk : aG p l e R s m args below meth c E io0 S0 nL Q nx lv (.null :: st) S (I) (L) (Rf) k n) : aG p l e R s m args below meth c E io0 S0 nL Q pc lv (.ref q :: st) S (I) (L) (Rf) k n := by
  subst hn
  intro io H locs ls h1 h2 h3 h4 h5 h6
  obtain ⟨r, hc, hk, hw⟩ := fa
  obtain ⟨r', hc', cell, q1, q2, q3, q4⟩ := h1.1 q _ hq h9
  cases hc.symm.trans hc'
  obtain ⟨hS, hfc, kC, hkC, hkind⟩ := hx.K.1 ci _ hc
  obtain ⟨cf, kf, fi, f, hi, hsl⟩ := hS j hk
  refine W.getf hx.1 hx.2.1 hx.2.2.2.1 (hx.W hw) hi (u_facts hfc hkC (u_lays hx.2.2.2.2.1 (abig_u ci r hc) hk) hi).1 q1 (by rw [q3]; exact fun h => by cases h) (v := .null) (by rw [hsl, q4 j hk]; exact congrArg some ((asv_r ht).trans (by rw [hr]; rfl))) rfl rfl d (kk io H locs ls h1 h2 h3 (h4.tl.n) h5 h6)

theorem g_getfn_i (hx : aCx p l s m args meth c own cc nL ret E) {idx ci j q : Nat} (d : decode cc pc = .ok (.getfield idx, 3)) (hn : pc + 3 = nx) (fa : aFn own idx ci j) (ht : aKI (atyT ci j)) (hq : S q = some (.inr ci)) (h9 : 3 ≤ q) (kk : aG p l e R s m args below meth c E io0 S0 nL Q nx lv (.int (I q j) :: st) S (I) (L) (Rf) k n) : aG p l e R s m args below meth c E io0 S0 nL Q pc lv (.ref q :: st) S (I) (L) (Rf) k n := by
  subst hn
  intro io H locs ls h1 h2 h3 h4 h5 h6
  obtain ⟨r, host, hc, hk, hw⟩ := fa
  obtain ⟨r', hc', cell, q1, q2, q3, q4⟩ := h1.1 q _ hq h9
  cases hc.symm.trans hc'
  obtain ⟨hS, hfc, kC, hkC, hkind⟩ := hx.K.1 ci _ hc
  obtain ⟨cf, kf, fi, f, hi, hsl⟩ := hS j hk
  refine va_Wgetf hx.1 hx.2.1 hx.2.2.2.1 (hx.N hw rfl) hi (u_facts hfc hkC (u_lays hx.2.2.2.2.1 (abig_u ci r hc) hk) hi).1 q1 (by rw [q3]; exact fun h => by cases h) (v := .int (I q j)) (by rw [hsl, q4 j hk]; exact congrArg some (asv_i ht)) rfl rfl d (kk io H locs ls h1 h2 h3 (h4.tl.i) h5 h6)

theorem g_getfn_l (hx : aCx p l s m args meth c own cc nL ret E) {idx ci j q : Nat} (d : decode cc pc = .ok (.getfield idx, 3)) (hn : pc + 3 = nx) (fa : aFn own idx ci j) (ht : atyT ci j = .long) (hq : S q = some (.inr ci)) (h9 : 3 ≤ q) (kk : aG p l e R s m args below meth c E io0 S0 nL Q nx lv (.long (L q j) :: st) S (I) (L) (Rf) k n) : aG p l e R s m args below meth c E io0 S0 nL Q pc lv (.ref q :: st) S (I) (L) (Rf) k n := by
  subst hn
  intro io H locs ls h1 h2 h3 h4 h5 h6
  obtain ⟨r, host, hc, hk, hw⟩ := fa
  obtain ⟨r', hc', cell, q1, q2, q3, q4⟩ := h1.1 q _ hq h9
  cases hc.symm.trans hc'
  obtain ⟨hS, hfc, kC, hkC, hkind⟩ := hx.K.1 ci _ hc
  obtain ⟨cf, kf, fi, f, hi, hsl⟩ := hS j hk
  refine va_Wgetf hx.1 hx.2.1 hx.2.2.2.1 (hx.N hw rfl) hi (u_facts hfc hkC (u_lays hx.2.2.2.2.1 (abig_u ci r hc) hk) hi).1 q1 (by rw [q3]; exact fun h => by cases h) (v := .long (L q j)) (by rw [hsl, q4 j hk]; exact congrArg some (asv_l ht)) rfl rfl d (kk io H locs ls h1 h2 h3 (h4.tl.l) h5 h6)

theorem g_getfn_R (hx : aCx p l s m args meth c own cc nL ret E) {idx ci j q : Nat} {r9 : Nat} (d : decode cc pc = .ok (.getfield idx, 3)) (hn : pc + 3 = nx) (fa : aFn own idx ci j) (ht : aKR (atyT ci j)) (hr : Rf q j = some r9) (hq : S q = some (.inr ci)) (h9 : 3 ≤ q) (kk : aG p l e R s m args below meth c E io0 S0 nL Q nx lv (.ref r9 :: st) S (I) (L) (Rf) k n) : aG p l e R s m args below meth c E io0 S0 nL Q pc lv (.ref q :: st) S (I) (L) (Rf) k n := by
  subst hn
  intro io H locs ls h1 h2 h3 h4 h5 h6
  obtain ⟨r, host, hc, hk, hw⟩ := fa
  obtain ⟨r', hc', cell, q1, q2, q3, q4⟩ := h1.1 q _ hq h9
  cases hc.symm.trans hc'
  obtain ⟨hS, hfc, kC, hkC, hkind⟩ := hx.K.1 ci _ hc
  obtain ⟨cf, kf, fi, f, hi, hsl⟩ := hS j hk
  refine va_Wgetf hx.1 hx.2.1 hx.2.2.2.1 (hx.N hw rfl) hi (u_facts hfc hkC (u_lays hx.2.2.2.2.1 (abig_u ci r hc) hk) hi).1 q1 (by rw [q3]; exact fun h => by cases h) (v := .ref (io r9)) (by rw [hsl, q4 j hk]; exact congrArg some ((asv_r ht).trans (by rw [hr]; rfl))) rfl rfl d (kk io H locs ls h1 h2 h3 (h4.tl.r (h1.2.2.2.1 q j r9 (by rw [hq]; simp) hr)) h5 h6)

theorem g_getfn_N (hx : aCx p l s m args meth c own cc nL ret E) {idx ci j q : Nat} (d : decode cc pc = .ok (.getfield idx, 3)) (hn : pc + 3 = nx) (fa : aFn own idx ci j) (ht : aKR (atyT ci j)) (hr : Rf q j = none) (hq : S q = some (.inr ci)) (h9 : 3 ≤ q) (kk : aG p l e R s m args below meth c E io0 S0 nL Q nx lv (.null :: st) S (I) (L) (Rf) k n) : aG p l e R s m args below meth c E io0 S0 nL Q pc lv (.ref q :: st) S (I) (L) (Rf) k n := by
  subst hn
  intro io H locs ls h1 h2 h3 h4 h5 h6
  obtain ⟨r, host, hc, hk, hw⟩ := fa
  obtain ⟨r', hc', cell, q1, q2, q3, q4⟩ := h1.1 q _ hq h9
  cases hc.symm.trans hc'
  obtain ⟨hS, hfc, kC, hkC, hkind⟩ := hx.K.1 ci _ hc
  obtain ⟨cf, kf, fi, f, hi, hsl⟩ := hS j hk
  refine va_Wgetf hx.1 hx.2.1 hx.2.2.2.1 (hx.N hw rfl) hi (u_facts hfc hkC (u_lays hx.2.2.2.2.1 (abig_u ci r hc) hk) hi).1 q1 (by rw [q3]; exact fun h => by cases h) (v := .null) (by rw [hsl, q4 j hk]; exact congrArg some ((asv_r ht).trans (by rw [hr]; rfl))) rfl rfl d (kk io H locs ls h1 h2 h3 (h4.tl.n) h5 h6)

theorem g_putfo_i (hx : aCx p l s m args meth c own cc nL ret E) {idx ci j q : Nat} {v : Int32} (d : decode cc pc = .ok (.putfield idx, 3)) (hn : pc + 3 = nx) (fa : aFo own idx ci j) (ht : aKI (atyT ci j)) (hnr : narrow (atyT ci j) (.int v) = .int v) (hft : fits (atyT ci j) (.int v) = true) (hfin : ∀ r : vw_C, aCl[ci]? = some r → (r.2.1 j).2.2.2 = false) (hq : S q = some (.inr ci)) (h99 : 3 ≤ q) (kk : aG p l e R s m args below meth c E io0 S0 nL Q nx lv (st) S (au2 I q j v) (L) (Rf) k n) : aG p l e R s m args below meth c E io0 S0 nL Q pc lv (.int v :: .ref q :: st) S (I) (L) (Rf) k n := by
  subst hn
  have h9 : 3 ≤ q := h99
  intro io H locs ls h1 h2 h3 h4 h5 h6
  obtain ⟨r, hc, hk, hw⟩ := fa
  have hts := hx.2.2.2.2.1
  have hin := abig_u ci r hc
  have hap := va_apart (own := own) hts hin (atyT ci) (acl_ty ci r hc) (acl_nm ci r hc) hx.K hc
  obtain ⟨r', hc', cell, q1, q2, q3, q4⟩ := h1.1 q _ hq h9
  cases hc.symm.trans hc'
  obtain ⟨hS, hfc, kC, hkC, hkind⟩ := hx.K.1 ci _ hc
  obtain ⟨cf, kf, fi, f, hi, hsl⟩ := hS j hk
  have hlay := hts _ (hin _ (u_in_lay hk))
  unfold u_lay at hlay
  rw [if_neg (by rw [hfin r hc]; decide)] at hlay
  have hst := (u_facts hfc hkC (u_lays hts hin hk) hi).1
  have h7 := u_store hfc hkC hkind hlay hi (acl_ty ci r hc j hk) (v := .int v) hnr hft
  refine W.putK hx.1 hx.2.1 (f := f) ⟨hx.2.2.2.1, hx.W hw, ⟨_, _, _, hi⟩, hst⟩ (by rw [q2]; exact h7) q1 q3 (by rw [hsl]; exact k2_hasslot (q4 j hk)) rfl rfl d fun H' e1 e2 e3 => ?_
  rw [hsl] at e1 ⊢
  refine kk io H' _ ls (h1.puti h99 hq ⟨r, hc, t_OB.to (V := updV (fun k => asv io (atyT ci k) I L Rf q k) j (.int v)) ⟨_, e1, q2, q3, t_set q4 hap hk _⟩ (fun b _ => ?_)⟩ e3) h2 h3 h4.tl.tl (h5.put e2 e3 (h1.2.2.1 q (by rw [hq]; simp) h99)) h6
  by_cases e : b = j
  · subst e; exact (if_pos rfl).trans ((asv_i ht).trans (congrArg Value.int (au2_s _ _ _ _))).symm
  · exact (if_neg e).trans (asv_congr (au2_n (fun z => e z.2)) rfl rfl (fun _ _ => rfl)).symm

theorem g_putfo_l (hx : aCx p l s m args meth c own cc nL ret E) {idx ci j q : Nat} {v : Int64} (d : decode cc pc = .ok (.putfield idx, 3)) (hn : pc + 3 = nx) (fa : aFo own idx ci j) (ht : atyT ci j = .long) (hfin : ∀ r : vw_C, aCl[ci]? = some r → (r.2.1 j).2.2.2 = false) (hq : S q = some (.inr ci)) (h99 : 3 ≤ q) (kk : aG p l e R s m args below meth c E io0 S0 nL Q nx lv (st) S (I) (au2 L q j v) (Rf) k n) : aG p l e R s m args below meth c E io0 S0 nL Q pc lv (.long v :: .ref q :: st) S (I) (L) (Rf) k n := by
  subst hn
  have h9 : 3 ≤ q := h99
  intro io H locs ls h1 h2 h3 h4 h5 h6
  obtain ⟨r, hc, hk, hw⟩ := fa
  have hts := hx.2.2.2.2.1
  have hin := abig_u ci r hc
  have hap := va_apart (own := own) hts hin (atyT ci) (acl_ty ci r hc) (acl_nm ci r hc) hx.K hc
  obtain ⟨r', hc', cell, q1, q2, q3, q4⟩ := h1.1 q _ hq h9
  cases hc.symm.trans hc'
  obtain ⟨hS, hfc, kC, hkC, hkind⟩ := hx.K.1 ci _ hc
  obtain ⟨cf, kf, fi, f, hi, hsl⟩ := hS j hk
  have hlay := hts _ (hin _ (u_in_lay hk))
  unfold u_lay at hlay
  rw [if_neg (by rw [hfin r hc]; decide)] at hlay
  have hst := (u_facts hfc hkC (u_lays hts hin hk) hi).1
  have h7 := u_store hfc hkC hkind hlay hi (acl_ty ci r hc j hk) (v := .long v) (by rw [ht]; rfl) (by rw [ht]; rfl)
  refine W.putK hx.1 hx.2.1 (f := f) ⟨hx.2.2.2.1, hx.W hw, ⟨_, _, _, hi⟩, hst⟩ (by rw [q2]; exact h7) q1 q3 (by rw [hsl]; exact k2_hasslot (q4 j hk)) rfl rfl d fun H' e1 e2 e3 => ?_
  rw [hsl] at e1 ⊢
  refine kk io H' _ ls (h1.putl h99 hq ⟨r, hc, t_OB.to (V := updV (fun k => asv io (atyT ci k) I L Rf q k) j (.long v)) ⟨_, e1, q2, q3, t_set q4 hap hk _⟩ (fun b _ => ?_)⟩ e3) h2 h3 h4.tl.tl (h5.put e2 e3 (h1.2.2.1 q (by rw [hq]; simp) h99)) h6
  by_cases e : b = j
  · subst e; exact (if_pos rfl).trans ((asv_l ht).trans (congrArg Value.long (au2_s _ _ _ _))).symm
  · exact (if_neg e).trans (asv_congr rfl (au2_n (fun z => e z.2)) rfl (fun _ _ => rfl)).symm

theorem g_putfo_r (hx : aCx p l s m args meth c own cc nL ret E) {idx ci j q : Nat} {v : Nat} (d : decode cc pc = .ok (.putfield idx, 3)) (hn : pc + 3 = nx) (fa : aFo own idx ci j) (ht : aKR (atyT ci j)) (hfin : ∀ r : vw_C, aCl[ci]? = some r → (r.2.1 j).2.2.2 = false) (hq : S q = some (.inr ci)) (h99 : 3 ≤ q) (kk : aG p l e R s m args below meth c E io0 S0 nL Q nx lv (st) S (I) (L) (au2 Rf q j (some v)) k n) : aG p l e R s m args below meth c E io0 S0 nL Q pc lv (.ref v :: .ref q :: st) S (I) (L) (Rf) k n := by
  subst hn
  have h9 : 3 ≤ q := h99
  intro io H locs ls h1 h2 h3 h4 h5 h6
  obtain ⟨r, hc, hk, hw⟩ := fa
  have hts := hx.2.2.2.2.1
  have hin := abig_u ci r hc
  have hap := va_apart (own := own) hts hin (atyT ci) (acl_ty ci r hc) (acl_nm ci r hc) hx.K hc
  obtain ⟨r', hc', cell, q1, q2, q3, q4⟩ := h1.1 q _ hq h9
  cases hc.symm.trans hc'
  obtain ⟨hS, hfc, kC, hkC, hkind⟩ := hx.K.1 ci _ hc
  obtain ⟨cf, kf, fi, f, hi, hsl⟩ := hS j hk
  have hlay := hts _ (hin _ (u_in_lay hk))
  unfold u_lay at hlay
  rw [if_neg (by rw [hfin r hc]; decide)] at hlay
  have hst := (u_facts hfc hkC (u_lays hts hin hk) hi).1
  have h7 := u_store hfc hkC hkind hlay hi (acl_ty ci r hc j hk) (v := .ref (io v)) (by revert ht; cases atyT ci j <;> intro ht <;> first | rfl | cases ht) (by revert ht; cases atyT ci j <;> intro ht <;> first | rfl | cases ht)
  refine W.putK hx.1 hx.2.1 (f := f) ⟨hx.2.2.2.1, hx.W hw, ⟨_, _, _, hi⟩, hst⟩ (by rw [q2]; exact h7) q1 q3 (by rw [hsl]; exact k2_hasslot (q4 j hk)) rfl rfl d fun H' e1 e2 e3 => ?_
  rw [hsl] at e1 ⊢
  refine kk io H' _ ls (h1.putr h99 hq ⟨r, hc, t_OB.to (V := updV (fun k => asv io (atyT ci k) I L Rf q k) j (.ref (io v))) ⟨_, e1, q2, q3, t_set q4 hap hk _⟩ (fun b _ => ?_)⟩ e3 (fun r e => by cases e; exact h4.hd)) h2 h3 h4.tl.tl (h5.put e2 e3 (h1.2.2.1 q (by rw [hq]; simp) h99)) h6
  by_cases e : b = j
  · subst e; exact (if_pos rfl).trans ((asv_r ht).trans (by rw [au2_s]; rfl)).symm
  · exact (if_neg e).trans (asv_congr rfl rfl (au2_n (fun z => e z.2)) (fun _ _ => rfl)).symm

theorem g_putfo_N (hx : aCx p l s m args meth c own cc nL ret E) {idx ci j q : Nat} (d : decode cc pc = .ok (.putfield idx, 3)) (hn : pc + 3 = nx) (fa : aFo own idx ci j) (ht : aKR (atyT ci j)) (hfin : ∀ r : vw_C, aCl[ci]? = some r → (r.2.1 j).2.2.2 = false) (hq : S q = some (.inr ci)) (h99 : 3 ≤ q) (kk : aG p l e R s m args below meth c E io0 S0 nL Q nx lv (st) S (I) (L) (au2 Rf q j none) k n) : aG p l e R s m args below meth c E io0 S0 nL Q pc lv (.null :: .ref q :: st) S (I) (L) (Rf) k n := by
  subst hn
  have h9 : 3 ≤ q := h99
  intro io H locs ls h1 h2 h3 h4 h5 h6
  obtain ⟨r, hc, hk, hw⟩ := fa
  have hts := hx.2.2.2.2.1
  have hin := abig_u ci r hc
  have hap := va_apart (own := own) hts hin (atyT ci) (acl_ty ci r hc) (acl_nm ci r hc) hx.K hc
  obtain ⟨r', hc', cell, q1, q2, q3, q4⟩ := h1.1 q _ hq h9
  cases hc.symm.trans hc'
  obtain ⟨hS, hfc, kC, hkC, hkind⟩ := hx.K.1 ci _ hc
  obtain ⟨cf, kf, fi, f, hi, hsl⟩ := hS j hk
  have hlay := hts _ (hin _ (u_in_lay hk))
  unfold u_lay at hlay
  rw [if_neg (by rw [hfin r hc]; decide)] at hlay
  have hst := (u_facts hfc hkC (u_lays hts hin hk) hi).1
  have h7 := u_store hfc hkC hkind hlay hi (acl_ty ci r hc j hk) (v := .null) (by revert ht; cases atyT ci j <;> intro ht <;> first | rfl | cases ht) (by revert ht; cases atyT ci j <;> intro ht <;> first | rfl | cases ht)
  refine W.putK hx.1 hx.2.1 (f := f) ⟨hx.2.2.2.1, hx.W hw, ⟨_, _, _, hi⟩, hst⟩ (by rw [q2]; exact h7) q1 q3 (by rw [hsl]; exact k2_hasslot (q4 j hk)) rfl rfl d fun H' e1 e2 e3 => ?_
  rw [hsl] at e1 ⊢
  refine kk io H' _ ls (h1.putr h99 hq ⟨r, hc, t_OB.to (V := updV (fun k => asv io (atyT ci k) I L Rf q k) j (.null)) ⟨_, e1, q2, q3, t_set q4 hap hk _⟩ (fun b _ => ?_)⟩ e3 (fun r e => by cases e)) h2 h3 h4.tl.tl (h5.put e2 e3 (h1.2.2.1 q (by rw [hq]; simp) h99)) h6
  by_cases e : b = j
  · subst e; exact (if_pos rfl).trans ((asv_r ht).trans (by rw [au2_s]; rfl)).symm
  · exact (if_neg e).trans (asv_congr rfl rfl (au2_n (fun z => e z.2)) (fun _ _ => rfl)).symm

theorem g_putfn_i (hx : aCx p l s m args meth c own cc nL ret E) {idx ci j q : Nat} {v : Int32} (d : decode cc pc = .ok (.putfield idx, 3)) (hn : pc + 3 = nx) (fa : aFn own idx ci j) (ht : aKI (atyT ci j)) (hnr : narrow (atyT ci j) (.int v) = .int v) (hft : fits (atyT ci j) (.int v) = true) (hfin : ∀ r : vw_C, aCl[ci]? = some r → (r.2.1 j).2.2.2 = false) (hq : S q = some (.inr ci)) (h99 : 3 ≤ q) (kk : aG p l e R s m args below meth c E io0 S0 nL Q nx lv (st) S (au2 I q j v) (L) (Rf) k n) : aG p l e R s m args below meth c E io0 S0 nL Q pc lv (.int v :: .ref q :: st) S (I) (L) (Rf) k n := by
  subst hn
  have h9 : 3 ≤ q := h99
  intro io H locs ls h1 h2 h3 h4 h5 h6
  obtain ⟨r, host, hc, hk, hw⟩ := fa
  have hts := hx.2.2.2.2.1
  have hin := abig_u ci r hc
  have hap := va_apart (own := own) hts hin (atyT ci) (acl_ty ci r hc) (acl_nm ci r hc) hx.K hc
  obtain ⟨r', hc', cell, q1, q2, q3, q4⟩ := h1.1 q _ hq h9
  cases hc.symm.trans hc'
  obtain ⟨hS, hfc, kC, hkC, hkind⟩ := hx.K.1 ci _ hc
  obtain ⟨cf, kf, fi, f, hi, hsl⟩ := hS j hk
  have hlay := hts _ (hin _ (u_in_lay hk))
  unfold u_lay at hlay
  rw [if_neg (by rw [hfin r hc]; decide)] at hlay
  have hst := (u_facts hfc hkC (u_lays hts hin hk) hi).1
  have h7 := u_store hfc hkC hkind hlay hi (acl_ty ci r hc j hk) (v := .int v) hnr hft
  refine va_WputK hx.1 hx.2.1 (f := f) hx.2.2.2.1 (hx.N hw rfl) hi hst (by rw [q2]; exact h7) q1 q3 (by rw [hsl]; exact k2_hasslot (q4 j hk)) rfl rfl d fun H' e1 e2 e3 => ?_
  rw [hsl] at e1 ⊢
  refine kk io H' _ ls (h1.puti h99 hq ⟨r, hc, t_OB.to (V := updV (fun k => asv io (atyT ci k) I L Rf q k) j (.int v)) ⟨_, e1, q2, q3, t_set q4 hap hk _⟩ (fun b _ => ?_)⟩ e3) h2 h3 h4.tl.tl (h5.put e2 e3 (h1.2.2.1 q (by rw [hq]; simp) h99)) h6
  by_cases e : b = j
  · subst e; exact (if_pos rfl).trans ((asv_i ht).trans (congrArg Value.int (au2_s _ _ _ _))).symm
  · exact (if_neg e).trans (asv_congr (au2_n (fun z => e z.2)) rfl rfl (fun _ _ => rfl)).symm

theorem g_putfn_l (hx : aCx p l s m args meth c own cc nL ret E) {idx ci j q : Nat} {v : Int64} (d : decode cc pc = .ok (.putfield idx, 3)) (hn : pc + 3 = nx) (fa : aFn own idx ci j) (ht : atyT ci j = .long) (hfin : ∀ r : vw_C, aCl[ci]? = some r → (r.2.1 j).2.2.2 = false) (hq : S q = some (.inr ci)) (h99 : 3 ≤ q) (kk : aG p l e R s m args below meth c E io0 S0 nL Q nx lv (st) S (I) (au2 L q j v) (Rf) k n) : aG p l e R s m args below meth c E io0 S0 nL Q pc lv (.long v :: .ref q :: st) S (I) (L) (Rf) k n := by
  subst hn
  have h9 : 3 ≤ q := h99
  intro io H locs ls h1 h2 h3 h4 h5 h6
  obtain ⟨r, host, hc, hk, hw⟩ := fa
  have hts := hx.2.2.2.2.1
  have hin := abig_u ci r hc
  have hap := va_apart (own := own) hts hin (atyT ci) (acl_ty ci r hc) (acl_nm ci r hc) hx.K hc
  obtain ⟨r', hc', cell, q1, q2, q3, q4⟩ := h1.1 q _ hq h9
  cases hc.symm.trans hc'
  obtain ⟨hS, hfc, kC, hkC, hkind⟩ := hx.K.1 ci _ hc
  obtain ⟨cf, kf, fi, f, hi, hsl⟩ := hS j hk
  have hlay := hts _ (hin _ (u_in_lay hk))
  unfold u_lay at hlay
  rw [if_neg (by rw [hfin r hc]; decide)] at hlay
  have hst := (u_facts hfc hkC (u_lays hts hin hk) hi).1
  have h7 := u_store hfc hkC hkind hlay hi (acl_ty ci r hc j hk) (v := .long v) (by rw [ht]; rfl) (by rw [ht]; rfl)
  refine va_WputK hx.1 hx.2.1 (f := f) hx.2.2.2.1 (hx.N hw rfl) hi hst (by rw [q2]; exact h7) q1 q3 (by rw [hsl]; exact k2_hasslot (q4 j hk)) rfl rfl d fun H' e1 e2 e3 => ?_
  rw [hsl] at e1 ⊢
  refine kk io H' _ ls (h1.putl h99 hq ⟨r, hc, t_OB.to (V := updV (fun k => asv io (atyT ci k) I L Rf q k) j (.long v)) ⟨_, e1, q2, q3, t_set q4 hap hk _⟩ (fun b _ => ?_)⟩ e3) h2 h3 h4.tl.tl (h5.put e2 e3 (h1.2.2.1 q (by rw [hq]; simp) h99)) h6
  by_cases e : b = j
  · subst e; exact (if_pos rfl).trans ((asv_l ht).trans (congrArg Value.long (au2_s _ _ _ _))).symm
  · exact (if_neg e).trans (asv_congr rfl (au2_n (fun z => e z.2)) rfl (fun _ _ => rfl)).symm

theorem g_putfn_r (hx : aCx p l s m args meth c own cc nL ret E) {idx ci j q : Nat} {v : Nat} (d : decode cc pc = .ok (.putfield idx, 3)) (hn : pc + 3 = nx) (fa : aFn own idx ci j) (ht : aKR (atyT ci j)) (hfin : ∀ r : vw_C, aCl[ci]? = some r → (r.2.1 j).2.2.2 = false) (hq : S q = some (.inr ci)) (h99 : 3 ≤ q) (kk : aG p l e R s m args below meth c E io0 S0 nL Q nx lv (st) S (I) (L) (au2 Rf q j (some v)) k n) : aG p l e R s m args below meth c E io0 S0 nL Q pc lv (.ref v :: .ref q :: st) S (I) (L) (Rf) k n := by
  subst hn
  have h9 : 3 ≤ q := h99
  intro io H locs ls h1 h2 h3 h4 h5 h6
  obtain ⟨r, host, hc, hk, hw⟩ := fa
  have hts := hx.2.2.2.2.1
  have hin := abig_u ci r hc
  have hap := va_apart (own := own) hts hin (atyT ci) (acl_ty ci r hc) (acl_nm ci r hc) hx.K hc
  obtain ⟨r', hc', cell, q1, q2, q3, q4⟩ := h1.1 q _ hq h9
  cases hc.symm.trans hc'
  obtain ⟨hS, hfc, kC, hkC, hkind⟩ := hx.K.1 ci _ hc
  obtain ⟨cf, kf, fi, f, hi, hsl⟩ := hS j hk
  have hlay := hts _ (hin _ (u_in_lay hk))
  unfold u_lay at hlay
  rw [if_neg (by rw [hfin r hc]; decide)] at hlay
  have hst := (u_facts hfc hkC (u_lays hts hin hk) hi).1
  have h7 := u_store hfc hkC hkind hlay hi (acl_ty ci r hc j hk) (v := .ref (io v)) (by revert ht; cases atyT ci j <;> intro ht <;> first | rfl | cases ht) (by revert ht; cases atyT ci j <;> intro ht <;> first | rfl | cases ht)
  refine va_WputK hx.1 hx.2.1 (f := f) hx.2.2.2.1 (hx.N hw rfl) hi hst (by rw [q2]; exact h7) q1 q3 (by rw [hsl]; exact k2_hasslot (q4 j hk)) rfl rfl d fun H' e1 e2 e3 => ?_
  rw [hsl] at e1 ⊢
  refine kk io H' _ ls (h1.putr h99 hq ⟨r, hc, t_OB.to (V := updV (fun k => asv io (atyT ci k) I L Rf q k) j (.ref (io v))) ⟨_, e1, q2, q3, t_set q4 hap hk _⟩ (fun b _ => ?_)⟩ e3 (fun r e => by cases e; exact h4.hd)) h2 h3 h4.tl.tl (h5.put e2 e3 (h1.2.2.1 q (by rw [hq]; simp) h99)) h6
  by_cases e : b = j
  · subst e; exact (if_pos rfl).trans ((asv_r ht).trans (by rw [au2_s]; rfl)).symm
  · exact (if_neg e).trans (asv_congr rfl rfl (au2_n (fun z => e z.2)) (fun _ _ => rfl)).symm

theorem g_putfn_N (hx : aCx p l s m args meth c own cc nL ret E) {idx ci j q : Nat} (d : decode cc pc = .ok (.putfield idx, 3)) (hn : pc + 3 = nx) (fa : aFn own idx ci j) (ht : aKR (atyT ci j)) (hfin : ∀ r : vw_C, aCl[ci]? = some r → (r.2.1 j).2.2.2 = false) (hq : S q = some (.inr ci)) (h99 : 3 ≤ q) (kk : aG p l e R s m args below meth c E io0 S0 nL Q nx lv (st) S (I) (L) (au2 Rf q j none) k n) : aG p l e R s m args below meth c E io0 S0 nL Q pc lv (.null :: .ref q :: st) S (I) (L) (Rf) k n := by
  subst hn
  have h9 : 3 ≤ q := h99
  intro io H locs ls h1 h2 h3 h4 h5 h6
  obtain ⟨r, host, hc, hk, hw⟩ := fa
  have hts := hx.2.2.2.2.1
  have hin := abig_u ci r hc
  have hap := va_apart (own := own) hts hin (atyT ci) (acl_ty ci r hc) (acl_nm ci r hc) hx.K hc
  obtain ⟨r', hc', cell, q1, q2, q3, q4⟩ := h1.1 q _ hq h9
  cases hc.symm.trans hc'
  obtain ⟨hS, hfc, kC, hkC, hkind⟩ := hx.K.1 ci _ hc
  obtain ⟨cf, kf, fi, f, hi, hsl⟩ := hS j hk
  have hlay := hts _ (hin _ (u_in_lay hk))
  unfold u_lay at hlay
  rw [if_neg (by rw [hfin r hc]; decide)] at hlay
  have hst := (u_facts hfc hkC (u_lays hts hin hk) hi).1
  have h7 := u_store hfc hkC hkind hlay hi (acl_ty ci r hc j hk) (v := .null) (by revert ht; cases atyT ci j <;> intro ht <;> first | rfl | cases ht) (by revert ht; cases atyT ci j <;> intro ht <;> first | rfl | cases ht)
  refine va_WputK hx.1 hx.2.1 (f := f) hx.2.2.2.1 (hx.N hw rfl) hi hst (by rw [q2]; exact h7) q1 q3 (by rw [hsl]; exact k2_hasslot (q4 j hk)) rfl rfl d fun H' e1 e2 e3 => ?_
  rw [hsl] at e1 ⊢
  refine kk io H' _ ls (h1.putr h99 hq ⟨r, hc, t_OB.to (V := updV (fun k => asv io (atyT ci k) I L Rf q k) j (.null)) ⟨_, e1, q2, q3, t_set q4 hap hk _⟩ (fun b _ => ?_)⟩ e3 (fun r e => by cases e)) h2 h3 h4.tl.tl (h5.put e2 e3 (h1.2.2.1 q (by rw [hq]; simp) h99)) h6
  by_cases e : b = j
  · subst e; exact (if_pos rfl).trans ((asv_r ht).trans (by rw [au2_s]; rfl)).symm
  · exact (if_neg e).trans (asv_congr rfl rfl (au2_n (fun z => e z.2)) (fun _ _ => rfl)).symm

theorem g_putff_i (hx : aCx p l s m args meth c own cc nL ret E) {idx ci j q : Nat} {v : Int32} (d : decode cc pc = .ok (.putfield idx, 3)) (hn : pc + 3 = nx) (fa : aFo own idx ci j) (ht : aKI (atyT ci j)) (hnr : narrow (atyT ci j) (.int v) = .int v) (hft : fits (atyT ci j) (.int v) = true) (hfin : ∀ r : vw_C, aCl[ci]? = some r → (r.2.1 j).2.2.2 = true ∧ (r.2.1 j).1 = own) (hini : meth.name = "<init>") (hq : S q = some (.inr ci)) (h99 : 3 ≤ q) (kk : aG p l e R s m args below meth c E io0 S0 nL Q nx lv (st) S (au2 I q j v) (L) (Rf) k n) : aG p l e R s m args below meth c E io0 S0 nL Q pc lv (.int v :: .ref q :: st) S (I) (L) (Rf) k n := by
  subst hn
  have h9 : 3 ≤ q := h99
  intro io H locs ls h1 h2 h3 h4 h5 h6
  obtain ⟨r, hc, hk, hw⟩ := fa
  have hts := hx.2.2.2.2.1
  have hin := abig_u ci r hc
  have hap := va_apart (own := own) hts hin (atyT ci) (acl_ty ci r hc) (acl_nm ci r hc) hx.K hc
  obtain ⟨r', hc', cell, q1, q2, q3, q4⟩ := h1.1 q _ hq h9
  cases hc.symm.trans hc'
  obtain ⟨hS, hfc, kC, hkC, hkind⟩ := hx.K.1 ci _ hc
  obtain ⟨cf, kf, fi, f, hi, hsl⟩ := hS j hk
  have hlay := hts _ (hin _ (u_in_lay hk))
  unfold u_lay at hlay
  rw [if_pos (hfin r hc).1] at hlay
  have hst := (u_facts hfc hkC (u_lays hts hin hk) hi).1
  have hcf : m.cls = cf := by
    obtain ⟨_, _, c', _, _, _, -, -, hf', -, -, -, hown2, -⟩ := Cond.laysFinal_spec hlay
    have e1 : c' = cf := by have := hi.symm.trans hf'; simp at this; exact this.1.symm
    rw [(hfin r hc).2] at hown2
    rw [← e1]; exact Option.some.inj (hx.2.2.2.1.symm.trans hown2)
  have h7 := u_fits hfc hkC hkind (Or.inr hlay) hi (acl_ty ci r hc j hk) (v := .int v) hnr hft
  refine W.putFinK hx.1 hx.2.1 hx.2.2.2.1 (hx.W hw) hi hst hcf hini (by rw [q2]; exact h7) q1 q3 (by rw [hsl]; exact k2_hasslot (q4 j hk)) rfl rfl d fun H' e1 e2 e3 => ?_
  rw [hsl] at e1 ⊢
  refine kk io H' _ ls (h1.puti h99 hq ⟨r, hc, t_OB.to (V := updV (fun k => asv io (atyT ci k) I L Rf q k) j (.int v)) ⟨_, e1, q2, q3, t_set q4 hap hk _⟩ (fun b _ => ?_)⟩ e3) h2 h3 h4.tl.tl (h5.put e2 e3 (h1.2.2.1 q (by rw [hq]; simp) h99)) h6
  by_cases e : b = j
  · subst e; exact (if_pos rfl).trans ((asv_i ht).trans (congrArg Value.int (au2_s _ _ _ _))).symm
  · exact (if_neg e).trans (asv_congr (au2_n (fun z => e z.2)) rfl rfl (fun _ _ => rfl)).symm

theorem g_putff_l (hx : aCx p l s m args meth c own cc nL ret E) {idx ci j q : Nat} {v : Int64} (d : decode cc pc = .ok (.putfield idx, 3)) (hn : pc + 3 = nx) (fa : aFo own idx ci j) (ht : atyT ci j = .long) (hfin : ∀ r : vw_C, aCl[ci]? = some r → (r.2.1 j).2.2.2 = true ∧ (r.2.1 j).1 = own) (hini : meth.name = "<init>") (hq : S q = some (.inr ci)) (h99 : 3 ≤ q) (kk : aG p l e R s m args below meth c E io0 S0 nL Q nx lv (st) S (I) (au2 L q j v) (Rf) k n) : aG p l e R s m args below meth c E io0 S0 nL Q pc lv (.long v :: .ref q :: st) S (I) (L) (Rf) k n := by
  subst hn
  have h9 : 3 ≤ q := h99
  intro io H locs ls h1 h2 h3 h4 h5 h6
  obtain ⟨r, hc, hk, hw⟩ := fa
  have hts := hx.2.2.2.2.1
  have hin := abig_u ci r hc
  have hap := va_apart (own := own) hts hin (atyT ci) (acl_ty ci r hc) (acl_nm ci r hc) hx.K hc
  obtain ⟨r', hc', cell, q1, q2, q3, q4⟩ := h1.1 q _ hq h9
  cases hc.symm.trans hc'
  obtain ⟨hS, hfc, kC, hkC, hkind⟩ := hx.K.1 ci _ hc
  obtain ⟨cf, kf, fi, f, hi, hsl⟩ := hS j hk
  have hlay := hts _ (hin _ (u_in_lay hk))
  unfold u_lay at hlay
  rw [if_pos (hfin r hc).1] at hlay
  have hst := (u_facts hfc hkC (u_lays hts hin hk) hi).1
  have hcf : m.cls = cf := by
    obtain ⟨_, _, c', _, _, _, -, -, hf', -, -, -, hown2, -⟩ := Cond.laysFinal_spec hlay
    have e1 : c' = cf := by have := hi.symm.trans hf'; simp at this; exact this.1.symm
    rw [(hfin r hc).2] at hown2
    rw [← e1]; exact Option.some.inj (hx.2.2.2.1.symm.trans hown2)
  have h7 := u_fits hfc hkC hkind (Or.inr hlay) hi (acl_ty ci r hc j hk) (v := .long v) (by rw [ht]; rfl) (by rw [ht]; rfl)
  refine W.putFinK hx.1 hx.2.1 hx.2.2.2.1 (hx.W hw) hi hst hcf hini (by rw [q2]; exact h7) q1 q3 (by rw [hsl]; exact k2_hasslot (q4 j hk)) rfl rfl d fun H' e1 e2 e3 => ?_
  rw [hsl] at e1 ⊢
  refine kk io H' _ ls (h1.putl h99 hq ⟨r, hc, t_OB.to (V := updV (fun k => asv io (atyT ci k) I L Rf q k) j (.long v)) ⟨_, e1, q2, q3, t_set q4 hap hk _⟩ (fun b _ => ?_)⟩ e3) h2 h3 h4.tl.tl (h5.put e2 e3 (h1.2.2.1 q (by rw [hq]; simp) h99)) h6
  by_cases e : b = j
  · subst e; exact (if_pos rfl).trans ((asv_l ht).trans (congrArg Value.long (au2_s _ _ _ _))).symm
  · exact (if_neg e).trans (asv_congr rfl (au2_n (fun z => e z.2)) rfl (fun _ _ => rfl)).symm

theorem g_putff_r (hx : aCx p l s m args meth c own cc nL ret E) {idx ci j q : Nat} {v : Nat} (d : decode cc pc = .ok (.putfield idx, 3)) (hn : pc + 3 = nx) (fa : aFo own idx ci j) (ht : aKR (atyT ci j)) (hfin : ∀ r : vw_C, aCl[ci]? = some r → (r.2.1 j).2.2.2 = true ∧ (r.2.1 j).1 = own) (hini : meth.name = "<init>") (hq : S q = some (.inr ci)) (h99 : 3 ≤ q) (kk : aG p l e R s m args below meth c E io0 S0 nL Q nx lv (st) S (I) (L) (au2 Rf q j (some v)) k n) : aG p l e R s m args below meth c E io0 S0 nL Q pc lv (.ref v :: .ref q :: st) S (I) (L) (Rf) k n := by
  subst hn
  have h9 : 3 ≤ q := h99
  intro io H locs ls h1 h2 h3 h4 h5 h6
  obtain ⟨r, hc, hk, hw⟩ := fa
  have hts := hx.2.2.2.2.1
  have hin := abig_u ci r hc
  have hap := va_apart (own := own) hts hin (atyT ci) (acl_ty ci r hc) (acl_nm ci r hc) hx.K hc
  obtain ⟨r', hc', cell, q1, q2, q3, q4⟩ := h1.1 q _ hq h9
  cases hc.symm.trans hc'
  obtain ⟨hS, hfc, kC, hkC, hkind⟩ := hx.K.1 ci _ hc
  obtain ⟨cf, kf, fi, f, hi, hsl⟩ := hS j hk
  have hlay := hts _ (hin _ (u_in_lay hk))
  unfold u_lay at hlay
  rw [if_pos (hfin r hc).1] at hlay
  have hst := (u_facts hfc hkC (u_lays hts hin hk) hi).1
  have hcf : m.cls = cf := by
    obtain ⟨_, _, c', _, _, _, -, -, hf', -, -, -, hown2, -⟩ := Cond.laysFinal_spec hlay
    have e1 : c' = cf := by have := hi.symm.trans hf'; simp at this; exact this.1.symm
    rw [(hfin r hc).2] at hown2
    rw [← e1]; exact Option.some.inj (hx.2.2.2.1.symm.trans hown2)
  have h7 := u_fits hfc hkC hkind (Or.inr hlay) hi (acl_ty ci r hc j hk) (v := .ref (io v)) (by revert ht; cases atyT ci j <;> intro ht <;> first | rfl | cases ht) (by revert ht; cases atyT ci j <;> intro ht <;> first | rfl | cases ht)
  refine W.putFinK hx.1 hx.2.1 hx.2.2.2.1 (hx.W hw) hi hst hcf hini (by rw [q2]; exact h7) q1 q3 (by rw [hsl]; exact k2_hasslot (q4 j hk)) rfl rfl d fun H' e1 e2 e3 => ?_
  rw [hsl] at e1 ⊢
  refine kk io H' _ ls (h1.putr h99 hq ⟨r, hc, t_OB.to (V := updV (fun k => asv io (atyT ci k) I L Rf q k) j (.ref (io v))) ⟨_, e1, q2, q3, t_set q4 hap hk _⟩ (fun b _ => ?_)⟩ e3 (fun r e => by cases e; exact h4.hd)) h2 h3 h4.tl.tl (h5.put e2 e3 (h1.2.2.1 q (by rw [hq]; simp) h99)) h6
  by_cases e : b = j
  · subst e; exact (if_pos rfl).trans ((asv_r ht).trans (by rw [au2_s]; rfl)).symm
  · exact (if_neg e).trans (asv_congr rfl rfl (au2_n (fun z => e z.2)) (fun _ _ => rfl)).symm

theorem g_putff_N (hx : aCx p l s m args meth c own cc nL ret E) {idx ci j q : Nat} (d : decode cc pc = .ok (.putfield idx, 3)) (hn : pc + 3 = nx) (fa : aFo own idx ci j) (ht : aKR (atyT ci j)) (hfin : ∀ r : vw_C, aCl[ci]? = some r → (r.2.1 j).2.2.2 = true ∧ (r.2.1 j).1 = own) (hini : meth.name = "<init>") (hq : S q = some (.inr ci)) (h99 : 3 ≤ q) (kk : aG p l e R s m args below meth c E io0 S0 nL Q nx lv (st) S (I) (L) (au2 Rf q j none) k n) : aG p l e R s m args below meth c E io0 S0 nL Q pc lv (.null :: .ref q :: st) S (I) (L) (Rf) k n := by
  subst hn
  have h9 : 3 ≤ q := h99
  intro io H locs ls h1 h2 h3 h4 h5 h6
  obtain ⟨r, hc, hk, hw⟩ := fa
  have hts := hx.2.2.2.2.1
  have hin := abig_u ci r hc
  have hap := va_apart (own := own) hts hin (atyT ci) (acl_ty ci r hc) (acl_nm ci r hc) hx.K hc
  obtain ⟨r', hc', cell, q1, q2, q3, q4⟩ := h1.1 q _ hq h9
  cases hc.symm.trans hc'
  obtain ⟨hS, hfc, kC, hkC, hkind⟩ := hx.K.1 ci _ hc
  obtain ⟨cf, kf, fi, f, hi, hsl⟩ := hS j hk
  have hlay := hts _ (hin _ (u_in_lay hk))
  unfold u_lay at hlay
  rw [if_pos (hfin r hc).1] at hlay
  have hst := (u_facts hfc hkC (u_lays hts hin hk) hi).1
  have hcf : m.cls = cf := by
    obtain ⟨_, _, c', _, _, _, -, -, hf', -, -, -, hown2, -⟩ := Cond.laysFinal_spec hlay
    have e1 : c' = cf := by have := hi.symm.trans hf'; simp at this; exact this.1.symm
    rw [(hfin r hc).2] at hown2
    rw [← e1]; exact Option.some.inj (hx.2.2.2.1.symm.trans hown2)
  have h7 := u_fits hfc hkC hkind (Or.inr hlay) hi (acl_ty ci r hc j hk) (v := .null) (by revert ht; cases atyT ci j <;> intro ht <;> first | rfl | cases ht) (by revert ht; cases atyT ci j <;> intro ht <;> first | rfl | cases ht)
  refine W.putFinK hx.1 hx.2.1 hx.2.2.2.1 (hx.W hw) hi hst hcf hini (by rw [q2]; exact h7) q1 q3 (by rw [hsl]; exact k2_hasslot (q4 j hk)) rfl rfl d fun H' e1 e2 e3 => ?_
  rw [hsl] at e1 ⊢
  refine kk io H' _ ls (h1.putr h99 hq ⟨r, hc, t_OB.to (V := updV (fun k => asv io (atyT ci k) I L Rf q k) j (.null)) ⟨_, e1, q2, q3, t_set q4 hap hk _⟩ (fun b _ => ?_)⟩ e3 (fun r e => by cases e)) h2 h3 h4.tl.tl (h5.put e2 e3 (h1.2.2.1 q (by rw [hq]; simp) h99)) h6
  by_cases e : b = j
  · subst e; exact (if_pos rfl).trans ((asv_r ht).trans (by rw [au2_s]; rfl)).symm
  · exact (if_neg e).trans (asv_congr rfl rfl (au2_n (fun z => e z.2)) (fun _ _ => rfl)).symm

theorem g_iaload (hx : aCx p l s m args meth c own cc nL ret E) {q N : Nat} {i : Int32} (d : decode cc pc = .ok (.iaload, 1)) (hn : pc + 1 = nx) (hq : S q = some (.inl (.int, N))) (h9 : 3 ≤ q) (hin : vp_in i N) (kk : aG p l e R s m args below meth c E io0 S0 nL Q nx lv (.int (I q i.toNatClampNeg) :: st) S (I) (L) (Rf) k n) : aG p l e R s m args below meth c E io0 S0 nL Q pc lv (.int i :: .ref q :: st) S (I) (L) (Rf) k n := by
  subst hn
  intro io H locs ls h1 h2 h3 h4 h5 h6
  have hlt : i.toNatClampNeg < N := Nat.not_le.mp fun z => hin (Or.inr z)
  exact W.iald (v := .int (I q i.toNatClampNeg)) hx.1 hx.2.1 (h1.1 q _ hq h9) ((hx.arr (ty := .int) ⟨0, rfl⟩).1 _ _) (fun z => by cases z) (by rw [arrV_size]; exact hin) (by rw [arrV_read _ _ hlt]; rfl) rfl rfl d (kk io H locs ls h1 h2 h3 h4.tl.tl.i h5 h6)

theorem g_laload (hx : aCx p l s m args meth c own cc nL ret E) {q N : Nat} {i : Int32} (d : decode cc pc = .ok (.laload, 1)) (hn : pc + 1 = nx) (hq : S q = some (.inl (.long, N))) (h9 : 3 ≤ q) (hin : vp_in i N) (kk : aG p l e R s m args below meth c E io0 S0 nL Q nx lv (.long (L q i.toNatClampNeg) :: st) S (I) (L) (Rf) k n) : aG p l e R s m args below meth c E io0 S0 nL Q pc lv (.int i :: .ref q :: st) S (I) (L) (Rf) k n := by
  subst hn
  intro io H locs ls h1 h2 h3 h4 h5 h6
  have hlt : i.toNatClampNeg < N := Nat.not_le.mp fun z => hin (Or.inr z)
  exact W.lald (v := .long (L q i.toNatClampNeg)) hx.1 hx.2.1 (h1.1 q _ hq h9) ((hx.arr (ty := .long) ⟨1, rfl⟩).1 _ _) (fun z => by cases z) (by rw [arrV_size]; exact hin) (by rw [arrV_read _ _ hlt]; rfl) rfl rfl d (kk io H locs ls h1 h2 h3 h4.tl.tl.l h5 h6)

theorem g_baload (hx : aCx p l s m args meth c own cc nL ret E) {q N : Nat} {i : Int32} (d : decode cc pc = .ok (.baload, 1)) (hn : pc + 1 = nx) (hq : S q = some (.inl (.boolean, N))) (h9 : 3 ≤ q) (hin : vp_in i N) (kk : aG p l e R s m args below meth c E io0 S0 nL Q nx lv (.int (I q i.toNatClampNeg) :: st) S (I) (L) (Rf) k n) : aG p l e R s m args below meth c E io0 S0 nL Q pc lv (.int i :: .ref q :: st) S (I) (L) (Rf) k n := by
  subst hn
  intro io H locs ls h1 h2 h3 h4 h5 h6
  have hlt : i.toNatClampNeg < N := Nat.not_le.mp fun z => hin (Or.inr z)
  exact W.zald (v := .int (I q i.toNatClampNeg)) hx.1 hx.2.1 (h1.1 q _ hq h9) ((hx.arr (ty := .boolean) ⟨2, rfl⟩).1 _ _) (fun z => by cases z) (by rw [arrV_size]; exact hin) (by rw [arrV_read _ _ hlt]; rfl) rfl rfl d (kk io H locs ls h1 h2 h3 h4.tl.tl.i h5 h6)

theorem g_aaloadStar_R (hx : aCx p l s m args meth c own cc nL ret E) {q N : Nat} {r9 : Nat} {i : Int32} (d : decode cc pc = .ok (.aaload, 1)) (hn : pc + 1 = nx) (hq : S q = some (.inl (.object "AsteroTone$Star", N))) (h9 : 3 ≤ q) (hin : vp_in i N) (hr : Rf q i.toNatClampNeg = some r9) (kk : aG p l e R s m args below meth c E io0 S0 nL Q nx lv (.ref r9 :: st) S (I) (L) (Rf) k n) : aG p l e R s m args below meth c E io0 S0 nL Q pc lv (.int i :: .ref q :: st) S (I) (L) (Rf) k n := by
  subst hn
  intro io H locs ls h1 h2 h3 h4 h5 h6
  have hlt : i.toNatClampNeg < N := Nat.not_le.mp fun z => hin (Or.inr z)
  exact W.aald (v := .ref (io r9)) (ty := .object "AsteroTone$Star") hx.1 hx.2.1 (h1.1 q _ hq h9) ((hx.arr (ty := .object "AsteroTone$Star") ⟨3, rfl⟩).1 _ _) rfl (fun z => by cases z) (by rw [arrV_size]; exact hin) (by rw [arrV_read _ _ hlt]; exact congrArg some (congrArg (arv io) hr)) rfl rfl d (kk io H locs ls h1 h2 h3 (h4.tl.tl.r (h1.2.2.2.1 q _ r9 (by rw [hq]; simp) hr)) h5 h6)

theorem g_aaloadStar_N (hx : aCx p l s m args meth c own cc nL ret E) {q N : Nat} {i : Int32} (d : decode cc pc = .ok (.aaload, 1)) (hn : pc + 1 = nx) (hq : S q = some (.inl (.object "AsteroTone$Star", N))) (h9 : 3 ≤ q) (hin : vp_in i N) (hr : Rf q i.toNatClampNeg = none) (kk : aG p l e R s m args below meth c E io0 S0 nL Q nx lv (.null :: st) S (I) (L) (Rf) k n) : aG p l e R s m args below meth c E io0 S0 nL Q pc lv (.int i :: .ref q :: st) S (I) (L) (Rf) k n := by
  subst hn
  intro io H locs ls h1 h2 h3 h4 h5 h6
  have hlt : i.toNatClampNeg < N := Nat.not_le.mp fun z => hin (Or.inr z)
  exact W.aald (v := .null) (ty := .object "AsteroTone$Star") hx.1 hx.2.1 (h1.1 q _ hq h9) ((hx.arr (ty := .object "AsteroTone$Star") ⟨3, rfl⟩).1 _ _) rfl (fun z => by cases z) (by rw [arrV_size]; exact hin) (by rw [arrV_read _ _ hlt]; exact congrArg some (congrArg (arv io) hr)) rfl rfl d (kk io H locs ls h1 h2 h3 (h4.tl.tl.n) h5 h6)

theorem g_aaloadClaim_R (hx : aCx p l s m args meth c own cc nL ret E) {q N : Nat} {r9 : Nat} {i : Int32} (d : decode cc pc = .ok (.aaload, 1)) (hn : pc + 1 = nx) (hq : S q = some (.inl (.object "AsteroTone$Claim", N))) (h9 : 3 ≤ q) (hin : vp_in i N) (hr : Rf q i.toNatClampNeg = some r9) (kk : aG p l e R s m args below meth c E io0 S0 nL Q nx lv (.ref r9 :: st) S (I) (L) (Rf) k n) : aG p l e R s m args below meth c E io0 S0 nL Q pc lv (.int i :: .ref q :: st) S (I) (L) (Rf) k n := by
  subst hn
  intro io H locs ls h1 h2 h3 h4 h5 h6
  have hlt : i.toNatClampNeg < N := Nat.not_le.mp fun z => hin (Or.inr z)
  exact W.aald (v := .ref (io r9)) (ty := .object "AsteroTone$Claim") hx.1 hx.2.1 (h1.1 q _ hq h9) ((hx.arr (ty := .object "AsteroTone$Claim") ⟨4, rfl⟩).1 _ _) rfl (fun z => by cases z) (by rw [arrV_size]; exact hin) (by rw [arrV_read _ _ hlt]; exact congrArg some (congrArg (arv io) hr)) rfl rfl d (kk io H locs ls h1 h2 h3 (h4.tl.tl.r (h1.2.2.2.1 q _ r9 (by rw [hq]; simp) hr)) h5 h6)

theorem g_aaloadClaim_N (hx : aCx p l s m args meth c own cc nL ret E) {q N : Nat} {i : Int32} (d : decode cc pc = .ok (.aaload, 1)) (hn : pc + 1 = nx) (hq : S q = some (.inl (.object "AsteroTone$Claim", N))) (h9 : 3 ≤ q) (hin : vp_in i N) (hr : Rf q i.toNatClampNeg = none) (kk : aG p l e R s m args below meth c E io0 S0 nL Q nx lv (.null :: st) S (I) (L) (Rf) k n) : aG p l e R s m args below meth c E io0 S0 nL Q pc lv (.int i :: .ref q :: st) S (I) (L) (Rf) k n := by
  subst hn
  intro io H locs ls h1 h2 h3 h4 h5 h6
  have hlt : i.toNatClampNeg < N := Nat.not_le.mp fun z => hin (Or.inr z)
  exact W.aald (v := .null) (ty := .object "AsteroTone$Claim") hx.1 hx.2.1 (h1.1 q _ hq h9) ((hx.arr (ty := .object "AsteroTone$Claim") ⟨4, rfl⟩).1 _ _) rfl (fun z => by cases z) (by rw [arrV_size]; exact hin) (by rw [arrV_read _ _ hlt]; exact congrArg some (congrArg (arv io) hr)) rfl rfl d (kk io H locs ls h1 h2 h3 (h4.tl.tl.n) h5 h6)

theorem g_iastore (hx : aCx p l s m args meth c own cc nL ret E) {q N : Nat} {i : Int32} {v : Int32} (d : decode cc pc = .ok (.iastore, 1)) (hn : pc + 1 = nx) (hq : S q = some (.inl (.int, N))) (h99 : 3 ≤ q) (hin : vp_in i N) (kk : aG p l e R s m args below meth c E io0 S0 nL Q nx lv (st) S (au2 I q i.toNatClampNeg v) (L) (Rf) k n) : aG p l e R s m args below meth c E io0 S0 nL Q pc lv (.int v :: .int i :: .ref q :: st) S (I) (L) (Rf) k n := by
  subst hn
  have h9 : 3 ≤ q := h99
  intro io H locs ls h1 h2 h3 h4 h5 h6
  refine W.iast hx.1 hx.2.1 (h1.1 q _ hq h9) ((hx.arr (ty := .int) ⟨0, rfl⟩).1 _ _) (fun z => by cases z) (by rw [arrV_size]; exact hin) rfl rfl d fun H' e1 e2 e3 => ?_
  refine kk io H' _ ls (h1.puti h99 hq (e1.trans ?_) e3) h2 h3 h4.tl.tl.tl (h5.put e2 e3 (h1.2.2.1 q (by rw [hq]; simp) h99)) h6
  rw [arrV_store]
  refine congrArg some (congrArg (arrV _ _) (funext fun b => ?_))
  by_cases e : b = i.toNatClampNeg
  · subst e; exact (if_pos rfl).trans (congrArg Value.int (au2_s _ _ _ _)).symm
  · exact (if_neg e).trans (asv_congr (au2_n (fun z => e z.2)) rfl rfl (fun _ _ => rfl)).symm

theorem g_lastore (hx : aCx p l s m args meth c own cc nL ret E) {q N : Nat} {i : Int32} {v : Int64} (d : decode cc pc = .ok (.lastore, 1)) (hn : pc + 1 = nx) (hq : S q = some (.inl (.long, N))) (h99 : 3 ≤ q) (hin : vp_in i N) (kk : aG p l e R s m args below meth c E io0 S0 nL Q nx lv (st) S (I) (au2 L q i.toNatClampNeg v) (Rf) k n) : aG p l e R s m args below meth c E io0 S0 nL Q pc lv (.long v :: .int i :: .ref q :: st) S (I) (L) (Rf) k n := by
  subst hn
  have h9 : 3 ≤ q := h99
  intro io H locs ls h1 h2 h3 h4 h5 h6
  refine W.last hx.1 hx.2.1 (h1.1 q _ hq h9) ((hx.arr (ty := .long) ⟨1, rfl⟩).1 _ _) (fun z => by cases z) (by rw [arrV_size]; exact hin) rfl rfl d fun H' e1 e2 e3 => ?_
  refine kk io H' _ ls (h1.putl h99 hq (e1.trans ?_) e3) h2 h3 h4.tl.tl.tl (h5.put e2 e3 (h1.2.2.1 q (by rw [hq]; simp) h99)) h6
  rw [arrV_store]
  refine congrArg some (congrArg (arrV _ _) (funext fun b => ?_))
  by_cases e : b = i.toNatClampNeg
  · subst e; exact (if_pos rfl).trans (congrArg Value.long (au2_s _ _ _ _)).symm
  · exact (if_neg e).trans (asv_congr rfl (au2_n (fun z => e z.2)) rfl (fun _ _ => rfl)).symm

theorem g_bastore (hx : aCx p l s m args meth c own cc nL ret E) {q N : Nat} {i : Int32} {v : Int32} (d : decode cc pc = .ok (.bastore, 1)) (hn : pc + 1 = nx) (hq : S q = some (.inl (.boolean, N))) (h99 : 3 ≤ q) (hin : vp_in i N) (hb : narrow .boolean (.int v) = .int v) (kk : aG p l e R s m args below meth c E io0 S0 nL Q nx lv (st) S (au2 I q i.toNatClampNeg v) (L) (Rf) k n) : aG p l e R s m args below meth c E io0 S0 nL Q pc lv (.int v :: .int i :: .ref q :: st) S (I) (L) (Rf) k n := by
  subst hn
  have h9 : 3 ≤ q := h99
  intro io H locs ls h1 h2 h3 h4 h5 h6
  refine W.zast hx.1 hx.2.1 (h1.1 q _ hq h9) ((hx.arr (ty := .boolean) ⟨2, rfl⟩).1 _ _) (fun z => by cases z) (by rw [arrV_size]; exact hin) rfl rfl d fun H' e1 e2 e3 => ?_
  rw [hb] at e1
  refine kk io H' _ ls (h1.puti h99 hq (e1.trans ?_) e3) h2 h3 h4.tl.tl.tl (h5.put e2 e3 (h1.2.2.1 q (by rw [hq]; simp) h99)) h6
  rw [arrV_store]
  refine congrArg some (congrArg (arrV _ _) (funext fun b => ?_))
  by_cases e : b = i.toNatClampNeg
  · subst e; exact (if_pos rfl).trans (congrArg Value.int (au2_s _ _ _ _)).symm
  · exact (if_neg e).trans (asv_congr (au2_n (fun z => e z.2)) rfl rfl (fun _ _ => rfl)).symm

theorem g_aastoreStar (hx : aCx p l s m args meth c own cc nL ret E) {q N v : Nat} {i : Int32} (d : decode cc pc = .ok (.aastore, 1)) (hn : pc + 1 = nx) (hq : S q = some (.inl (.object "AsteroTone$Star", N))) (h99 : 3 ≤ q) (hin : vp_in i N) (hv : S v = some (.inr 2)) (h8 : 3 ≤ v) (kk : aG p l e R s m args below meth c E io0 S0 nL Q nx lv (st) S (I) (L) (au2 Rf q i.toNatClampNeg (some v)) k n) : aG p l e R s m args below meth c E io0 S0 nL Q pc lv (.ref v :: .int i :: .ref q :: st) S (I) (L) (Rf) k n := by
  subst hn
  have h9 : 3 ≤ q := h99
  intro io H locs ls h1 h2 h3 h4 h5 h6
  have hlt : i.toNatClampNeg < N := Nat.not_le.mp fun z => hin (Or.inr z)
  have h0 : ¬ i < 0 := fun z => hin (Or.inl z)
  obtain ⟨r, hr, cellV, g1, g2, g3, -⟩ := h1.1 v _ hv h8
  cases hr
  have hcls := (hx.K.1 2 _ rfl).2
  obtain ⟨kA, comp, k1, k2, k3, -⟩ := (hx.arr (ty := .object "AsteroTone$Star") ⟨3, rfl⟩).2
  have hcomp : comp = E.1.1 2 := Option.some.inj (k3.symm.trans hcls.1)
  subst hcomp
  obtain ⟨kC, hkC, -⟩ := hcls.2
  refine W.aast hx.1 hx.2.1 (h1.1 q _ hq h9) (fun q h => by cases h) (fun h => by cases h) k1 k2 rfl hkC ⟨h0, by rw [arrV_size]; exact hlt⟩ g1 (fun q h => by rw [g3] at h; cases h) (by rw [g2]; exact hkC) (by rw [g2]; exact va_assign hcls) rfl rfl d fun H' e1 e2 e3 => ?_
  refine kk io H' _ ls (h1.putr h99 hq (e1.trans ?_) e3 (fun r e => by cases e; rw [hv]; simp)) h2 h3 h4.tl.tl.tl (h5.put e2 e3 (h1.2.2.1 q (by rw [hq]; simp) h99)) h6
  rw [arrV_store]
  refine congrArg some (congrArg (arrV _ _) (funext fun b => ?_))
  by_cases e : b = i.toNatClampNeg
  · subst e; exact (if_pos rfl).trans (show arv io (some v) = _ from (congrArg (arv io) (au2_s _ _ _ _)).symm)
  · exact (if_neg e).trans (asv_congr rfl rfl (au2_n (fun z => e z.2)) (fun _ _ => rfl)).symm

theorem g_aastoreClaim (hx : aCx p l s m args meth c own cc nL ret E) {q N v : Nat} {i : Int32} (d : decode cc pc = .ok (.aastore, 1)) (hn : pc + 1 = nx) (hq : S q = some (.inl (.object "AsteroTone$Claim", N))) (h99 : 3 ≤ q) (hin : vp_in i N) (hv : S v = some (.inr 0)) (h8 : 3 ≤ v) (kk : aG p l e R s m args below meth c E io0 S0 nL Q nx lv (st) S (I) (L) (au2 Rf q i.toNatClampNeg (some v)) k n) : aG p l e R s m args below meth c E io0 S0 nL Q pc lv (.ref v :: .int i :: .ref q :: st) S (I) (L) (Rf) k n := by
  subst hn
  have h9 : 3 ≤ q := h99
  intro io H locs ls h1 h2 h3 h4 h5 h6
  have hlt : i.toNatClampNeg < N := Nat.not_le.mp fun z => hin (Or.inr z)
  have h0 : ¬ i < 0 := fun z => hin (Or.inl z)
  obtain ⟨r, hr, cellV, g1, g2, g3, -⟩ := h1.1 v _ hv h8
  cases hr
  have hcls := (hx.K.1 0 _ rfl).2
  obtain ⟨kA, comp, k1, k2, k3, -⟩ := (hx.arr (ty := .object "AsteroTone$Claim") ⟨4, rfl⟩).2
  have hcomp : comp = E.1.1 0 := Option.some.inj (k3.symm.trans hcls.1)
  subst hcomp
  obtain ⟨kC, hkC, -⟩ := hcls.2
  refine W.aast hx.1 hx.2.1 (h1.1 q _ hq h9) (fun q h => by cases h) (fun h => by cases h) k1 k2 rfl hkC ⟨h0, by rw [arrV_size]; exact hlt⟩ g1 (fun q h => by rw [g3] at h; cases h) (by rw [g2]; exact hkC) (by rw [g2]; exact va_assign hcls) rfl rfl d fun H' e1 e2 e3 => ?_
  refine kk io H' _ ls (h1.putr h99 hq (e1.trans ?_) e3 (fun r e => by cases e; rw [hv]; simp)) h2 h3 h4.tl.tl.tl (h5.put e2 e3 (h1.2.2.1 q (by rw [hq]; simp) h99)) h6
  rw [arrV_store]
  refine congrArg some (congrArg (arrV _ _) (funext fun b => ?_))
  by_cases e : b = i.toNatClampNeg
  · subst e; exact (if_pos rfl).trans (show arv io (some v) = _ from (congrArg (arv io) (au2_s _ _ _ _)).symm)
  · exact (if_neg e).trans (asv_congr rfl rfl (au2_n (fun z => e z.2)) (fun _ _ => rfl)).symm

theorem g_alen (hx : aCx p l s m args meth c own cc nL ret E) {q N : Nat} {ty : FieldType} (d : decode cc pc = .ok (.arraylength, 1)) (hn : pc + 1 = nx) (hq : S q = some (.inl (ty, N))) (h9 : 3 ≤ q) (ht : ∃ i : Nat, (aTys E)[i]? = some (E.2.1 ty, ty)) (kk : aG p l e R s m args below meth c E io0 S0 nL Q nx lv (.int (Int32.ofNat N) :: st) S (I) (L) (Rf) k n) : aG p l e R s m args below meth c E io0 S0 nL Q pc lv (.ref q :: st) S (I) (L) (Rf) k n := by
  subst hn
  intro io H locs ls h1 h2 h3 h4 h5 h6
  exact W.alen (n := Int32.ofNat N) hx.1 hx.2.1 (h1.1 q _ hq h9) ((hx.arr ht).1 _ _) (by rw [arrV_size]) rfl rfl d (kk io H locs ls h1 h2 h3 h4.tl.i h5 h6)
/-- the table of cosines -/
theorem g_cosT (hx : aCx p l s m args meth c own cc nL ret E) {idx : Nat} (d : decode cc pc = .ok (.getstatic idx, 3)) (hn : pc + 3 = nx) (hw : Cond.fieldLink own idx "AsteroTone" "COSINES" "[I" ∈ aBIG) (hq : S 2 ≠ none) (kk : aG p l e R s m args below meth c E io0 S0 nL Q nx lv (.ref 2 :: st) S (I) (L) (Rf) k n) : aG p l e R s m args below meth c E io0 S0 nL Q pc lv (st) S (I) (L) (Rf) k n := by
  subst hn
  intro io H locs ls h1 h2 h3 h4 h5 h6
  have hZ := hx.2.2.2.2.2.2.1.2.2.2.2.2.2.2.1
  refine va_gets hx.1 hx.2.1 hZ h5 hx.2.2.2.1 (hx.W hw) (fun _ h => h) d ?_
  rw [← h1.2.2.2.2.1.1]
  exact kk io H locs ls h1 h2 h3 (h4.r hq) h5 h6
theorem g_cosA (hx : aCx p l s m args meth c own cc nL ret E) {i : Int32} (d : decode cc pc = .ok (.iaload, 1)) (hn : pc + 1 = nx) (hin : vp_in i 64) (kk : aG p l e R s m args below meth c E io0 S0 nL Q nx lv (.int (acos i.toNatClampNeg) :: st) S (I) (L) (Rf) k n) : aG p l e R s m args below meth c E io0 S0 nL Q pc lv (.int i :: .ref 2 :: st) S (I) (L) (Rf) k n := by
  subst hn
  intro io H locs ls h1 h2 h3 h4 h5 h6
  have hX := hx.2.2.2.2.2.2.1.2.2.2.2.2.2.2.2.1
  have hlt := hx.2.2.2.2.2.2.1.2.2.2.2.2.2.2.2.2.1
  have hz := hx.2.2.2.2.2.2.1.2.2.2.2.2.2.2.2.2.2.1
  show W p l e R s m args below meth c H locs k n Q (F0 m pc ls (.int i :: .ref (io 2) :: st.map (arn io)))
  rw [h1.2.2.2.2.1.1]
  exact va_sld hx.1 hx.2.1 hX.1 (Nat.lt_of_lt_of_le hlt hz) (Nat.not_le.mpr hlt) h5 hin d (kk io H locs ls h1 h2 h3 h4.tl.tl.i h5 h6)

theorem g_scr (hx : aCx p l s m args meth c own cc nL ret E) {i : Int32} (d : decode cc pc = .ok (.iaload, 1)) (hn : pc + 1 = nx) (hin : vp_in i (aSn E)) (kk : aG p l e R s m args below meth c E io0 S0 nL Q nx lv (.int (aSx E i.toNatClampNeg) :: st) S (I) (L) (Rf) k n) : aG p l e R s m args below meth c E io0 S0 nL Q pc lv (.int i :: .ref 1 :: st) S (I) (L) (Rf) k n := by
  subst hn
  intro io H locs ls h1 h2 h3 h4 h5 h6
  have hX := hx.2.2.2.2.2.2.1.2.2.2.2.2.2.2.2.1
  have hz := hx.2.2.2.2.2.2.1.2.2.2.2.2.2.2.2.2.2.1
  show W p l e R s m args below meth c H locs k n Q (F0 m pc ls (.int i :: .ref (io 1) :: st.map (arn io)))
  rw [h1.2.2.2.2.1.2]
  exact va_sld hx.1 hx.2.1 hX.2.1 (Nat.lt_of_lt_of_le hX.2.2 hz) (Nat.not_le.mpr hX.2.2) h5 hin d (kk io H locs ls h1 h2 h3 h4.tl.tl.i h5 h6)
theorem g_slen (hx : aCx p l s m args meth c own cc nL ret E) (d : decode cc pc = .ok (.arraylength, 1)) (hn : pc + 1 = nx) (kk : aG p l e R s m args below meth c E io0 S0 nL Q nx lv (.int (nI (aSn E)) :: st) S (I) (L) (Rf) k n) : aG p l e R s m args below meth c E io0 S0 nL Q pc lv (.ref 1 :: st) S (I) (L) (Rf) k n := by
  subst hn
  intro io H locs ls h1 h2 h3 h4 h5 h6
  have hX := hx.2.2.2.2.2.2.1.2.2.2.2.2.2.2.2.1
  have hz := hx.2.2.2.2.2.2.1.2.2.2.2.2.2.2.2.2.2.1
  show W p l e R s m args below meth c H locs k n Q (F0 m pc ls (.ref (io 1) :: st.map (arn io)))
  rw [h1.2.2.2.2.1.2]
  exact va_slen hx.1 hx.2.1 hX.2.1 (Nat.lt_of_lt_of_le hX.2.2 hz) (Nat.not_le.mpr hX.2.2) h5 d (kk io H locs ls h1 h2 h3 h4.tl.i h5 h6)
end AH
