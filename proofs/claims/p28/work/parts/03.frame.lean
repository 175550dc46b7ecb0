/-! The abstract machine: a heap of typed slots under fixed names (numbers); a name's address is given by a map that only grows. -/
abbrev aI : Type := Nat → Nat → Int32
abbrev aL : Type := Nat → Nat → Int64
abbrev aR : Type := Nat → Nat → Option Nat
abbrev aS : Type := Nat → Option ((FieldType × Nat) ⊕ Nat)
abbrev aM : Type := Nat → Nat
/-- the surroundings: classes and slots, array classes, the first address that may be written, the table's address -/
abbrev aE : Type := va_G × (FieldType → ClassId) × Nat × Nat × Nat × Nat × (Nat → Int32)
/-- the table's address; the script's address, length, ints -/
abbrev aTb (E : aE) : Nat := E.2.2.2.1
abbrev aSa (E : aE) : Nat := E.2.2.2.2.1
abbrev aSn (E : aE) : Nat := E.2.2.2.2.2.1
abbrev aSx (E : aE) : Nat → Int32 := E.2.2.2.2.2.2
def au2 {α : Type} (f : Nat → Nat → α) (q k : Nat) (v : α) : Nat → Nat → α := fun a b => if a = q ∧ b = k then v else f a b
def au1 {α : Type} (f : Nat → α) (q : Nat) (v : α) : Nat → α := fun a => if a = q then v else f a
theorem au2_s {α : Type} (f : Nat → Nat → α) (q k : Nat) (v : α) : au2 f q k v q k = v := by simp [au2]
theorem au2_n {α : Type} {f : Nat → Nat → α} {q k a b : Nat} {v : α} (h : ¬ (a = q ∧ b = k)) : au2 f q k v a b = f a b := by simp [au2, h]
theorem au1_s {α : Type} (f : Nat → α) (q : Nat) (v : α) : au1 f q v q = v := by simp [au1]
theorem au1_n {α : Type} {f : Nat → α} {q a : Nat} {v : α} (h : a ≠ q) : au1 f q v a = f a := by simp [au1, h]
/-- a local that nobody knows -/
abbrev aU : Value := .retAddr 0
def arn (io : aM) : Value → Value
  | .ref q => .ref (io q)
  | .int x => .int x
  | .long x => .long x
  | .float x => .float x
  | .double x => .double x
  | .null => .null
  | .retAddr x => .retAddr x
def arv (io : aM) : Option Nat → Value
  | none => .null
  | some q => .ref (io q)
def asv (io : aM) (ty : FieldType) (I : aI) (L : aL) (R : aR) (q k : Nat) : Value := match ty with
  | .long => .long (L q k)
  | .object _ => arv io (R q k)
  | .array _ => arv io (R q k)
  | _ => .int (I q k)
def atyT : Nat → Nat → FieldType := fun ci => match ci with
  | 0 => tyX0
  | 1 => tyX1
  | 2 => tyX2
  | _ => tyX3
abbrev aCl : List vw_C := [(RX0, TX0, 9), (RX1, TX1, 5), (RX2, TX2, 14), (RX3, TX3, 8)]
theorem acl_ty : ∀ (ci : Nat) (r : vw_C), aCl[ci]? = some r → ∀ k, k < r.2.2 → parseFieldDescriptor (r.2.1 k).2.2.1 = some (atyT ci k) := by
  intro ci r h
  match ci, h with
  | 0, h => cases h; exact tyX0_ok
  | 1, h => cases h; exact tyX1_ok
  | 2, h => cases h; exact tyX2_ok
  | 3, h => cases h; exact tyX3_ok
  | n + 4, h => simp at h
theorem acl_nm : ∀ (ci : Nat) (r : vw_C), aCl[ci]? = some r → ∀ a, a < r.2.2 → ∀ b, b < r.2.2 → a ≠ b → (r.2.1 a).2.1 ≠ (r.2.1 b).2.1 := by
  intro ci r h
  match ci, h with
  | 0, h => cases h; exact nmX0
  | 1, h => cases h; exact nmX1
  | 2, h => cases h; exact nmX2
  | 3, h => cases h; exact nmX3
  | n + 4, h => simp at h
/-- all words that stay true -/
def aBIG : List Cond := lw_tbl.filter goodWord
theorem abig_good : GoodIn aBIG aBIG := fun w h => ⟨h, good_of_word (List.mem_filter.mp h).2⟩
theorem abig_u0 : ∀ w ∈ u_ws RX0 TX0 9, w ∈ aBIG := by decide +kernel
theorem abig_u1 : ∀ w ∈ u_ws RX1 TX1 5, w ∈ aBIG := by decide +kernel
theorem abig_u2 : ∀ w ∈ u_ws RX2 TX2 14, w ∈ aBIG := by decide +kernel
theorem abig_u3 : ∀ w ∈ u_ws RX3 TX3 8, w ∈ aBIG := by decide +kernel
theorem abig_u : ∀ (ci : Nat) (r : vw_C), aCl[ci]? = some r → ∀ w ∈ u_ws r.1 r.2.1 r.2.2, w ∈ aBIG := by
  intro ci r h
  match ci, h with
  | 0, h => cases h; exact abig_u0
  | 1, h => cases h; exact abig_u1
  | 2, h => cases h; exact abig_u2
  | 3, h => cases h; exact abig_u3
  | n + 4, h => simp at h
/-- words kept as facts of their own -/
def aNk : Cond → Bool
  | .fieldLinkNest .. => true
  | .methodLinkNest .. => true
  | .castable .. => true
  | .declares .. => true
  | _ => false
theorem aNk_ot {w : Cond} (h : aNk w = true) : w.onTables = true := by
  cases w <;> first | rfl | (simp [aNk] at h)
theorem aNk_warm {w : Cond} (h : aNk w = true) {s U : State} (hW : s.WarmedH U.vm) (hZ : va_Nw w s) : va_Nw w U := by
  cases w <;> first | exact va_Nw.warmF hW hZ | exact va_Nw.warmM hW hZ | exact va_Nw.warmC hW hZ | exact va_Nw.warmD hW hZ | (simp [aNk] at h)
def aTys (E : aE) : List (ClassId × FieldType) := [(E.2.1 .int, .int), (E.2.1 .long, .long), (E.2.1 .boolean, .boolean), (E.2.1 (.object "AsteroTone$Star"), .object "AsteroTone$Star"), (E.2.1 (.object "AsteroTone$Claim"), .object "AsteroTone$Claim")]
/-- where a method may write -/
abbrev aW (E : aE) : Nat → Prop := fun q => E.2.2.1 ≤ q
def acos : Nat → Int32 := fun j => ([1000, 995, 981, 957, 924, 882, 831, 773, 707, 634, 556, 471, 383, 290, 195, 98, 0, -98, -195, -290, -383, -471, -556, -634, -707, -773, -831, -882, -924, -957, -981, -995, -1000, -995, -981, -957, -924, -882, -831, -773, -707, -634, -556, -471, -383, -290, -195, -98, 0, 98, 195, 290, 383, 471, 556, 634, 707, 773, 831, 882, 924, 957, 981, 995] : List Int32).getD j 0
def aNcs : List (String × String) := [("java/lang/IllegalArgumentException", "java/lang/IllegalStateException"), ("java/lang/IllegalArgumentException", "java/lang/IndexOutOfBoundsException"), ("java/lang/IllegalStateException", "java/lang/IllegalArgumentException"), ("java/lang/IllegalStateException", "java/lang/IndexOutOfBoundsException"), ("java/lang/IndexOutOfBoundsException", "java/lang/IllegalArgumentException"), ("java/lang/IndexOutOfBoundsException", "java/lang/IllegalStateException")]
/-- what holds of the machine beside the objects -/
def aEv (E : aE) (s : State) : Prop :=
  va_K E.1 aCl (aTys E) s ∧ (∀ w ∈ lw_tbl, aNk w = true → va_Nw w s) ∧ va_AO "AsteroTone$Star" s ∧ va_AO "AsteroTone$Claim" s ∧
  vx_Zq Bundle.tN "UNASSIGNED_STACK" Bundle.steD (aW E) s s.heap ∧ vx_Zq Bundle.tN "SUPPRESSED_SENTINEL" Bundle.listD (aW E) s s.heap ∧
  (∀ own k tx, Cond.stringRef own k tx ∈ lw_tbl → ∃ sa, vk_R own k tx sa s) ∧ va_Z "AsteroTone" "COSINES" "[I" (.ref (aTb E)) (aW E) s s.heap ∧
  (va_X (aTb E) 64 acos s s.heap ∧ va_X (aSa E) (aSn E) (aSx E) s s.heap ∧ aSa E < E.2.2.1) ∧ aTb E < E.2.2.1 ∧ E.2.2.1 ≤ s.heap.size ∧ (∀ q ∈ aNcs, va_Nc q.1 q.2 s)

theorem aEv.same {E : aE} {u U : State} (hv : u.vm = U.vm) (hh : u.heap = U.heap) (h : aEv E u) : aEv E U := by
  obtain ⟨h1, h2, h3, h4, h5, h6, h7, h8, h9, h10, h11, h12⟩ := h
  have ha : u.vm.Alike U.vm := by rw [hv]; exact Vm.Alike.refl U.vm
  refine ⟨h1.moved ha, fun w hw hk => (h2 w hw hk).same (aNk_ot hk) hv, h3.moved ha, h4.moved ha, by rw [← hh]; exact h5.moved ha, by rw [← hh]; exact h6.moved ha, fun own k tx hm => ?_, by rw [← hh]; exact h8.moved ha, ⟨by rw [← hh]; exact h9.1.moved ha, by rw [← hh]; exact h9.2.1.moved ha, h9.2.2⟩, h10, by rw [← hh]; exact h11, fun q hq => (h12 q hq).moved ha⟩
  obtain ⟨sa, hs⟩ := h7 own k tx hm
  exact ⟨sa, hs.same hv.symm⟩
theorem aEv.go {E : aE} {s U : State} {H : Heap} {locs : List Loc} (hW : s.WarmedH U.vm) (hH : U.heap = H) (hS : va_S (aW E) s.heap H locs) (h : aEv E s) : aEv E U := by
  obtain ⟨h1, h2, h3, h4, h5, h6, h7, h8, h9, h10, h11, h12⟩ := h
  have ha : s.vm.Alike U.vm := hW.alike
  have hq : ∀ a : Nat, a < s.heap.size → ¬ aW E a → U.heap[a]? = s.heap[a]? := fun a x y => by rw [hH]; exact hS.2.1 a x y
  refine ⟨h1.moved ha, fun w hw hk => aNk_warm hk hW (h2 w hw hk), h3.moved ha, h4.moved ha, (h5.kept hq).moved ha, (h6.kept hq).moved ha, fun own k tx hm => ?_, (h8.kept hq).moved ha, ⟨(h9.1.kept (hq _ (Nat.lt_of_lt_of_le h10 h11) (Nat.not_le.mpr h10))).moved ha, (h9.2.1.kept (hq _ (Nat.lt_of_lt_of_le h9.2.2 h11) (Nat.not_le.mpr h9.2.2))).moved ha, h9.2.2⟩, h10, Nat.le_trans h11 (by rw [hH]; exact hS.1), fun q hq => (h12 q hq).moved ha⟩
  obtain ⟨sa, hs⟩ := h7 own k tx hm
  exact ⟨sa, hs.warm hW⟩
/-- a cell holds what its name says -/
def aCell (E : aE) (io : aM) (I : aI) (L : aL) (R : aR) (x : (FieldType × Nat) ⊕ Nat) (q : Nat) (H : Heap) : Prop := match x with
  | .inl a => H[io q]? = some (arrV (E.2.1 a.1) a.2 (fun j => asv io a.1 I L R q j))
  | .inr ci => ∃ r : vw_C, aCl[ci]? = some r ∧ t_OB (io q) (E.1.1 ci) r.2.2 (E.1.2 ci) H (fun k => asv io (atyT ci k) I L R q k)
theorem aCell.lt {E : aE} {io : aM} {I : aI} {L : aL} {R : aR} {x : (FieldType × Nat) ⊕ Nat} {q : Nat} {H : Heap} (h : aCell E io I L R x q H) : io q < H.size := by
  cases x with
  | inl a => exact (Array.getElem?_eq_some_iff.mp h).1
  | inr ci =>
    obtain ⟨r, h1, cell, h2, -⟩ := h
    exact (Array.getElem?_eq_some_iff.mp h2).1
theorem aCell.kept {E : aE} {io : aM} {I : aI} {L : aL} {R : aR} {x : (FieldType × Nat) ⊕ Nat} {q : Nat} {H H1 : Heap} (h : aCell E io I L R x q H) (e : H1[io q]? = H[io q]?) : aCell E io I L R x q H1 := by
  cases x with
  | inl a => exact e.trans h
  | inr ci =>
    obtain ⟨r, h1, h2⟩ := h
    exact ⟨r, h1, h2.kept e⟩
theorem asv_congr {io io' : aM} {ty : FieldType} {I I' : aI} {L L' : aL} {R R' : aR} {q k : Nat} (hI : I q k = I' q k) (hL : L q k = L' q k) (hR : R q k = R' q k) (hio : ∀ r, R' q k = some r → io r = io' r) : asv io ty I L R q k = asv io' ty I' L' R' q k := by
  have e : arv io (R q k) = arv io' (R' q k) := by
    rw [hR]
    cases h : R' q k with
    | none => rfl
    | some r => exact congrArg Value.ref (hio r h)
  cases ty <;> simp only [asv, hI, hL, e]
theorem aCell.congr {E : aE} {io io' : aM} {I I' : aI} {L L' : aL} {R R' : aR} {x : (FieldType × Nat) ⊕ Nat} {q : Nat} {H : Heap} (h : aCell E io I L R x q H) (hq : io q = io' q) (hI : ∀ k, I q k = I' q k) (hL : ∀ k, L q k = L' q k) (hR : ∀ k, R q k = R' q k) (hio : ∀ k r, R' q k = some r → io r = io' r) : aCell E io' I' L' R' x q H := by
  have e : ∀ (ty : FieldType) (k : Nat), asv io ty I L R q k = asv io' ty I' L' R' q k := fun ty k => asv_congr (hI k) (hL k) (hR k) (hio k)
  cases x with
  | inl a =>
    show H[io' q]? = _
    rw [← hq, h]
    exact congrArg some (congrArg (arrV _ _) (funext fun j => e _ j))
  | inr ci =>
    obtain ⟨r, h1, h2⟩ := h
    exact ⟨r, h1, by rw [← hq]; exact h2.to fun k _ => e _ k⟩
/-- the heap holds the abstract one -/
def aHR (E : aE) (io : aM) (S : aS) (I : aI) (L : aL) (R : aR) (H : Heap) : Prop :=
  (∀ q x, S q = some x → 3 ≤ q → aCell E io I L R x q H) ∧ (∀ q r, S q ≠ none → S r ≠ none → io q = io r → q = r ∨ (q < 3 ∧ r < 3)) ∧ (∀ q, S q ≠ none → 3 ≤ q → E.2.2.1 ≤ io q) ∧ (∀ q k r, S q ≠ none → R q k = some r → S r ≠ none) ∧ (io 2 = aTb E ∧ io 1 = aSa E) ∧ aTb E < E.2.2.1 ∧ ∀ q, S q ≠ none → q < 3 → io q < E.2.2.1
def aOk (S : aS) (st : List Value) : Prop := ∀ v ∈ st, ∀ q, v = .ref q → S q ≠ none
theorem aOk.tl {S : aS} {v : Value} {st : List Value} (h : aOk S (v :: st)) : aOk S st := fun w hw => h w (List.mem_cons_of_mem _ hw)
theorem aOk.hd {S : aS} {q : Nat} {st : List Value} (h : aOk S (.ref q :: st)) : S q ≠ none := h _ List.mem_cons_self q rfl
theorem aOk.cons {S : aS} {v : Value} {st : List Value} (hv : ∀ q, v = .ref q → S q ≠ none) (h : aOk S st) : aOk S (v :: st) := fun w hw => by
  rcases List.mem_cons.mp hw with e | e
  · rw [e]; exact hv
  · exact h w e
theorem aOk.i {S : aS} {x : Int32} {st : List Value} (h : aOk S st) : aOk S (.int x :: st) := h.cons (fun q e => by cases e)
theorem aOk.l {S : aS} {x : Int64} {st : List Value} (h : aOk S st) : aOk S (.long x :: st) := h.cons (fun q e => by cases e)
theorem aOk.n {S : aS} {st : List Value} (h : aOk S st) : aOk S (.null :: st) := h.cons (fun q e => by cases e)
theorem aOk.r {S : aS} {q : Nat} {st : List Value} (hq : S q ≠ none) (h : aOk S st) : aOk S (.ref q :: st) := h.cons (fun q' e => by cases e; exact hq)
theorem aOk.u {S : aS} {st : List Value} (h : aOk S st) : aOk S (aU :: st) := h.cons (fun q e => by cases e)
theorem aOk.nil {S : aS} : aOk S [] := fun _ h => nomatch h
theorem aOk.mono {S S' : aS} {st : List Value} (h : aOk S st) (hS : ∀ q, S q ≠ none → S' q ≠ none) : aOk S' st := fun v hv q e => hS q (h v hv q e)
def aKn : Value → Bool
  | .retAddr _ => false
  | _ => true
def aLc (io : aM) (nL : Nat) (lv : List Value) (ls : Array Slot) : Prop := ls.size = nL ∧ lv_wf ls ∧ ∀ (i : Nat) (v : Value), lv[i]? = some v → aKn v = true → ls[i]? = some (.val (arn io v))
theorem arn_kn {io : aM} {v : Value} (h : aKn v = true) : aKn (arn io v) = true := by cases v <;> first | rfl | exact h
theorem arn_cat (io : aM) (v : Value) : (arn io v).category = v.category := by cases v <;> rfl
theorem arn_congr {S : aS} {io io' : aM} {st : List Value} (h : aOk S st) (hio : ∀ q, S q ≠ none → io' q = io q) : st.map (arn io') = st.map (arn io) := by
  refine List.map_congr_left fun v hv => ?_
  cases v with
  | ref q => exact congrArg Value.ref (hio q (h _ hv q rfl))
  | _ => rfl
theorem aLc.congr {S : aS} {io io' : aM} {nL : Nat} {lv : List Value} {ls : Array Slot} (h : aOk S lv) (hio : ∀ q, S q ≠ none → io' q = io q) (hl : aLc io nL lv ls) : aLc io' nL lv ls := by
  refine ⟨hl.1, hl.2.1, fun i v hi hk => ?_⟩
  rw [hl.2.2 i v hi hk]
  cases v with
  | ref q => exact congrArg (fun x => some (Slot.val (Value.ref x))) (hio q (h _ (List.mem_of_getElem? hi) q rfl)).symm
  | _ => rfl
def aAll (ls : Array Slot) : List (Nat × Value) := (List.range ls.size).filterMap (fun j => match (ls[j]? : Option Slot) with
  | some (Slot.val w) => some (j, w)
  | _ => none)
theorem aAll_mem {ls : Array Slot} {j : Nat} {w : Value} (h : ls[j]? = some (.val w)) : (j, w) ∈ aAll ls := by
  refine List.mem_filterMap.mpr ⟨j, List.mem_range.mpr (Array.getElem?_eq_some_iff.mp h).1, ?_⟩
  rw [h]
theorem aAll_has {ls : Array Slot} {nL : Nat} (hs : ls.size = nL) (hw : lv_wf ls) : lv_has ls nL (aAll ls) := by
  refine ⟨hs, hw, fun q hq => ?_⟩
  obtain ⟨j, -, hj⟩ := List.mem_filterMap.mp hq
  cases h : ls[j]? with
  | none => rw [h] at hj; cases hj
  | some x =>
    cases x with
    | val w => rw [h] at hj; cases hj; exact h
    | unset => rw [h] at hj; cases hj
    | second => rw [h] at hj; cases hj
/-- what a store leaves of the locals -/
def aStv (i : Nat) (v : Value) (lv lv' : List Value) : Prop := ∀ (j : Nat) (w : Value), lv'[j]? = some w → aKn w = true → (j = i ∧ w = v) ∨ (j ≠ i ∧ lv[j]? = some w ∧ (j + 1 = i → w.category ≠ 2) ∧ (v.category = 2 → j ≠ i + 1))
theorem aLc.st1 {io : aM} {nL i : Nat} {v : Value} {lv lv' : List Value} {ls ls' : Array Slot} (hl : aLc io nL lv ls) (hv : v.category = 1) (hs : aStv i v lv lv') (h : lv_has ls' nL ((i, arn io v) :: (aAll ls).filter (fun q => !(q.1 == i) && !(q.1 + 1 == i && q.2.category == 2)))) : aLc io nL lv' ls' := by
  refine ⟨h.1, h.2.1, fun j w hj hk => ?_⟩
  rcases hs j w hj hk with ⟨rfl, rfl⟩ | ⟨h1, h2, h3, h4⟩
  · exact h.2.2 (_, _) List.mem_cons_self
  · refine h.2.2 (j, arn io w) (List.mem_cons_of_mem _ (List.mem_filter.mpr ⟨aAll_mem (hl.2.2 j w h2 hk), ?_⟩))
    simp only [arn_cat, Bool.and_eq_true, Bool.not_eq_true', beq_eq_false_iff_ne, ne_eq, Bool.and_eq_false_iff]
    refine ⟨h1, ?_⟩
    by_cases e : j + 1 = i
    · exact Or.inr (h3 e)
    · exact Or.inl e
theorem aLc.st2 {io : aM} {nL i : Nat} {v : Value} {lv lv' : List Value} {ls ls' : Array Slot} (hl : aLc io nL lv ls) (hv : v.category = 2) (hs : aStv i v lv lv') (h : lv_has ls' nL ((i, arn io v) :: (aAll ls).filter (fun q => !(q.1 == i) && (!(q.1 == i + 1) && !(q.1 + 1 == i && q.2.category == 2))))) : aLc io nL lv' ls' := by
  refine ⟨h.1, h.2.1, fun j w hj hk => ?_⟩
  rcases hs j w hj hk with ⟨rfl, rfl⟩ | ⟨h1, h2, h3, h4⟩
  · exact h.2.2 (_, _) List.mem_cons_self
  · refine h.2.2 (j, arn io w) (List.mem_cons_of_mem _ (List.mem_filter.mpr ⟨aAll_mem (hl.2.2 j w h2 hk), ?_⟩))
    simp only [arn_cat, Bool.and_eq_true, Bool.not_eq_true', beq_eq_false_iff_ne, ne_eq, Bool.and_eq_false_iff]
    refine ⟨h1, h4 hv, ?_⟩
    by_cases e : j + 1 = i
    · exact Or.inr (h3 e)
    · exact Or.inl e
