/-! new cells -/
def azr {α : Type} (f : Nat → Nat → α) (q : Nat) (z : α) : Nat → Nat → α := fun a b => if a = q then z else f a b
theorem azr_s {α : Type} (f : Nat → Nat → α) (q b : Nat) (z : α) : azr f q z q b = z := by simp [azr]
theorem azr_n {α : Type} {f : Nat → Nat → α} {q a b : Nat} {z : α} (h : a ≠ q) : azr f q z a b = f a b := by simp [azr, h]
theorem aHR.new {E : aE} {io : aM} {S : aS} {I : aI} {L : aL} {R : aR} {H H1 : Heap} {q : Nat} {x : (FieldType × Nat) ⊕ Nat} (h : aHR E io S I L R H) (hq : S q = none) (h9 : 3 ≤ q) (hz : E.2.2.1 ≤ H.size) (hk : ∀ a, a < H.size → H1[a]? = H[a]?) (hc : aCell E (au1 io q H.size) (azr I q 0) (azr L q 0) (azr R q none) x q H1) : aHR E (au1 io q H.size) (au1 S q (some x)) (azr I q 0) (azr L q 0) (azr R q none) H1 := by
  obtain ⟨h1, h2, h3, h4, h5, h6, h7⟩ := h
  have lt : ∀ r, S r ≠ none → io r < H.size := by
    intro r hr
    by_cases e : r < 3
    · exact Nat.lt_of_lt_of_le (h7 r hr e) hz
    · cases hs : S r with
      | none => exact absurd hs hr
      | some y => exact (h1 r y hs (by omega)).lt
  have nq : ∀ r, S r ≠ none → r ≠ q := fun r hr e => hr (by rw [e]; exact hq)
  refine ⟨fun r y hr h2' => ?_, fun a b ha hb hab => ?_, fun a ha h2' => ?_, fun a b r ha hr => ?_, ⟨by rw [au1_n (by omega)]; exact h5.1, by rw [au1_n (by omega)]; exact h5.2⟩, h6, fun a ha h2' => by rw [au1_n (show a ≠ q by omega)] at ha ⊢; exact h7 a ha h2'⟩
  · by_cases e : r = q
    · subst e; rw [au1_s] at hr; cases hr; exact hc
    · rw [au1_n e] at hr
      have hne : S r ≠ none := by rw [hr]; simp
      refine ((h1 r y hr h2').kept (hk _ (lt r hne))).congr (au1_n e).symm (fun _ => (azr_n e).symm) (fun _ => (azr_n e).symm) (fun _ => (azr_n e).symm) fun j r' hr' => ?_
      rw [azr_n e] at hr'
      exact (au1_n (nq r' (h4 r j r' hne hr'))).symm
  · by_cases ea : a = q
    · by_cases eb : b = q
      · exact Or.inl (by rw [ea, eb])
      · rw [ea, au1_s, au1_n eb] at hab
        rw [au1_n eb] at hb
        exact absurd hab.symm (Nat.ne_of_lt (lt b hb))
    · by_cases eb : b = q
      · rw [eb, au1_s, au1_n ea] at hab
        rw [au1_n ea] at ha
        exact absurd hab (Nat.ne_of_lt (lt a ha))
      · rw [au1_n ea, au1_n eb] at hab
        rw [au1_n ea] at ha
        rw [au1_n eb] at hb
        exact h2 a b ha hb hab
  · by_cases ea : a = q
    · rw [ea, au1_s]; exact hz
    · rw [au1_n ea] at ha ⊢
      exact h3 a ha h2'
  · by_cases ea : a = q
    · rw [ea, azr_s] at hr; cases hr
    · rw [au1_n ea] at ha
      rw [azr_n ea] at hr
      have h7 := h4 a b r ha hr
      rw [au1_n (nq r h7)]
      exact h7
theorem asv_new {io : aM} {ty : FieldType} {I : aI} {L : aL} {R : aR} {q b : Nat} (h : (match ty with | .float => false | .double => false | _ => true) = true) : defaultValue ty = asv io ty (azr I q 0) (azr L q 0) (azr R q none) q b := by
  cases ty <;> first | (simp only [asv, azr_s, arv]; rfl) | cases h
section AN
variable {p : Program} {l : Launch} {e : Env} {R : Room} {s : State} {m : MethodId} {args : Array Value} {below : List Frame} {meth : Method} {c : Code} {E : aE} {io0 : aM} {S0 : aS} {nL : Nat} {Q : State → Prop}
variable {own : String} {cc : ByteArray} {ret : Option FieldType} {pc nx : Nat} {lv st : List Value} {S : aS} {I : aI} {L : aL} {Rf : aR} {k n : Nat}
theorem aCx.z (hx : aCx p l s m args meth c own cc nL ret E) : E.2.2.1 ≤ s.heap.size := hx.2.2.2.2.2.2.1.2.2.2.2.2.2.2.2.2.2.1

theorem aG.new {q : Nat} {x : (FieldType × Nat) ⊕ Nat} {io : aM} {H H1 : Heap} {locs : List Loc} {ls : Array Slot} (hz : E.2.2.1 ≤ s.heap.size) (kk : aG p l e R s m args below meth c E io0 S0 nL Q nx lv (.ref q :: st) (au1 S q (some x)) (azr I q 0) (azr L q 0) (azr Rf q none) (k) (n)) (hq : S q = none) (h9 : 3 ≤ q) (h1 : aHR E io S I L Rf H) (h2 : ∀ q, S0 q ≠ none → io q = io0 q ∧ S q = S0 q) (h3 : aOk S lv) (h4 : aOk S st) (h5 : va_S (aW E) s.heap H locs) (h6 : aLc io nL lv ls) (hs : H.size ≤ H1.size) (hk : ∀ a, a < H.size → H1[a]? = H[a]?) (hc : aCell E (au1 io q H.size) (azr I q 0) (azr L q 0) (azr Rf q none) x q H1) : W p l e R s m args below meth c H1 locs k n Q (F0 m nx ls (.ref H.size :: st.map (arn io))) := by
  have nq : ∀ r, S r ≠ none → r ≠ q := fun r hr e => hr (by rw [e]; exact hq)
  have hio : ∀ r, S r ≠ none → au1 io q H.size r = io r := fun r hr => au1_n (nq r hr)
  have hm : ∀ r, S r ≠ none → au1 S q (some x) r ≠ none := fun r hr => by rw [au1_n (nq r hr)]; exact hr
  have K := kk (au1 io q H.size) H1 locs ls (h1.new hq h9 (Nat.le_trans hz h5.1) hk hc) (fun r hr => by
    have h7 := h2 r hr
    have h8 : S r ≠ none := by rw [h7.2]; exact hr
    exact ⟨(hio r h8).trans h7.1, (au1_n (nq r h8)).trans h7.2⟩) (h3.mono hm) ((h4.mono hm).r (by rw [au1_s]; simp)) ⟨Nat.le_trans h5.1 hs, fun a ha hn => (hk a (Nat.lt_of_lt_of_le ha h5.1)).trans (h5.2.1 a ha hn), h5.2.2⟩ (h6.congr h3 hio)
  have e1 : (Value.ref q :: st).map (arn (au1 io q H.size)) = .ref H.size :: st.map (arn io) := by
    rw [List.map_cons, arn_congr h4 hio]
    exact congrArg (fun z => Value.ref z :: _) (au1_s io q H.size)
  rw [e1] at K
  exact K

theorem g_newarrayint (hx : aCx p l s m args meth c own cc nL ret E) {i : Int32} {N q k' n' : Nat} (d : decode cc pc = .ok (.newarray .int, 2)) (hn : pc + 2 = nx) (hw : Cond.arrayClass .int ∈ aBIG) (hi : ¬ i < 0) (hN : i.toNatClampNeg = N) (hb : N * 8 ≤ 536870912) (hq : S q = none) (h9 : 3 ≤ q) (hk : k + 1 = k') (hs : n + N = n') (hc : k' ≤ R.cells) (hsl : n' ≤ R.slots) (kk : aG p l e R s m args below meth c E io0 S0 nL Q nx lv (.ref q :: st) (au1 S q (some (.inl (.int, N)))) (azr I q 0) (azr L q 0) (azr Rf q none) (k') (n')) : aG p l e R s m args below meth c E io0 S0 nL Q pc lv (.int i :: st) (S) (I) (L) (Rf) (k) (n) := by
  subst hn; subst hk; subst hs
  intro io H locs ls h1 h2 h3 h4 h5 h6
  refine va_newaK hx.1 hx.2.1 (atype := .int) (hx.W hw) rfl d rfl hi hN (Nat.le_trans (Nat.mul_le_mul_left N (by decide)) hb) hc hsl rfl fun H1 cA e1 z1 o1 _ hf => ?_
  have hcA : cA = E.2.1 .int := Option.some.inj (hf.symm.trans (hx.arr (ty := .int) ⟨0, rfl⟩).2)
  subst hcA
  exact aG.new hx.z kk hq h9 h1 h2 h3 h4.tl h5 h6 (by omega) o1 (by
    show H1[au1 io q H.size q]? = _
    rw [au1_s]
    exact e1.trans (congrArg some (congrArg (arrV _ _) (funext fun b => asv_new (ty := .int) rfl))))

theorem g_newarraylong (hx : aCx p l s m args meth c own cc nL ret E) {i : Int32} {N q k' n' : Nat} (d : decode cc pc = .ok (.newarray .long, 2)) (hn : pc + 2 = nx) (hw : Cond.arrayClass .long ∈ aBIG) (hi : ¬ i < 0) (hN : i.toNatClampNeg = N) (hb : N * 8 ≤ 536870912) (hq : S q = none) (h9 : 3 ≤ q) (hk : k + 1 = k') (hs : n + N = n') (hc : k' ≤ R.cells) (hsl : n' ≤ R.slots) (kk : aG p l e R s m args below meth c E io0 S0 nL Q nx lv (.ref q :: st) (au1 S q (some (.inl (.long, N)))) (azr I q 0) (azr L q 0) (azr Rf q none) (k') (n')) : aG p l e R s m args below meth c E io0 S0 nL Q pc lv (.int i :: st) (S) (I) (L) (Rf) (k) (n) := by
  subst hn; subst hk; subst hs
  intro io H locs ls h1 h2 h3 h4 h5 h6
  refine va_newaK hx.1 hx.2.1 (atype := .long) (hx.W hw) rfl d rfl hi hN (Nat.le_trans (Nat.mul_le_mul_left N (by decide)) hb) hc hsl rfl fun H1 cA e1 z1 o1 _ hf => ?_
  have hcA : cA = E.2.1 .long := Option.some.inj (hf.symm.trans (hx.arr (ty := .long) ⟨1, rfl⟩).2)
  subst hcA
  exact aG.new hx.z kk hq h9 h1 h2 h3 h4.tl h5 h6 (by omega) o1 (by
    show H1[au1 io q H.size q]? = _
    rw [au1_s]
    exact e1.trans (congrArg some (congrArg (arrV _ _) (funext fun b => asv_new (ty := .long) rfl))))

theorem g_newarrayboolean (hx : aCx p l s m args meth c own cc nL ret E) {i : Int32} {N q k' n' : Nat} (d : decode cc pc = .ok (.newarray .boolean, 2)) (hn : pc + 2 = nx) (hw : Cond.arrayClass .boolean ∈ aBIG) (hi : ¬ i < 0) (hN : i.toNatClampNeg = N) (hb : N * 8 ≤ 536870912) (hq : S q = none) (h9 : 3 ≤ q) (hk : k + 1 = k') (hs : n + N = n') (hc : k' ≤ R.cells) (hsl : n' ≤ R.slots) (kk : aG p l e R s m args below meth c E io0 S0 nL Q nx lv (.ref q :: st) (au1 S q (some (.inl (.boolean, N)))) (azr I q 0) (azr L q 0) (azr Rf q none) (k') (n')) : aG p l e R s m args below meth c E io0 S0 nL Q pc lv (.int i :: st) (S) (I) (L) (Rf) (k) (n) := by
  subst hn; subst hk; subst hs
  intro io H locs ls h1 h2 h3 h4 h5 h6
  refine va_newaK hx.1 hx.2.1 (atype := .boolean) (hx.W hw) rfl d rfl hi hN (Nat.le_trans (Nat.mul_le_mul_left N (by decide)) hb) hc hsl rfl fun H1 cA e1 z1 o1 _ hf => ?_
  have hcA : cA = E.2.1 .boolean := Option.some.inj (hf.symm.trans (hx.arr (ty := .boolean) ⟨2, rfl⟩).2)
  subst hcA
  exact aG.new hx.z kk hq h9 h1 h2 h3 h4.tl h5 h6 (by omega) o1 (by
    show H1[au1 io q H.size q]? = _
    rw [au1_s]
    exact e1.trans (congrArg some (congrArg (arrV _ _) (funext fun b => asv_new (ty := .boolean) rfl))))

theorem g_anewarrayStar (hx : aCx p l s m args meth c own cc nL ret E) {i : Int32} {ix N q k' n' : Nat} (d : decode cc pc = .ok (.anewarray ix, 3)) (hn : pc + 3 = nx) (hw : Cond.classLink own ix "AsteroTone$Star" ∈ aBIG) (hi : ¬ i < 0) (hN : i.toNatClampNeg = N) (hb : N * 4 ≤ 536870912) (hq : S q = none) (h9 : 3 ≤ q) (hk : k + 1 = k') (hs : n + N = n') (hc : k' ≤ R.cells) (hsl : n' ≤ R.slots) (kk : aG p l e R s m args below meth c E io0 S0 nL Q nx lv (.ref q :: st) (au1 S q (some (.inl (.object "AsteroTone$Star", N)))) (azr I q 0) (azr L q 0) (azr Rf q none) (k') (n')) : aG p l e R s m args below meth c E io0 S0 nL Q pc lv (.int i :: st) (S) (I) (L) (Rf) (k) (n) := by
  subst hn; subst hk; subst hs; subst hN
  intro io H locs ls h1 h2 h3 h4 h5 h6
  refine W.anew hx.1 hx.2.1 hx.2.2.2.1 (hx.W hw) (va_AO.use hx.2.2.2.2.2.2.1.2.2.1) rfl d rfl hi hb hc hsl fun cA kA comp f1 f2 f3 f4 => ?_
  obtain ⟨kA', comp', k1, k2, k3, k4⟩ := (hx.arr (ty := .object "AsteroTone$Star") ⟨3, rfl⟩).2
  have hcA : cA = E.2.1 (.object "AsteroTone$Star") := Option.some.inj (f1.symm.trans k4)
  subst hcA
  generalize hH1 : H.push ({ cls := E.2.1 (.object "AsteroTone$Star"), slots := Array.replicate i.toNatClampNeg .null, vm := .none } : Cell) = H1
  have z1 : H1.size = H.size + 1 := by rw [← hH1, Array.size_push]
  have e1 : H1[H.size]? = some (arrV (E.2.1 (.object "AsteroTone$Star")) i.toNatClampNeg (fun _ => .null)) := by rw [← hH1, Array.getElem?_push_size, ← arrV_new]
  have o1 : ∀ q : Nat, q < H.size → H1[q]? = H[q]? := fun q hq => by rw [← hH1, Array.getElem?_push, if_neg (Nat.ne_of_lt hq)]
  exact aG.new hx.z kk hq h9 h1 h2 h3 h4.tl h5 h6 (by omega) o1 (by
    show H1[au1 io q H.size q]? = _
    rw [au1_s]
    exact e1.trans (congrArg some (congrArg (arrV _ _) (funext fun b => asv_new (ty := .object "AsteroTone$Star") rfl))))

theorem g_anewarrayClaim (hx : aCx p l s m args meth c own cc nL ret E) {i : Int32} {ix N q k' n' : Nat} (d : decode cc pc = .ok (.anewarray ix, 3)) (hn : pc + 3 = nx) (hw : Cond.classLink own ix "AsteroTone$Claim" ∈ aBIG) (hi : ¬ i < 0) (hN : i.toNatClampNeg = N) (hb : N * 4 ≤ 536870912) (hq : S q = none) (h9 : 3 ≤ q) (hk : k + 1 = k') (hs : n + N = n') (hc : k' ≤ R.cells) (hsl : n' ≤ R.slots) (kk : aG p l e R s m args below meth c E io0 S0 nL Q nx lv (.ref q :: st) (au1 S q (some (.inl (.object "AsteroTone$Claim", N)))) (azr I q 0) (azr L q 0) (azr Rf q none) (k') (n')) : aG p l e R s m args below meth c E io0 S0 nL Q pc lv (.int i :: st) (S) (I) (L) (Rf) (k) (n) := by
  subst hn; subst hk; subst hs; subst hN
  intro io H locs ls h1 h2 h3 h4 h5 h6
  refine W.anew hx.1 hx.2.1 hx.2.2.2.1 (hx.W hw) (va_AO.use hx.2.2.2.2.2.2.1.2.2.2.1) rfl d rfl hi hb hc hsl fun cA kA comp f1 f2 f3 f4 => ?_
  obtain ⟨kA', comp', k1, k2, k3, k4⟩ := (hx.arr (ty := .object "AsteroTone$Claim") ⟨4, rfl⟩).2
  have hcA : cA = E.2.1 (.object "AsteroTone$Claim") := Option.some.inj (f1.symm.trans k4)
  subst hcA
  generalize hH1 : H.push ({ cls := E.2.1 (.object "AsteroTone$Claim"), slots := Array.replicate i.toNatClampNeg .null, vm := .none } : Cell) = H1
  have z1 : H1.size = H.size + 1 := by rw [← hH1, Array.size_push]
  have e1 : H1[H.size]? = some (arrV (E.2.1 (.object "AsteroTone$Claim")) i.toNatClampNeg (fun _ => .null)) := by rw [← hH1, Array.getElem?_push_size, ← arrV_new]
  have o1 : ∀ q : Nat, q < H.size → H1[q]? = H[q]? := fun q hq => by rw [← hH1, Array.getElem?_push, if_neg (Nat.ne_of_lt hq)]
  exact aG.new hx.z kk hq h9 h1 h2 h3 h4.tl h5 h6 (by omega) o1 (by
    show H1[au1 io q H.size q]? = _
    rw [au1_s]
    exact e1.trans (congrArg some (congrArg (arrV _ _) (funext fun b => asv_new (ty := .object "AsteroTone$Claim") rfl))))

theorem g_new (hx : aCx p l s m args meth c own cc nL ret E) {ci ix q k' n' : Nat} {r : vw_C} (d : decode cc pc = .ok (.new ix, 3)) (hn : pc + 3 = nx) (hr : aCl[ci]? = some r) (hw1 : Cond.classLink own ix r.1 ∈ aBIG) (hw2 : Cond.instantiable r.1 r.2.2 ∈ aBIG) (hw3 : Cond.initialized r.1 ∈ aBIG) (hf : ∀ b, b < r.2.2 → (match atyT ci b with | .float => false | .double => false | _ => true) = true) (hq : S q = none) (h9 : 3 ≤ q) (hk : k + 1 = k') (hs : n + r.2.2 = n') (hc : k' ≤ R.cells) (hsl : n' ≤ R.slots) (kk : aG p l e R s m args below meth c E io0 S0 nL Q nx lv (.ref q :: st) (au1 S q (some (.inr ci))) (azr I q 0) (azr L q 0) (azr Rf q none) (k') (n')) : aG p l e R s m args below meth c E io0 S0 nL Q pc lv (st) (S) (I) (L) (Rf) (k) (n) := by
  subst hn; subst hk; subst hs
  intro io H locs ls h1 h2 h3 h4 h5 h6
  have hKn := hx.K.1 ci _ hr
  refine W.newcK hx.1 hx.2.1 hx.2.2.2.1 (hx.W hw1) (hx.W hw2) (hx.W hw3) rfl d hc hsl hKn.2.1 rfl fun H1 kC hkC e1 z1 o1 => ?_
  refine aG.new hx.z kk hq h9 h1 h2 h3 h4 h5 h6 (by omega) o1 ⟨r, hr, ?_⟩
  rw [au1_s]
  exact (u_born (atyT ci) hx.2.2.2.2.1 (abig_u ci r hr) hKn hkC e1 (acl_ty ci r hr)).to fun b hb => asv_new (hf b hb)
theorem g_objInit (hx : aCx p l s m args meth c own cc nL ret E) {ix q : Nat} (d : decode cc pc = .ok (.invokespecial ix, 3)) (hn : pc + 3 = nx) (hw1 : Cond.methodLink own ix objectInit ∈ aBIG) (hw2 : Cond.instanceMethod objectInit ∈ aBIG) (hw3 : Cond.code objectInit ⟨#[0xb1]⟩ 1 none ∈ aBIG) (hf : 1 ≤ R.frames) (hl : (st.map fun v => v.category).sum + 12 ≤ R.locals) (kk : aG p l e R s m args below meth c E io0 S0 nL Q nx lv (st) (S) (I) (L) (Rf) (k) (n)) : aG p l e R s m args below meth c E io0 S0 nL Q pc lv (.ref q :: st) (S) (I) (L) (Rf) (k) (n) := by
  subst hn
  intro io H locs ls h1 h2 h3 h4 h5 h6
  have hcat : ((st.map (arn io)).map fun v => v.category).sum = (st.map fun v => v.category).sum := by
    rw [List.map_map]; congr 1; exact List.map_congr_left fun v _ => arn_cat io v
  refine W.objInit hx.1 hx.2.1 hx.2.2.2.1 (hx.W hw1) (hx.W hw2) (hx.W hw3) rfl (by rw [hx.2.2.1]; exact h6.1) rfl d hf ?_ (kk io H locs ls h1 h2 h3 h4.tl h5 h6)
  show 2 * 0 + _ + 12 ≤ _
  rw [hcat]; omega
theorem aG.widen {k' n' : Nat} (h1 : k ≤ k') (h2 : n ≤ n') (kk : aG p l e R s m args below meth c E io0 S0 nL Q pc lv (st) (S) (I) (L) (Rf) (k') (n')) : aG p l e R s m args below meth c E io0 S0 nL Q pc lv (st) (S) (I) (L) (Rf) (k) (n) := fun io H locs ls a1 a2 a3 a4 a5 a6 => W.widen h1 h2 (kk io H locs ls a1 a2 a3 a4 a5 a6)
end AN
/-! contracts -/
abbrev aK : Type := Option Value → aS → aI → aL → aR → Prop
abbrev aX : Type := String → aS → aI → aL → aR → Prop
def aPc (E : aE) (io0 : aM) (S : aS) (I : aI) (L : aL) (R : aR) (av : List Value) : Array Value → State → Prop := fun a U => a = (av.map (arn io0)).toArray ∧ aHR E io0 S I L R U.heap ∧ aEv E U ∧ aOk S av
def aQc (E : aE) (io0 : aM) (S0 : aS) (Kr : aK) : Array Value → State → Outcome → State → Prop := fun _ st o t =>
  (∃ (io : aM) (S : aS) (I : aI) (L : aL) (R : aR) (v : Option Value), o = .returned (v.map (arn io)) ∧ Kr v S I L R ∧ aOk S v.toList ∧ aHR E io S I L R t.heap ∧ ∀ q, S0 q ≠ none → io q = io0 q ∧ S q = S0 q) ∧ va_F (aW E) st t
def aXC (E : aE) (io0 : aM) (S0 : aS) (Kx : aX) : String → State → State → Prop := fun X st t =>
  (∃ (io : aM) (S : aS) (I : aI) (L : aL) (R : aR), Kx X S I L R ∧ aHR E io S I L R t.heap ∧ ∀ q, S0 q ≠ none → io q = io0 q ∧ S q = S0 q) ∧ va_F (aW E) st t
def aMet (l : Launch) (E : aE) (y : MethodName) (cc : ByteArray) (nL : Nat) (ret : Option FieldType) (rm : Room) (av : List Value) (S : aS) (I : aI) (L : aL) (R : aR) (Kr : aK) (Kx : aX) : Prop :=
  ∀ io0 : aM, vx_Met l y (Cond.code y cc nL ret :: aBIG) rm (aPc E io0 S I L R av) (aQc E io0 S Kr) (aXC E io0 S Kx) rm.cells rm.slots (aW E)
abbrev aNoX : aX := fun _ _ _ _ _ => False
theorem aPc.blind {E : aE} {io0 : aM} {S : aS} {I : aI} {L : aL} {R : aR} {av : List Value} : FrameBlind (aPc E io0 S I L R av) := fun _ U g mk h => ⟨h.1, h.2.1, aEv.same (u := U) (U := U.calling g mk _) rfl rfl h.2.2.1, h.2.2.2⟩
def aIni : List Value → List Value
  | [] => []
  | v :: t => if v.category = 2 then v :: aU :: aIni t else v :: aIni t
theorem aIni_at {io : aM} : ∀ (av : List Value) (o i : Nat) (v : Value) (z : Nat), (aIni av ++ List.replicate z aU)[i]? = some v → aKn v = true → (o + i, arn io v) ∈ lv_args o (av.map (arn io))
  | [], o, i, v, z, h, hk => by
    rw [aIni, List.nil_append, List.getElem?_replicate] at h
    split at h
    · cases h; cases hk
    · cases h
  | w :: t, o, i, v, z, h, hk => by
    rw [aIni] at h
    simp only [List.map_cons, lv_args, arn_cat]
    split at h
    · rename_i hc
      rw [if_pos hc]
      match i, h with
      | 0, h => cases h; exact List.mem_cons_self
      | 1, h => cases h; cases hk
      | i + 2, h =>
        have := aIni_at (io := io) t (o + 2) i v z (by simpa using h) hk
        rw [show o + (i + 2) = o + 2 + i by omega]
        exact List.mem_cons_of_mem _ this
    · rename_i hc
      rw [if_neg hc]
      match i, h with
      | 0, h => cases h; exact List.mem_cons_self
      | i + 1, h =>
        have := aIni_at (io := io) t (o + 1) i v z (by simpa using h) hk
        rw [show o + (i + 1) = o + 1 + i by omega]
        exact List.mem_cons_of_mem _ this
theorem aIni_ok {S : aS} : ∀ (av : List Value) (z : Nat), aOk S av → aOk S (aIni av ++ List.replicate z aU)
  | [], z, _ => fun v hv q e => by
    rw [aIni, List.nil_append] at hv
    rw [List.eq_of_mem_replicate hv] at e
    cases e
  | w :: t, z, h => by
    have ih := aIni_ok t z h.tl
    have hw : ∀ q, w = .ref q → S q ≠ none := h w List.mem_cons_self
    rw [aIni]
    split
    · exact aOk.cons hw (aOk.u ih)
    · exact aOk.cons hw ih
theorem lg_sl_len : ∀ (av : List Value) (io : aM), (lg_sl (av.map (arn io))).length = (aIni av).length
  | [], _ => rfl
  | w :: t, io => by
    have ih := lg_sl_len t io
    have ec : (arn io w).category = w.category := arn_cat io w
    by_cases hc : w.category = 2
    · have e : lg_sl ((w :: t).map (arn io)) = [.val (arn io w), .second] ++ lg_sl (t.map (arn io)) := by simp [lg_sl, ec, hc]
      rw [e, aIni, if_pos hc, List.length_append, ih]
      simp only [List.length_cons, List.length_nil]; omega
    · have e : lg_sl ((w :: t).map (arn io)) = [.val (arn io w)] ++ lg_sl (t.map (arn io)) := by simp [lg_sl, ec, hc]
      rw [e, aIni, if_neg hc, List.length_append, ih]
      simp only [List.length_cons, List.length_nil]; omega
section AMT
variable {l : Launch} {E : aE}
theorem aMet.of {y : MethodName} {cc : ByteArray} {nL : Nat} {ret : Option FieldType} {rm : Room} {av lv0 : List Value} {z : Nat} {S : aS} {I : aI} {L : aL} {Rf : aR} {Kr : aK} {Kx : aX} (hy : plainName y.cls = true) (hst : l.stackTraces = false) (h0 : aIni av ++ List.replicate z aU = lv0) (hlen : (aIni av).length ≤ nL)
    (body : ∀ (p : Program) (e : Env) (s : State) (m : MethodId) (args : Array Value) (below : List Frame) (meth : Method) (c : Code) (io0 : aM), aCx p l s m args meth c y.cls cc nL ret E → meth.name = y.name → (∀ x ∈ c.exceptionTable.toList, False) →
      aG p l e rm s m args below meth c E io0 S nL (vx_MQ below (aQc E io0 S Kr) (aXC E io0 S Kx) args s rm.cells rm.slots (aW E)) 0 lv0 [] S I L Rf 0 0) : aMet l E y cc nL ret rm av S I L Rf Kr Kx := by
  intro io0
  refine vx_ofW (ws' := aBIG) hy rfl ?_
  intro p e s m args below meth c s₁ B hml hno hv
  obtain ⟨rfl, hHR, hEv, hok⟩ := hv
  have hts := atoms_spec (ws := Cond.code y cc nL ret :: aBIG) B.pre
  have hl := lv_entry (av.map (arn io0)) (n := nL) (by rw [lg_sl_len]; exact hlen)
  rw [lg_entry_eq]
  subst h0
  refine body p e s m _ below meth c io0 ⟨B.exec, B.bytes, hml, findClass_of_methodNamed B.named, fun w hw => hts w (List.mem_cons_of_mem _ hw), B.notSynchronized, hEv, hst, B.returns⟩ (name_of_methodNamed B.named B.method).1 hno io0 s.heap [] _ hHR (fun _ _ => ⟨rfl, rfl⟩) (aIni_ok av z hok) aOk.nil va_S.rf ⟨hl.1, hl.2.1, fun i v hi hk => ?_⟩
  have h9 := aIni_at (io := io0) av 0 i v z hi hk
  rw [Nat.zero_add] at h9
  exact hl.2.2 _ h9
end AMT

