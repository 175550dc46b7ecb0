/-! what holds at the law's entry -/
theorem st_flags {l : Launch} (h : l.flags = flags0) : l.stackTraces = false := by
  unfold Launch.stackTraces
  rw [h]
  decide +kernel
theorem eq_int {t : Term} {v : Int32} {args : Array Value} {s : State} (h : (Cond.eq t (.int v)).before args s = true) : t.eval args s none [] s = some (.int v) := by
  simp only [Cond.before, Cond.holds, Cond.value] at h
  cases e : t.eval args s none [] s with
  | none => simp [e, Term.eval] at h
  | some x => cases x <;> simp_all [Term.eval]
theorem len_inv {t : Term} {w : Int32} {args : Array Value} {s : State} (h : (Term.length t).eval args s none [] s = some (.int w)) : ∃ (a : Nat) (cell : Cell), t.eval args s none [] s = some (.ref a) ∧ s.arrayAt? a = some cell ∧ cell.slots.size < 2 ^ 31 ∧ cell.slots.size.toInt32 = w := by
  simp only [Term.eval] at h
  cases e : t.eval args s none [] s with
  | none => simp [e] at h
  | some x =>
    cases x with
    | ref a =>
      cases e2 : s.arrayAt? a with
      | none => simp [e, e2] at h
      | some cell =>
        by_cases hs : cell.slots.size < 2 ^ 31
        · simp [e, e2, hs] at h
          exact ⟨a, cell, rfl, e2, hs, h⟩
        · simp [e, e2, hs] at h
    | _ => simp [e] at h
theorem elem_inv {t : Term} {j v : Int32} {args : Array Value} {s : State} {a : Nat} {cell : Cell} (ht : t.eval args s none [] s = some (.ref a)) (hc : s.arrayAt? a = some cell) (hj : ¬ j < 0) (h : (Term.elem t (.int j)).eval args s none [] s = some (.int v)) : cell.slots[j.toNatClampNeg]? = some (.int v) := by
  simp only [Term.eval, ht, hc] at h
  simp [hj] at h
  rw [hc] at h
  exact h
theorem tab_X {t : Term} {N : Nat} {f : Nat → Int32} {args : Array Value} {s : State} (hN : N < 2 ^ 31) (ha : (Cond.arrayOf t .int).before args s = true) (hl : (Cond.eq (.length t) (.int (nI N))).before args s = true) (he : ∀ j, j < N → (Cond.eq (.elem t (.int (nI j))) (.int (f j))).before args s = true) : ∃ a : Nat, t.eval args s none [] s = some (.ref a) ∧ a < s.heap.size ∧ va_X a N f s s.heap := by
  obtain ⟨a, cell, h1, h2, h3, h4⟩ := len_inv (eq_int hl)
  obtain ⟨g1, g2, g3, -⟩ := State.arrayAt?_spec h2
  obtain ⟨k1, k2⟩ := Cond.arrayOf_spec ha h1 g1
  have hs : cell.slots.size = N := by
    have : Int32.ofNat cell.slots.size = nI N := h4
    exact nI_inj h3 hN this
  refine ⟨a, h1, (Array.getElem?_eq_some_iff.mp g1).1, cell, g1, k1, k2, hs, fun j hj => ?_⟩
  have h5 := elem_inv h1 h2 (nI_pos (by omega)) (eq_int (he j hj))
  rw [nI_clamp (by omega)] at h5
  exact h5
abbrev tCos : Term := .static "AsteroTone" "COSINES" "[I"
theorem cos_words : ∀ j : Fin 64, Cond.eq (.elem tCos (.int (nI j.val))) (.int (acos j.val)) ∈ flatC (Jvm.Cond.and given_1 narrow_1) := by decide +kernel
theorem str_of {own tx : String} {k : Nat} {args : Array Value} {s : State} (h : (Cond.stringRef own k tx).before args s = true) : ∃ sa, vk_R own k tx sa s := by
  have h0 := h
  simp only [Cond.before, Cond.holds, Cond.value] at h
  cases hc : s.vm.findClass own with
  | none => simp [hc] at h
  | some c =>
    cases hr : s.resolvedAt? own k with
    | none => simp [hc, hr] at h
    | some r =>
      cases r with
      | string a =>
        refine ⟨a, vk_R.of h0 ?_⟩
        unfold State.resolvedAt? at hr
        simp only [Term.eval]
        cases hk : s.vm.classes[c]? with
        | none => simp [hc, hk] at hr
        | some kc =>
          simp [hc, hk] at hr
          simp [hc, hk, hr]
      | _ => simp [hc, hr] at h
/-- the classes' places -/
theorem cls_known {s : State} {args : Array Value} (hts : ∀ w ∈ lw_tbl, w.before args s = true) : ∃ (dC : Nat → ClassId) (dI : Nat → Nat → Nat), ∀ (k : Nat) (q : vw_C), aCl[k]? = some q → u_Kn s q.1 q.2.1 q.2.2 (dC k) (dI k) := by
  have hb : ∀ w ∈ aBIG, w.before args s = true := fun w hw => hts w (List.mem_filter.mp hw).1
  obtain ⟨c0, i0, h0⟩ := u_known (C := RX0) (T := TX0) (N := 9) (n := 9) hb abig_u0 (hb _ nw_X3_28.2.1)
  obtain ⟨c1, i1, h1⟩ := u_known (C := RX1) (T := TX1) (N := 5) (n := 5) hb abig_u1 (hb _ nw_X3_34.2.1)
  obtain ⟨c2, i2, h2⟩ := u_known (C := RX2) (T := TX2) (N := 14) (n := 14) hb abig_u2 (hb _ nw_X3_9.2.1)
  obtain ⟨c3, i3, h3⟩ := u_known (C := RX3) (T := TX3) (N := 8) (n := 8) hb abig_u3 (hb _ nw_L_11.2.1)
  refine ⟨fun k => match k with | 0 => c0 | 1 => c1 | 2 => c2 | _ => c3, fun k => match k with | 0 => i0 | 1 => i1 | 2 => i2 | _ => i3, ?_⟩
  intro k q hq
  match k, hq with
  | 0, hq => cases hq; exact h0
  | 1, hq => cases hq; exact h1
  | 2, hq => cases hq; exact h2
  | 3, hq => cases hq; exact h3
  | k + 4, hq => simp at hq
theorem arr_prim {ty : FieldType} {s : State} {args : Array Value} (h : (Cond.arrayClass ty).before args s = true) (hp : ∀ U cA, va_RA U cA ty = (U.vm.findClass ("[" ++ ty.toString) = some cA)) : ∃ cA : ClassId, ArrOfT s cA ty ∧ va_RA s cA ty := by
  obtain ⟨c, k, comp, h1, h2, h3⟩ := Cond.arrayClass_spec h
  exact ⟨c, fun n z => ⟨fun _ h => (by cases h), k, h2, comp, h3⟩, by rw [hp]; exact h1⟩
theorem arr_obj {C : String} {s : State} {args : Array Value} (h : (Cond.arrayOver (.object C)).before args s = true) : ∃ cA : ClassId, ArrOfT s cA (.object C) ∧ va_RA s cA (.object C) := by
  obtain ⟨comp, c, k, h1, h2, h3, h4, h5⟩ := Cond.arrayOver_spec h
  exact ⟨c, fun n z => ⟨fun _ h => (by cases h), k, h3, comp, h4⟩, k, comp, h3, h4, h1, h5⟩
theorem ao_star : Cond.arrayOver (.object "AsteroTone$Star") ∈ lw_tbl := List.mem_of_getElem? (i := 53) (by decide +kernel)
theorem ao_claim : Cond.arrayOver (.object "AsteroTone$Claim") ∈ lw_tbl := List.mem_of_getElem? (i := 120) (by decide +kernel)
theorem ac_z9 : Cond.arrayClass .boolean ∈ lw_tbl := List.mem_of_getElem? (i := 144) (by decide +kernel)
theorem ls_cos : Cond.laysStatic "AsteroTone" "COSINES" "[I" ∈ lw_tbl := List.mem_of_getElem? (i := 404) (by decide +kernel)
theorem ls_un : Cond.laysStatic Bundle.tN "UNASSIGNED_STACK" Bundle.steD ∈ lw_tbl := List.mem_of_getElem? (i := 215) (by decide +kernel)
theorem ls_su : Cond.laysStatic Bundle.tN "SUPPRESSED_SENTINEL" Bundle.listD ∈ lw_tbl := List.mem_of_getElem? (i := 217) (by decide +kernel)
theorem in_ast : Cond.initialized "AsteroTone" ∈ lw_tbl := List.mem_of_getElem? (i := 28) (by decide +kernel)
theorem in_thr : Cond.initialized Bundle.tN ∈ lw_tbl := List.mem_of_getElem? (i := 32) (by decide +kernel)
theorem nr_un : Cond.isRef (.static Bundle.tN "UNASSIGNED_STACK" Bundle.steD) ∈ flatC (Jvm.Cond.and given_1 narrow_1) := by decide +kernel
theorem nr_su : Cond.isRef (.static Bundle.tN "SUPPRESSED_SENTINEL" Bundle.listD) ∈ flatC (Jvm.Cond.and given_1 narrow_1) := by decide +kernel
theorem nr_nc : ∀ q ∈ aNcs, Cond.not (.castable q.1 q.2) ∈ flatC (Jvm.Cond.and given_1 narrow_1) := by decide +kernel
theorem nr_ca : Cond.arrayOf tCos .int ∈ flatC (Jvm.Cond.and given_1 narrow_1) := by decide +kernel
theorem nr_cl : Cond.eq (.length tCos) (.int (nI 64)) ∈ flatC (Jvm.Cond.and given_1 narrow_1) := by decide +kernel
/-- the surroundings -/
theorem start_env {s : State} {args : Array Value} {b N : Nat} {xs : Nat → Int32} (hX : va_X b N xs s s.heap) (hbl : b < s.heap.size) (hts : ∀ w ∈ lw_tbl, w.before args s = true) (hgv : (Jvm.Cond.and given_1 narrow_1).before args s = true) : ∃ E : aE, aEv E s ∧ E.2.2.1 = s.heap.size ∧ aTb E < s.heap.size ∧ aSa E = b ∧ aSn E = N := by
  have hs := flat_of_before _ hgv
  have hb : ∀ w ∈ aBIG, w.before args s = true := fun w hw => hts w (List.mem_filter.mp hw).1
  obtain ⟨dC, dI, hK⟩ := cls_known hts
  obtain ⟨ca, e1, e2, e3⟩ := tab_X (t := tCos) (N := 64) (f := acos) (by decide) (hs _ nr_ca) (hs _ nr_cl) (fun j hj => hs _ (cos_words ⟨j, hj⟩))
  obtain ⟨ci, i1, i2⟩ := arr_prim (ty := .int) (hb _ ac_i) (fun _ _ => rfl)
  obtain ⟨cl, l1, l2⟩ := arr_prim (ty := .long) (hb _ ac_l) (fun _ _ => rfl)
  obtain ⟨cz, z1, z2⟩ := arr_prim (ty := .boolean) (hts _ ac_z9) (fun _ _ => rfl)
  obtain ⟨cs, s1, s2⟩ := arr_obj (hts _ ao_star)
  obtain ⟨cc, c1, c2⟩ := arr_obj (hts _ ao_claim)
  refine ⟨((dC, dI), (fun ty => match ty with | .int => ci | .long => cl | .boolean => cz | .object n => if n = "AsteroTone$Star" then cs else cc | _ => cc), s.heap.size, ca, b, N, xs), ?_, rfl, e2, rfl, rfl⟩
  have hA : ∀ a : Nat, a < s.heap.size → ¬ (s.heap.size ≤ a) := fun a h => Nat.not_le.mpr h
  refine ⟨⟨hK, fun k q hq => ?_⟩, fun w hw hk => va_Nw.of (aNk_ot hk) (hts w hw), va_AO.of (hts _ ao_star), va_AO.of (hts _ ao_claim), vx_Zqof (hts _ ls_un) (hts _ in_thr) (hs _ nr_un) hA, vx_Zqof (hts _ ls_su) (hts _ in_thr) (hs _ nr_su) hA, fun own k tx hm => str_of (hts _ hm), va_Zref (hts _ ls_cos) (hts _ in_ast) e1 hA, ⟨e3, hX, hbl⟩, e2, Nat.le_refl _, fun q hq => va_Nc.of (hs _ (nr_nc q hq))⟩
  match k, hq with
  | 0, hq => cases hq; exact ⟨i1, i2⟩
  | 1, hq => cases hq; exact ⟨l1, l2⟩
  | 2, hq => cases hq; exact ⟨z1, z2⟩
  | 3, hq => cases hq; exact ⟨s1, s2⟩
  | 4, hq => cases hq; exact ⟨c1, c2⟩
  | k + 5, hq => simp [aTys] at hq
