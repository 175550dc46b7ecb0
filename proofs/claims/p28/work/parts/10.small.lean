/-! where things lie -/
def xT : Nat → Option ((FieldType × Nat) ⊕ Nat) := fun j => match j with
  | 0 => some (.inr 3)
  | 1 => some (.inl (.object "AsteroTone$Star", 6))
  | 2 => some (.inl (.boolean, 4))
  | 3 => some (.inl (.object "AsteroTone$Claim", 40))
  | 4 => some (.inr 1)
  | 5 => some (.inl (.int, 256))
  | 6 => some (.inl (.long, 256))
  | _ => none
/-- the class's object, its rows, its light -/
def lyX (S : aS) (R : aR) : Prop := (∀ j x, xT j = some x → S (3 + j) = some x) ∧ R 3 0 = some 4 ∧ R 3 3 = some 5 ∧ R 3 5 = some 6 ∧ R 3 7 = some 7 ∧ R 7 0 = some 8 ∧ R 7 1 = some 9 ∧ S 2 = some (.inl (.float, 64))
def mT : Nat → Option ((FieldType × Nat) ⊕ Nat) := fun j => match j with
  | 0 => some (.inr 4)
  | 1 => some (.inl (.int, 8))
  | 2 => some (.inl (.int, 8))
  | 3 => some (.inl (.int, 8))
  | 5 => some (.inl (.int, 6))
  | 6 => some (.inl (.int, 6))
  | 7 => some (.inl (.int, 6))
  | 8 => some (.inl (.int, 6))
  | 9 => some (.inl (.int, 6))
  | 10 => some (.inl (.int, 6))
  | 11 => some (.inl (.int, 1536))
  | 12 => some (.inl (.int, 1536))
  | 13 => some (.inl (.boolean, 4))
  | 15 => some (.inl (.int, 6))
  | 16 => some (.inl (.int, 36))
  | 17 => some (.inl (.int, 64))
  | 19 => some (.inl (.long, 256))
  | 20 => some (.inl (.boolean, 256))
  | 22 => some (.inl (.int, 40))
  | 23 => some (.inl (.int, 40))
  | 24 => some (.inl (.int, 40))
  | 25 => some (.inl (.int, 40))
  | 26 => some (.inl (.int, 40))
  | 27 => some (.inl (.long, 40))
  | 28 => some (.inl (.int, 40))
  | 29 => some (.inl (.long, 40))
  | 30 => some (.inl (.boolean, 40))
  | _ => none
def mA (j : Nat) : Bool := match j with
  | 0 => false
  | j + 1 => (mT (j + 1)).isSome
/-- the reference's -/
def lyM (S : aS) (R : aR) : Prop := (∀ j x, mT j = some x → S (20 + j) = some x) ∧ ∀ j, mA j = true → R 20 j = some (20 + j)
def sT : Nat → Option ((FieldType × Nat) ⊕ Nat) := fun j => match j with
  | 0 => some (.inr 2)
  | 1 => some (.inl (.int, 8))
  | 2 => some (.inl (.int, 8))
  | 3 => some (.inl (.int, 8))
  | 4 => some (.inl (.int, 256))
  | 5 => some (.inl (.int, 256))
  | 6 => some (.inl (.int, 6))
  | _ => none
def sO : Nat → Nat → Bool := fun k j => (k == 0 && j == 1) || (k == 1 && j == 2) || (k == 2 && j == 3) || (k == 10 && j == 4) || (k == 11 && j == 5) || (k == 12 && j == 6)
/-- a star at b -/
def lyS (S : aS) (R : aR) (b : Nat) : Prop := (∀ j x, sT j = some x → S (b + j) = some x) ∧ (∀ k j, sO k j = true → R b k = some (b + j)) ∧ 100 ≤ b
theorem lyS.ob {S : aS} {R : aR} {b : Nat} (h : lyS S R b) : S b = some (.inr 2) := h.1 0 _ rfl
section AX
variable {p : Program} {l : Launch} {e : Env} {R : Room} {s : State} {m : MethodId} {args : Array Value} {below : List Frame} {meth : Method} {c : Code} {E : aE} {io0 : aM} {S0 : aS} {nL : Nat} {Q : State → Prop}
variable {own : String} {cc : ByteArray} {ret : Option FieldType} {pc nx : Nat} {lv st : List Value} {S : aS} {I : aI} {L : aL} {Rf : aR} {k n : Nat}
theorem g_ifnull_R (hx : aCx p l s m args meth c own cc nL ret E) {q : Nat} {off : Int} {tg : Nat} (d : decode cc pc = .ok (.ifnull off, 3)) (ht : (pc : Int) + off = (tg : Int)) (hn : pc + 3 = nx) (kk : aG p l e R s m args below meth c E io0 S0 nL Q nx lv (st) S I L Rf k n) : aG p l e R s m args below meth c E io0 S0 nL Q pc lv (.ref q :: st) S I L Rf k n := g_ifnull hx d ht hn (fun h => by cases h) (fun _ _ => kk) (Or.inr ⟨_, rfl⟩)
theorem g_ifnull_N (hx : aCx p l s m args meth c own cc nL ret E) {q : Nat} {off : Int} {tg : Nat} (d : decode cc pc = .ok (.ifnull off, 3)) (ht : (pc : Int) + off = (tg : Int)) (hn : pc + 3 = nx) (kk : aG p l e R s m args below meth c E io0 S0 nL Q tg lv (st) S I L Rf k n) : aG p l e R s m args below meth c E io0 S0 nL Q pc lv (.null :: st) S I L Rf k n := g_ifnull hx d ht hn (fun _ => kk) (fun _ h => by cases h) (Or.inl rfl)
theorem g_ifnonnull_R (hx : aCx p l s m args meth c own cc nL ret E) {q : Nat} {off : Int} {tg : Nat} (d : decode cc pc = .ok (.ifnonnull off, 3)) (ht : (pc : Int) + off = (tg : Int)) (hn : pc + 3 = nx) (kk : aG p l e R s m args below meth c E io0 S0 nL Q tg lv (st) S I L Rf k n) : aG p l e R s m args below meth c E io0 S0 nL Q pc lv (.ref q :: st) S I L Rf k n := g_ifnonnull hx d ht hn (fun _ _ => kk) (fun h => by cases h) (Or.inr ⟨_, rfl⟩)
theorem g_ifnonnull_N (hx : aCx p l s m args meth c own cc nL ret E) {q : Nat} {off : Int} {tg : Nat} (d : decode cc pc = .ok (.ifnonnull off, 3)) (ht : (pc : Int) + off = (tg : Int)) (hn : pc + 3 = nx) (kk : aG p l e R s m args below meth c E io0 S0 nL Q nx lv (st) S I L Rf k n) : aG p l e R s m args below meth c E io0 S0 nL Q pc lv (.null :: st) S I L Rf k n := g_ifnonnull hx d ht hn (fun _ h => by cases h) (fun _ => kk) (Or.inl rfl)
end AX
/-! small methods of the class -/
def iout (x y z : Int32) : Int32 := if x < y ∨ z < x then 1 else 0
theorem iout_1l {x y z : Int32} (h : x < y) : iout x y z = 1 := if_pos (Or.inl h)
theorem iout_1r {x y z : Int32} (h : ¬ x ≤ z) : iout x y z = 1 := if_pos (Or.inr (Int32.not_le.mp h))
theorem iout_0 {x y z : Int32} (h : ¬ x < y) (h2 : x ≤ z) : iout x y z = 0 := if_neg (fun q => q.elim h (fun q => absurd h2 (Int32.not_le.mpr q)))
abbrev rmX3_isOutside : Room := { frames := 0, cells := 0, slots := 0, locals := 0 }
set_option maxHeartbeats 4000000 in
set_option maxRecDepth 100000 in
theorem s_X3_isOutside {l : Launch} {E : aE} {S : aS} {I : aI} {L : aL} {Rf : aR} {Kr : aK} {Kx : aX} (hst : l.stackTraces = false) {x y z : Int32} (hk : Kr (some (.int (iout x y z))) S I L Rf) : aMet l E yX3_isOutside cX3_isOutside 3 (some .boolean) rmX3_isOutside [.int x, .int y, .int z] (S) (I) (L) (Rf) Kr Kx := by
  refine aMet.of (lv0 := [.int x, .int y, .int z]) (z := 0) (by decide +kernel) hst rfl (Nat.le_of_ble_eq_true rfl) ?_
  intro p e s m args below meth c io0 hx hin hno
  have hx : aCx p l s m args meth c RX3 cX3_isOutside 3 (some .boolean) E := hx
  refine g_iloadG_n hx dX3_isOutside_0 rfl (nx := 1) rfl rfl ?_
  refine g_iloadG_n hx dX3_isOutside_1 rfl (nx := 2) rfl rfl ?_
  refine g_icmp_lt hx dX3_isOutside_2 (tg := 10) (by decide) (nx := 5) rfl (fun c2 => ?_) (fun c2 => ?_)
  · refine g_iconst hx dX3_isOutside_10 (nx := 11) rfl (v := 1) (by decide) ?_
    refine g_goto hx dX3_isOutside_11 (tg := 15) (by decide) ?_
    refine g_iret hx dX3_isOutside_15 rfl rfl (Nat.le_of_ble_eq_true rfl) (Nat.le_of_ble_eq_true rfl) ?_
    first | (rw [iout_1l c2] at hk; exact hk) | (rw [iout_0 c2 c7] at hk; exact hk) | (rw [iout_1r c7] at hk; exact hk)
  · refine g_iloadG_n hx dX3_isOutside_5 rfl (nx := 6) rfl rfl ?_
    refine g_iloadG_n hx dX3_isOutside_6 rfl (nx := 7) rfl rfl ?_
    refine g_icmp_le hx dX3_isOutside_7 (tg := 14) (by decide) (nx := 10) rfl (fun c7 => ?_) (fun c7 => ?_)
    · refine g_iconst hx dX3_isOutside_14 (nx := 15) rfl (v := 0) (by decide) ?_
      refine g_iret hx dX3_isOutside_15 rfl rfl (Nat.le_of_ble_eq_true rfl) (Nat.le_of_ble_eq_true rfl) ?_
      first | (rw [iout_1l c2] at hk; exact hk) | (rw [iout_0 c2 c7] at hk; exact hk) | (rw [iout_1r c7] at hk; exact hk)
    · refine g_iconst hx dX3_isOutside_10 (nx := 11) rfl (v := 1) (by decide) ?_
      refine g_goto hx dX3_isOutside_11 (tg := 15) (by decide) ?_
      refine g_iret hx dX3_isOutside_15 rfl rfl (Nat.le_of_ble_eq_true rfl) (Nat.le_of_ble_eq_true rfl) ?_
      first | (rw [iout_1l c2] at hk; exact hk) | (rw [iout_0 c2 c7] at hk; exact hk) | (rw [iout_1r c7] at hk; exact hk)

def icos (x : Int32) : Int32 := acos (x &&& 63).toNatClampNeg
def isin (x : Int32) : Int32 := icos (x - 16)
theorem in64 (x : Int32) : vp_in (x &&& 63) 64 := pk_andIn x 6 (by decide) (by decide)
abbrev rmX3_cosine : Room := { frames := 0, cells := 0, slots := 0, locals := 0 }
set_option maxHeartbeats 4000000 in
set_option maxRecDepth 100000 in
theorem s_X3_cosine {l : Launch} {E : aE} {S : aS} {I : aI} {L : aL} {Rf : aR} {Kr : aK} {Kx : aX} (hst : l.stackTraces = false) {x : Int32} (hX : lyX S Rf) (hk : Kr (some (.int (icos x))) S I L Rf) : aMet l E yX3_cosine cX3_cosine 1 (some .int) rmX3_cosine [.int x] (S) (I) (L) (Rf) Kr Kx := by
  refine aMet.of (lv0 := [.int x]) (z := 0) (by decide +kernel) hst rfl (Nat.le_of_ble_eq_true rfl) ?_
  intro p e s m args below meth c io0 hx hin hno
  have hx : aCx p l s m args meth c RX3 cX3_cosine 1 (some .int) E := hx
  refine g_cosT hx dX3_cosine_0 (nx := 3) rfl gs_X3_272 (by rw [hX.2.2.2.2.2.2.2]; simp) ?_
  refine g_iloadG_n hx dX3_cosine_3 rfl (nx := 4) rfl rfl ?_
  refine g_bipush hx dX3_cosine_4 (nx := 6) rfl (v := 63) (by decide) ?_
  refine g_iand hx dX3_cosine_6 (nx := 7) rfl ?_
  refine g_cosA hx dX3_cosine_7 (nx := 8) rfl (in64 _) ?_
  refine g_iret hx dX3_cosine_8 rfl rfl (Nat.le_of_ble_eq_true rfl) (Nat.le_of_ble_eq_true rfl) ?_
  exact hk

abbrev rmX3_sine : Room := { frames := 1, cells := 0, slots := 0, locals := 20 }
set_option maxHeartbeats 4000000 in
set_option maxRecDepth 100000 in
theorem s_X3_sine {l : Launch} {E : aE} {S : aS} {I : aI} {L : aL} {Rf : aR} {Kr : aK} {Kx : aX} (hst : l.stackTraces = false) {x : Int32} (hX : lyX S Rf) (hk : Kr (some (.int (isin x))) S I L Rf) : aMet l E yX3_sine cX3_sine 1 (some .int) rmX3_sine [.int x] (S) (I) (L) (Rf) Kr Kx := by
  refine aMet.of (lv0 := [.int x]) (z := 0) (by decide +kernel) hst rfl (Nat.le_of_ble_eq_true rfl) ?_
  intro p e s m args below meth c io0 hx hin hno
  have hx : aCx p l s m args meth c RX3 cX3_sine 1 (some .int) E := hx
  refine g_iloadG_n hx dX3_sine_0 rfl (nx := 1) rfl rfl ?_
  refine g_bipush hx dX3_sine_1 (nx := 3) rfl (v := 16) (by decide) ?_
  refine g_isub hx dX3_sine_3 (nx := 4) rfl ?_
  refine g_callS_M hx [_] (k' := 0) (n' := 0) dX3_sine_4 (nx := 7) rfl lk_X3_275 rfl (Nat.le_of_ble_eq_true rfl) (Nat.le_of_ble_eq_true rfl) (Nat.le_of_ble_eq_true rfl) (Nat.le_of_ble_eq_true rfl) (Nat.le_of_ble_eq_true rfl) (Nat.le_of_ble_eq_true rfl) (Nat.le_of_ble_eq_true rfl) (s_X3_cosine hst hX ?_)
  refine g_iret hx dX3_sine_7 rfl rfl (Nat.le_of_ble_eq_true rfl) (Nat.le_of_ble_eq_true rfl) ?_
  exact hk

