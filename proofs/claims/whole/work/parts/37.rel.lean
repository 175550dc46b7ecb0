/-! the class and the reference side by side in one heap -/
/-- star k, what it was built as -/
def rlS (I : aI) (k : Nat) : Prop := ∃ (ss la sm co : Nat), 1 ≤ ss ∧ ss ≤ 8 ∧ I (200 + 8 * k) 3 = nI ss ∧ (∀ i, i < ss → ∃ a b : Nat, I (200 + 8 * k + 1) i = nI a ∧ I (200 + 8 * k + 2) i = nI b ∧ a ≤ 99 ∧ 1 ≤ b ∧ b ≤ 99) ∧
  I (200 + 8 * k) 5 = crS (fun i => I (200 + 8 * k + 1) i) (fun i => I (200 + 8 * k + 2) i) ss ∧ (∀ j, j < 6 → I (25 + j) k = I (200 + 8 * k) (4 + j)) ∧
  I (200 + 8 * k) 6 = nI la ∧ la ≤ 1000000 ∧ I (200 + 8 * k) 7 = nI sm ∧ sm ≤ 1000 ∧ I (200 + 8 * k) 9 = nI co ∧ co ≤ 4000000
/-- its light -/
def rlL (I : aI) (k : Nat) : Prop := ∃ o : Nat, o ≤ 6 ∧ I (200 + 8 * k) 13 = nI o ∧ I 35 k = nI o ∧ (∀ i, i < o → ∃ j : Nat, j < 32 ∧ I (200 + 8 * k + 6) i = nI j ∧ I 36 (6 * k + i) = nI j) ∧
  (∀ t, t < 256 → (∃ j : Nat, j < 4 ∧ I (200 + 8 * k + 5) t = nI j ∧ I 32 (256 * k + t) = nI j) ∧ I 31 (256 * k + t) = I (200 + 8 * k + 4) t ∧ (I (200 + 8 * k + 4) t = -1 ∨ ∃ c : Nat, c ≤ 9999 ∧ I (200 + 8 * k + 4) t = nI c))
/-- the star that is built, of sh shells -/
def rlB (I : aI) (n sh : Nat) : Prop := sh ≤ 8 ∧ I (200 + 8 * n) 3 = nI sh ∧ I 20 0 = nI sh ∧ ∀ i, i < sh → ∃ a b c : Nat, (I (200 + 8 * n + 1) i = nI a ∧ I (200 + 8 * n + 2) i = nI b ∧ I (200 + 8 * n + 3) i = nI c) ∧ (1 ≤ a ∧ a ≤ 99 ∧ 1 ≤ b ∧ b ≤ 99 ∧ c ≤ 9) ∧ I 21 i = nI a ∧ I 22 i = nI b ∧ I 23 i = nI c
/-- no light is told of it yet, nor of later ones -/
def rlN (I : aI) (n : Nat) : Prop := I (200 + 8 * n) 13 = 0 ∧ (∀ t, t < 256 → I (200 + 8 * n + 4) t = -1 ∧ I (200 + 8 * n + 5) t = 0) ∧ ∀ k, n ≤ k → k < 6 → I 35 k = 0 ∧ ∀ t, t < 256 → I 31 (256 * k + t) = -1 ∧ I 32 (256 * k + t) = 0
/-- claim i -/
def rlC (I : aI) (L : aL) (n i : Nat) : Prop := ∃ s ln d : Nat, (s < n ∧ ln < 32 ∧ d ≤ 6) ∧ (I (100 + i) 1 = nI s ∧ I 43 i = nI s ∧ I (100 + i) 2 = nI ln ∧ I 44 i = nI ln ∧ I (100 + i) 4 = nI d) ∧ (I (100 + i) 0 = 0 ∨ I (100 + i) 0 = 1 ∨ I (100 + i) 0 = 2) ∧ I 42 i = I (100 + i) 0 ∧
  (I (100 + i) 0 = 0 → I 46 i = nI d ∧ I 45 i = I (100 + i) 3 ∧ (I (100 + i) 3 = 0 ∨ I (100 + i) 3 = 1 ∨ I (100 + i) 3 = 2) ∧ L 47 i = L (100 + i) 5) ∧
  I 48 i = I (100 + i) 6 ∧ L 49 i = L (100 + i) 7 ∧ (L (100 + i) 7).toBitVec.toNat < 2 ^ i ∧ I 50 i = I (100 + i) 8 ∧ (I (100 + i) 8 = 0 ∨ I (100 + i) 8 = 1)
/-- what stands cites what stands -/
def rlK (I : aI) (L : aL) (nc : Nat) : Prop := ∀ i, i < nc → I (100 + i) 8 ≠ 0 → ∀ j, j < i → bqP (L (100 + i) 7) j → I (100 + j) 8 ≠ 0
def rlG (I : aI) (n nc : Nat) : Prop := I 20 4 = nI n ∧ I 20 21 = nI nc ∧ tbM I ∧ I 20 14 = I 3 4 ∧ ∀ j, j < 4 → I 33 j = I 5 j ∧ (I 5 j = 0 ∨ I 5 j = 1)
def rlA (N : Nat) (xs : Nat → Int32) (S : aS) (I : aI) : Prop := S 1 = some (.inl (.int, N)) ∧ (∀ j, j < N → I 1 j = xs j) ∧ S 10 = some (.inl (.long, 1))
def Rel (N : Nat) (xs : Nat → Int32) (S : aS) (I : aI) (L : aL) (R : aR) : Prop := ∃ n nc sh : Nat, lyC S R I n nc ∧ lyM S R ∧ rlA N xs S I ∧ rlG I n nc ∧ rlB I n sh ∧ rlN I n ∧ (∀ k, k < n → rlS I k ∧ rlL I k) ∧ (∀ i, i < nc → rlC I L n i) ∧ rlK I L nc
theorem rlS.c {I J : aI} {k : Nat} (h : rlS I k) (e1 : ∀ b, J (200 + 8 * k) b = I (200 + 8 * k) b ∨ b = 13) (e2 : ∀ b, J (200 + 8 * k + 1) b = I (200 + 8 * k + 1) b) (e3 : ∀ b, J (200 + 8 * k + 2) b = I (200 + 8 * k + 2) b) (e4 : ∀ a, 25 ≤ a → a ≤ 30 → J a k = I a k) : rlS J k := by
  obtain ⟨ss, la, sm, co, h1, h2, h3, h4, h5, h6, h7, h8, h9, h10, h11, h12⟩ := h
  have f : ∀ b, b ≠ 13 → J (200 + 8 * k) b = I (200 + 8 * k) b := fun b hb => (e1 b).elim id (fun z => absurd z hb)
  refine ⟨ss, la, sm, co, h1, h2, by rw [f 3 (by decide)]; exact h3, fun i hi => by rw [e2, e3]; exact h4 i hi, ?_, fun j hj => by rw [e4 (25 + j) (by omega) (by omega), f (4 + j) (by omega)]; exact h6 j hj, by rw [f 6 (by decide)]; exact h7, h8, by rw [f 7 (by decide)]; exact h9, h10, by rw [f 9 (by decide)]; exact h11, h12⟩
  rw [f 5 (by decide), h5, show (fun i => J (200 + 8 * k + 1) i) = (fun i => I (200 + 8 * k + 1) i) from funext e2, show (fun i => J (200 + 8 * k + 2) i) = (fun i => I (200 + 8 * k + 2) i) from funext e3]
theorem rlL.c {I J : aI} {k : Nat} (h : rlL I k) (e1 : J (200 + 8 * k) 13 = I (200 + 8 * k) 13) (e2 : J 35 k = I 35 k) (e3 : ∀ i, i < 6 → J (200 + 8 * k + 6) i = I (200 + 8 * k + 6) i) (e4 : ∀ i, i < 6 → J 36 (6 * k + i) = I 36 (6 * k + i)) (e5 : ∀ t, t < 256 → J (200 + 8 * k + 5) t = I (200 + 8 * k + 5) t ∧ J 32 (256 * k + t) = I 32 (256 * k + t) ∧ J 31 (256 * k + t) = I 31 (256 * k + t) ∧ J (200 + 8 * k + 4) t = I (200 + 8 * k + 4) t) : rlL J k := by
  obtain ⟨o, h1, h2, h3, h4, h5⟩ := h
  refine ⟨o, h1, e1.trans h2, e2.trans h3, fun i hi => by rw [e3 i (by omega), e4 i (by omega)]; exact h4 i hi, fun t ht => ?_⟩
  obtain ⟨a, b, c, d⟩ := e5 t ht
  rw [a, b, c, d]; exact h5 t ht
theorem rlB.c {I J : aI} {n sh : Nat} (h : rlB I n sh) (e1 : J (200 + 8 * n) 3 = I (200 + 8 * n) 3) (e2 : J 20 0 = I 20 0) (e3 : ∀ i, i < 8 → J (200 + 8 * n + 1) i = I (200 + 8 * n + 1) i ∧ J (200 + 8 * n + 2) i = I (200 + 8 * n + 2) i ∧ J (200 + 8 * n + 3) i = I (200 + 8 * n + 3) i ∧ J 21 i = I 21 i ∧ J 22 i = I 22 i ∧ J 23 i = I 23 i) : rlB J n sh := by
  obtain ⟨h1, h2, h3, h4⟩ := h
  refine ⟨h1, e1.trans h2, e2.trans h3, fun i hi => ?_⟩
  obtain ⟨a1, a2, a3, a4, a5, a6⟩ := e3 i (by omega)
  rw [a1, a2, a3, a4, a5, a6]; exact h4 i hi
theorem rlN.c {I J : aI} {n : Nat} (h : rlN I n) (e1 : J (200 + 8 * n) 13 = I (200 + 8 * n) 13) (e2 : ∀ t, t < 256 → J (200 + 8 * n + 4) t = I (200 + 8 * n + 4) t ∧ J (200 + 8 * n + 5) t = I (200 + 8 * n + 5) t) (e3 : ∀ k, n ≤ k → k < 6 → J 35 k = I 35 k ∧ ∀ t, t < 256 → J 31 (256 * k + t) = I 31 (256 * k + t) ∧ J 32 (256 * k + t) = I 32 (256 * k + t)) : rlN J n := by
  obtain ⟨h1, h2, h3⟩ := h
  refine ⟨e1.trans h1, fun t ht => ?_, fun k h4 h5 => ⟨(e3 k h4 h5).1.trans (h3 k h4 h5).1, fun t ht => ?_⟩⟩
  · rw [(e2 t ht).1, (e2 t ht).2]; exact h2 t ht
  · rw [((e3 k h4 h5).2 t ht).1, ((e3 k h4 h5).2 t ht).2]; exact (h3 k h4 h5).2 t ht
theorem rlC.c {I J : aI} {L M : aL} {n n' i : Nat} (h : rlC I L n i) (hn : n ≤ n') (e1 : ∀ b, J (100 + i) b = I (100 + i) b) (e2 : ∀ a, 42 ≤ a → a ≤ 50 → J a i = I a i) (e3 : ∀ b, M (100 + i) b = L (100 + i) b) (e4 : ∀ a, a = 47 ∨ a = 49 → M a i = L a i) : rlC J M n' i := by
  obtain ⟨s, ln, d, h1, h2⟩ := h
  refine ⟨s, ln, d, ⟨by omega, h1.2⟩, ?_⟩
  rw [e1 0, e1 1, e1 2, e1 3, e1 4, e1 6, e1 8, e2 42 (by decide) (by decide), e2 43 (by decide) (by decide), e2 44 (by decide) (by decide), e2 45 (by decide) (by decide), e2 46 (by decide) (by decide), e2 48 (by decide) (by decide), e2 50 (by decide) (by decide), e3 5, e3 7, e4 47 (Or.inl rfl), e4 49 (Or.inr rfl)]
  exact h2
theorem rlK.c {I J : aI} {L M : aL} {nc : Nat} (h : rlK I L nc) (e1 : ∀ i, i < nc → J (100 + i) 8 = I (100 + i) 8) (e2 : ∀ i, i < nc → M (100 + i) 7 = L (100 + i) 7) : rlK J M nc := fun i hi hz j hj hb => by
  rw [e1 j (by omega)]
  rw [e1 i hi] at hz
  rw [e2 i hi] at hb
  exact h i hi hz j hj hb
theorem rlG.c {I J : aI} {n nc : Nat} (h : rlG I n nc) (e1 : J 20 4 = I 20 4) (e2 : J 20 21 = I 20 21) (e3 : ∀ b, J 37 b = I 37 b) (e4 : J 20 14 = I 20 14) (e5 : J 3 4 = I 3 4) (e6 : ∀ j, j < 4 → J 33 j = I 33 j ∧ J 5 j = I 5 j) : rlG J n nc := by
  obtain ⟨h1, h2, h3, h4, h5⟩ := h
  refine ⟨e1.trans h1, e2.trans h2, h3.y e3, by rw [e4, e5]; exact h4, fun j hj => ?_⟩
  rw [(e6 j hj).1, (e6 j hj).2]; exact h5 j hj
theorem rlA.c {N : Nat} {xs : Nat → Int32} {S S' : aS} {I J : aI} (h : rlA N xs S I) (e1 : S' 1 = S 1) (e2 : S' 10 = S 10) (e3 : ∀ b, J 1 b = I 1 b) : rlA N xs S' J := ⟨e1.trans h.1, fun j hj => (e3 j).trans (h.2.1 j hj), e2.trans h.2.2⟩
theorem lyC.y {S : aS} {R : aR} {I J : aI} {n nc : Nat} (h : lyC S R I n nc) (e1 : J 3 1 = I 3 1) (e2 : J 3 6 = I 3 6) : lyC S R J n nc := by
  obtain ⟨a1, a2, a3, a4, a5, a6⟩ := h
  exact ⟨a1, a2, a3, e1.trans a4, e2.trans a5, a6⟩
/-- nothing that counts has changed -/
def eqR (J I : aI) : Prop := ∀ a b, a ≠ 7 → a ≠ 8 → a ≠ 9 → ¬ (a = 20 ∧ (b = 18 ∨ b = 31)) → a ≠ 40 → J a b = I a b
def eqS (J I : aL) : Prop := ∀ a b, a ≠ 7 → a ≠ 8 → a ≠ 9 → a ≠ 10 → a ≠ 39 → J a b = I a b
theorem Rel.go {N : Nat} {xs : Nat → Int32} {S : aS} {I J : aI} {L M : aL} {R : aR} (h : Rel N xs S I L R) (e : eqR J I) (f : eqS M L) : Rel N xs S J M R := by
  obtain ⟨n, nc, sh, h1, h2, h3, h4, h5, h6, h7, h8, h9⟩ := h
  have hn : n ≤ 6 := h1.2.1
  have hnc : nc ≤ 40 := h1.2.2.1
  have e' : ∀ a b, a ≠ 7 ∧ a ≠ 8 ∧ a ≠ 9 ∧ ¬ (a = 20 ∧ (b = 18 ∨ b = 31)) ∧ a ≠ 40 → J a b = I a b := fun a b z => e a b z.1 z.2.1 z.2.2.1 z.2.2.2.1 z.2.2.2.2
  have f' : ∀ a b, a ≠ 7 ∧ a ≠ 8 ∧ a ≠ 9 ∧ a ≠ 10 ∧ a ≠ 39 → M a b = L a b := fun a b z => f a b z.1 z.2.1 z.2.2.1 z.2.2.2.1 z.2.2.2.2
  refine ⟨n, nc, sh, h1.y (e' _ _ (by omega)) (e' _ _ (by omega)), h2, h3.c rfl rfl (fun b => e' _ _ (by omega)), h4.c (e' _ _ (by omega)) (e' _ _ (by omega)) (fun b => e' _ _ (by omega)) (e' _ _ (by omega)) (e' _ _ (by omega)) (fun j hj => ⟨e' _ _ (by omega), e' _ _ (by omega)⟩), ?_, ?_, fun k hk => ⟨?_, ?_⟩, fun i hi => ?_, ?_⟩
  · exact h5.c (e' _ _ (by omega)) (e' _ _ (by omega)) (fun i hi => ⟨e' _ _ (by omega), e' _ _ (by omega), e' _ _ (by omega), e' _ _ (by omega), e' _ _ (by omega), e' _ _ (by omega)⟩)
  · exact h6.c (e' _ _ (by omega)) (fun t ht => ⟨e' _ _ (by omega), e' _ _ (by omega)⟩) (fun k z1 z2 => ⟨e' _ _ (by omega), fun t ht => ⟨e' _ _ (by omega), e' _ _ (by omega)⟩⟩)
  · exact (h7 k hk).1.c (fun b => Or.inl (e' _ _ (by omega))) (fun b => e' _ _ (by omega)) (fun b => e' _ _ (by omega)) (fun a z1 z2 => e' _ _ (by omega))
  · exact (h7 k hk).2.c (e' _ _ (by omega)) (e' _ _ (by omega)) (fun i hi => e' _ _ (by omega)) (fun i hi => e' _ _ (by omega)) (fun t ht => ⟨e' _ _ (by omega), e' _ _ (by omega), e' _ _ (by omega), e' _ _ (by omega)⟩)
  · exact (h8 i hi).c (Nat.le_refl _) (fun b => e' _ _ (by omega)) (fun a z1 z2 => e' _ _ (by omega)) (fun b => f' _ _ (by omega)) (fun a z => f' _ _ (by omega))
  · exact h9.c (fun i hi => e' _ _ (by omega)) (fun i hi => f' _ _ (by omega))
/-- a call that only looks: what the class changes, what the reference changes -/
theorem Rel.rd {N : Nat} {xs : Nat → Int32} {S : aS} {I I1 I2 : aI} {L L1 L2 : aL} {R : aR} {z : Int32} {v : Int64} (h : Rel N xs S I L R) (a : eqX I1 I) (b : eqX L1 L) (c : eM I2 (au2 I1 20 31 z)) (d : eL L2 (au2 L1 10 0 v)) : Rel N xs S I2 L2 R ∧ I2 20 31 = z ∧ L2 10 0 = v := by
  refine ⟨h.go (fun p q h1 h2 h3 h4 h5 => ?_) (fun p q h1 h2 h3 h4 h5 => ?_), ?_, ?_⟩
  · rw [c p q (by omega) h5, au2_n (by omega), a p q h1 h2 h3]
  · rw [d p q h5, au2_n (by omega), b p q h1 h2 h3]
  · rw [c 20 31 (by decide) (by decide), au2_s]
  · rw [d 10 0 (by decide), au2_s]
theorem Rel.fl {N : Nat} {xs : Nat → Int32} {S : aS} {I I1 I2 : aI} {L L1 L2 : aL} {R : aR} {z : Int32} (h : Rel N xs S I L R) (a : eqX I1 I) (b : eqX L1 L) (c : eM I2 (au2 I1 20 31 z)) (d : eL L2 L1) : Rel N xs S I2 L2 R ∧ I2 20 31 = z := by
  refine ⟨h.go (fun p q h1 h2 h3 h4 h5 => ?_) (fun p q h1 h2 h3 h4 h5 => ?_), ?_⟩
  · rw [c p q (by omega) h5, au2_n (by omega), a p q h1 h2 h3]
  · rw [d p q h5, b p q h1 h2 h3]
  · rw [c 20 31 (by decide) (by decide), au2_s]
theorem eM.rf (I : aI) : eM I I := fun _ _ _ _ => rfl
theorem eL.rf (L : aL) : eL L L := fun _ _ _ => rfl
/-- what the contracts ask -/
theorem cl_of {x : Int32} {j : Nat} (h : x = nI j) (hj : j < 2 ^ 31) : x = nI x.toNatClampNeg ∧ x.toNatClampNeg = j := by
  have e : x.toNatClampNeg = j := by rw [h]; exact nI_clamp hj
  exact ⟨by rw [e]; exact h, e⟩
abbrev ooC (I : aI) : Nat → Nat := fun k => (I 35 k).toNatClampNeg
theorem rlL.oo {I : aI} {k : Nat} (h : rlL I k) : I (200 + 8 * k) 13 = nI (ooC I k) ∧ ooC I k ≤ 6 ∧ I 35 k = nI (ooC I k) := by
  obtain ⟨o, h1, h2, h3, -⟩ := h
  have e := cl_of h3 (by omega)
  exact ⟨by show _ = nI ((I 35 k).toNatClampNeg); rw [e.2]; exact h2, by show (I 35 k).toNatClampNeg ≤ 6; omega, e.1⟩
theorem rlL.si {I : aI} {k t : Nat} (h : rlL I k) (ht : t < 256) : vp_in (I (200 + 8 * k + 5) t) 4 := by
  obtain ⟨o, h1, h2, h3, h4, h5⟩ := h
  obtain ⟨⟨j, h6, h7, h8⟩, -⟩ := h5 t ht
  exact pk_in j 4 h6 h7 (by omega)
theorem rlL.lg {I : aI} {k : Nat} (h : rlL I k) (hm : ∀ j, j < 4 → I 33 j = I 5 j) : lgM I k (qI I k) (vI I k) (fI I k) (ooC I k) := by
  have hoo := h.oo
  obtain ⟨o, h1, h2, h3, h4, h5⟩ := h
  have eo : ooC I k = o := (cl_of h3 (by omega)).2
  refine ⟨fun t ht => ?_, fun t ht => ?_, fun t ht _ => ?_, fun t ht hq => ?_, fun i hi => ?_⟩
  · obtain ⟨⟨j, h6, h7, h8⟩, h9, -⟩ := h5 t ht
    show (decide (I (200 + 8 * k + 4) t ≠ -1) && decide (I 5 (I (200 + 8 * k + 5) t).toNatClampNeg = 0)) = _
    rw [h7, h8, h9, nI_clamp (by omega), hm j h6]
  · obtain ⟨⟨j, h6, h7, h8⟩, -⟩ := h5 t ht
    exact pk_in j 4 h6 h8 (by omega)
  · show _ = (I (200 + 8 * k + 4) t).toInt64
    rw [(h5 t ht).2.1]
  · rcases (h5 t ht).2.2 with e | ⟨c, hc, e⟩
    · have : (decide (I (200 + 8 * k + 4) t ≠ -1) && decide (I 5 (I (200 + 8 * k + 5) t).toNatClampNeg = 0)) = true := hq
      rw [e] at this; simp at this
    · refine ⟨c, hc, ?_⟩
      show (I (200 + 8 * k + 4) t).toInt64 = lN c
      rw [e, nI_l (by omega)]
  · obtain ⟨j, h6, h7, h8⟩ := h4 i (by omega)
    exact ⟨h8.trans h7.symm, j, by omega, h7⟩
theorem rel_okM {I : aI} {n nc : Nat} (hG : rlG I n nc) (h7 : ∀ k, k < n → rlS I k ∧ rlL I k) : okM I n (qI I) (vI I) (fI I) (ooC I) := fun k hk => ⟨(h7 k hk).2.lg (fun j hj => (hG.2.2.2.2 j hj).1), (h7 k hk).2.oo.2.2, (h7 k hk).2.oo.2.1⟩
theorem rel_hoo {I : aI} {n : Nat} (h7 : ∀ k, k < n → rlS I k ∧ rlL I k) : ∀ k, k < n → I (200 + 8 * k) 13 = nI (ooC I k) ∧ ooC I k ≤ 6 := fun k hk => ⟨(h7 k hk).2.oo.1, (h7 k hk).2.oo.2.1⟩
theorem rel_hsi {I : aI} {n : Nat} (h7 : ∀ k, k < n → rlS I k ∧ rlL I k) : ∀ k, k < n → ∀ t, t < 256 → vp_in (I (200 + 8 * k + 5) t) 4 := fun k hk t ht => (h7 k hk).2.si ht
abbrev scC (I : aI) : Nat → Nat := fun i => (I 43 i).toNatClampNeg
abbrev dcC (I : aI) : Nat → Nat := fun i => (I (100 + i) 4).toNatClampNeg
abbrev lnC (I : aI) : Nat → Nat := fun i => (I 44 i).toNatClampNeg
theorem rlC.sc {I : aI} {L : aL} {n i : Nat} (h : rlC I L n i) (hn : n ≤ 6) : scC I i < n ∧ I (100 + i) 1 = nI (scC I i) ∧ I 43 i = nI (scC I i) ∧ lnC I i < 32 ∧ I (100 + i) 2 = nI (lnC I i) ∧ I 44 i = nI (lnC I i) ∧ dcC I i ≤ 6 ∧ I (100 + i) 4 = nI (dcC I i) ∧ (I (100 + i) 0 = 0 → I 46 i = nI (dcC I i)) := by
  obtain ⟨s, ln, d, ⟨h1, h2, h3⟩, ⟨h4, h5, h6, h7, h8⟩, h9, h10, h11, -⟩ := h
  have e1 := cl_of h5 (by omega)
  have e2 := cl_of h7 (by omega)
  have e3 := cl_of h8 (by omega)
  refine ⟨by show (I 43 i).toNatClampNeg < n; omega, by show _ = nI (I 43 i).toNatClampNeg; rw [e1.2]; exact h4, e1.1, by show (I 44 i).toNatClampNeg < 32; omega, by show _ = nI (I 44 i).toNatClampNeg; rw [e2.2]; exact h6, e2.1, by show (I (100 + i) 4).toNatClampNeg ≤ 6; omega, e3.1, fun z => ?_⟩
  show _ = nI (I (100 + i) 4).toNatClampNeg
  rw [e3.2]; exact (h11 z).1
theorem rel_hcf {I : aI} {L : aL} {n nc : Nat} (hn : n ≤ 6) (h8 : ∀ i, i < nc → rlC I L n i) : ∀ j, j < nc → scC I j < n ∧ I (100 + j) 1 = nI (scC I j) ∧ I (100 + j) 4 = nI (dcC I j) ∧ dcC I j ≤ 6 := fun j hj => by
  have h := (h8 j hj).sc hn
  exact ⟨h.1, h.2.1, h.2.2.2.2.2.2.2.1, h.2.2.2.2.2.2.1⟩
theorem rel_clM {I : aI} {L : aL} {n nc : Nat} (hn : n ≤ 6) (h8 : ∀ i, i < nc → rlC I L n i) : clM I n nc (scC I) (dcC I) (lnC I) := fun i hi => by
  have h := (h8 i hi).sc hn
  obtain ⟨s, ln, d, -, -, h9, h10, h11, -⟩ := h8 i hi
  refine ⟨h.1, h.2.2.1, h.2.2.2.2.2.1, h.2.2.2.1, by rw [h10]; exact h9, fun z => ?_⟩
  rw [h10] at z
  refine ⟨h.2.2.2.2.2.2.2.2 z, h.2.2.2.2.2.2.1, ?_⟩
  rw [(h11 z).2.1]; exact (h11 z).2.2.1
/-- soundness is the same -/
theorem rel_hl {I J : aI} {L M : aL} {n nc i : Nat} (hn : n ≤ 6) (h7 : ∀ k, k < n → rlS I k ∧ rlL I k) (h8 : ∀ i, i < nc → rlC I L n i) (hi : i < nc) (e : ∀ a b, 27 ≤ a → a ≤ 45 → a ≠ 40 → J a b = I a b) (f : ∀ b, M 47 b = L 47 b) : hlM J M (qI I) (vI I) (fI I) (ooC I) (scC I i) (dcC I i) i ↔ hlP I L (100 + i) (200 + 8 * scC I i) (min (dcC I i) (ooC I (scC I i))) := by
  have h := (h8 i hi).sc hn
  obtain ⟨s, ln, d, -, -, h9, h10, h11, -⟩ := h8 i hi
  obtain ⟨ss, la, sm, co, -, -, -, -, -, g6, g7, g8, g9, g10, g11, g12⟩ := (h7 _ h.1).1
  refine hl_eq (by rw [e 42 i (by decide) (by decide) (by decide)]; exact h10) (by rw [e 44 i (by decide) (by decide) (by decide), h.2.2.2.2.2.1]; exact h.2.2.2.2.1.symm) h.2.2.2.2.1 h.2.2.2.1 (fun z => ⟨by rw [e 45 i (by decide) (by decide) (by decide)]; exact (h11 z).2.1, by rw [f]; exact (h11 z).2.2.2⟩) g7 g9 g11 g8 g10 g12 ?_ ?_ ?_ ?_
  · rw [e 27 _ (by decide) (by decide) (by decide)]; exact g6 2 (by decide)
  · rw [e 28 _ (by decide) (by decide) (by decide)]; exact g6 3 (by decide)
  · rw [e 29 _ (by decide) (by decide) (by decide)]; exact g6 4 (by decide)
  · rw [e 30 _ (by decide) (by decide) (by decide)]; exact g6 5 (by decide)
/-- what a caller may still rely on between the two calls -/
def rlM (N : Nat) (xs : Nat → Int32) (S : aS) (I : aI) : Prop := rlA N xs S I ∧ S 20 = some (.inr 4)
