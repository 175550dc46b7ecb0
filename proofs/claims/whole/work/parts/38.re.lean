/-! what a call leaves: the two sides still tell the same -/
theorem mT_le {j : Nat} {x : (FieldType × Nat) ⊕ Nat} (h : mT j = some x) : j ≤ 30 := Nat.not_lt.mp fun z => by
  obtain ⟨i, rfl⟩ : ∃ i, j = i + 31 := ⟨j - 31, by omega⟩
  cases h
theorem lyM.c {S S' : aS} {R R' : aR} (h : lyM S R) (e : ∀ a, 20 ≤ a → a ≤ 50 → S' a = S a) (f : ∀ k, R' 20 k = R 20 k) : lyM S' R' := ⟨fun j x hj => by rw [e _ (by omega) (by have := mT_le hj; omega)]; exact h.1 j x hj, fun j hj => by rw [f]; exact h.2 j hj⟩
theorem crS_c {f g f' g' : Nat → Int32} : ∀ m, (∀ i, i < m → f i = f' i ∧ g i = g' i) → crS f g m = crS f' g' m := by
  intro m
  induction m with
  | zero => intro _; rfl
  | succ m ih => intro h; rw [crS, crS, ih (fun i hi => h i (by omega)), (h m (by omega)).1, (h m (by omega)).2]
theorem wtS_c {f f' : Nat → Int32} : ∀ m, (∀ i, i < m → f i = f' i) → wtS f m = wtS f' m := by
  intro m
  induction m with
  | zero => intro _; rfl
  | succ m ih => intro h; rw [wtS, wtS, ih (fun i hi => h i (by omega)), h m (by omega)]
theorem spS_c {f h f' h' : Nat → Int32} : ∀ m, (∀ i, i < m → f i = f' i ∧ h i = h' i) → spS f h m = spS f' h' m := by
  intro m
  induction m with
  | zero => intro _; rfl
  | succ m ih => intro z; rw [spS, spS, ih (fun i hi => z i (by omega)), (z m (by omega)).1, (z m (by omega)).2]
theorem slS_c {g g' : Nat → Int32} : ∀ m, (∀ i, i < m → g i = g' i) → slS g m = slS g' m := by
  intro m
  induction m with
  | zero => intro _; rfl
  | succ m ih =>
    intro h
    match m, ih, h with
    | 0, _, _ => rfl
    | j + 1, ih, h => rw [slS, slS, ih (fun i hi => h i (by omega)), h j (by omega), h (j + 1) (by omega)]
set_option maxHeartbeats 4000000 in
theorem re_shell {N : Nat} {xs : Nat → Int32} {S : aS} {I J : aI} {L M : aL} {R : aR} {n nc sh : Nat} {a b c : Nat} (g1 : lyC S R I n nc) (g2 : lyM S R) (g3 : rlA N xs S I) (g4 : rlG I n nc) (g5 : rlB I n sh) (g6 : rlN I n) (g7 : ∀ k, k < n → rlS I k ∧ rlL I k) (g8 : ∀ i, i < nc → rlC I L n i) (g9 : rlK I L nc) (e : ∀ a b, a ≠ 7 ∧ a ≠ 8 ∧ a ≠ 9 ∧ a ≠ 40 ∧ ¬ (a = 20 ∧ (b = 18 ∨ b = 31)) ∧ ¬ ((a = 200 + 8 * n + 1 ∨ a = 200 + 8 * n + 2 ∨ a = 200 + 8 * n + 3 ∨ a = 21 ∨ a = 22 ∨ a = 23) ∧ b = sh) ∧ ¬ (a = 200 + 8 * n ∧ b = 3) ∧ ¬ (a = 20 ∧ b = 0) → J a b = I a b) (f : eqS M L) (hs : sh < 8) (hb : 1 ≤ a ∧ a ≤ 99 ∧ 1 ≤ b ∧ b ≤ 99 ∧ c ≤ 9) (v1 : J (200 + 8 * n) 3 = nI (sh + 1)) (v0 : J 20 0 = nI (sh + 1)) (v2 : J (200 + 8 * n + 1) sh = nI a ∧ J (200 + 8 * n + 2) sh = nI b ∧ J (200 + 8 * n + 3) sh = nI c) (v3 : J 21 sh = nI a ∧ J 22 sh = nI b ∧ J 23 sh = nI c) : Rel N xs S J M R := by
  have hn : n ≤ 6 := g1.2.1
  have hnc : nc ≤ 40 := g1.2.2.1
  have e' := e
  refine ⟨n, nc, sh + 1, g1.y (e' _ _ (by omega)) (e' _ _ (by omega)), g2, g3.c rfl rfl (fun b => e' _ _ (by omega)), g4.c (e' _ _ (by omega)) (e' _ _ (by omega)) (fun b => e' _ _ (by omega)) (e' _ _ (by omega)) (e' _ _ (by omega)) (fun j hj => ⟨e' _ _ (by omega), e' _ _ (by omega)⟩), ?_, g6.c (e' _ _ (by omega)) (fun t ht => ⟨e' _ _ (by omega), e' _ _ (by omega)⟩) (fun k z1 z2 => ⟨e' _ _ (by omega), fun t ht => ⟨e' _ _ (by omega), e' _ _ (by omega)⟩⟩), fun k hk => ⟨(g7 k hk).1.c (fun b => Or.inl (e' _ _ (by omega))) (fun b => e' _ _ (by omega)) (fun b => e' _ _ (by omega)) (fun a z1 z2 => e' _ _ (by omega)), (g7 k hk).2.c (e' _ _ (by omega)) (e' _ _ (by omega)) (fun i hi => e' _ _ (by omega)) (fun i hi => e' _ _ (by omega)) (fun t ht => ⟨e' _ _ (by omega), e' _ _ (by omega), e' _ _ (by omega), e' _ _ (by omega)⟩)⟩, fun i hi => (g8 i hi).c (Nat.le_refl _) (fun b => e' _ _ (by omega)) (fun a z1 z2 => e' _ _ (by omega)) (fun b => f _ _ (by omega) (by omega) (by omega) (by omega) (by omega)) (fun a z => f _ _ (by omega) (by omega) (by omega) (by omega) (by omega)), g9.c (fun i hi => e' _ _ (by omega)) (fun i hi => f _ _ (by omega) (by omega) (by omega) (by omega) (by omega))⟩
  obtain ⟨h1, h2, h3, h4⟩ := g5
  refine ⟨by omega, v1, v0, fun i hi => ?_⟩
  by_cases q : i = sh
  · subst q; exact ⟨a, b, c, v2, hb, v3⟩
  · obtain ⟨x, y, z, w⟩ := h4 i (by omega)
    refine ⟨x, y, z, ?_⟩
    rw [e' (200 + 8 * n + 1) i (by omega), e' (200 + 8 * n + 2) i (by omega), e' (200 + 8 * n + 3) i (by omega), e' 21 i (by omega), e' 22 i (by omega), e' 23 i (by omega)]
    exact w
set_option maxHeartbeats 4000000 in
theorem re_star {N : Nat} {xs : Nat → Int32} {S : aS} {I J : aI} {L M : aL} {R : aR} {n nc sh : Nat} {S' : aS} {R' : aR} (g1 : lyC S R I n nc) (g2 : lyM S R) (g3 : rlA N xs S I) (g4 : rlG I n nc) (g5 : rlB I n sh) (g6 : rlN I n) (g7 : ∀ k, k < n → rlS I k ∧ rlL I k) (g8 : ∀ i, i < nc → rlC I L n i) (g9 : rlK I L nc) (e : ∀ a b, a ≠ 7 ∧ a ≠ 8 ∧ a ≠ 9 ∧ a ≠ 40 ∧ ¬ (a = 20 ∧ (b = 18 ∨ b = 31)) ∧ ¬ (a = 200 + 8 * n ∧ 4 ≤ b ∧ b ≤ 9) ∧ ¬ (a = 3 ∧ b = 1) ∧ (a < 200 + 8 * (n + 1) ∨ 200 + 8 * (n + 1) + 6 < a) ∧ ¬ (a = 20 ∧ (b = 0 ∨ b = 4)) ∧ ¬ (b = n ∧ 25 ≤ a ∧ a ≤ 30) → J a b = I a b) (f : ∀ a b, a ≠ 7 → a ≠ 8 → a ≠ 9 → a ≠ 10 → (a ≠ 39 ∧ a < 200) → M a b = L a b) (h6 : n < 6) (hs0 : 0 < sh) (g1' : lyC S' R' J (n + 1) nc) (g2' : lyM S' R') (q1 : S' 1 = S 1) (q10 : S' 10 = S 10) (v0 : J 20 0 = 0) (v4 : J 20 4 = nI (n + 1)) (w3 : J (200 + 8 * (n + 1)) 3 = 0) (w13 : J (200 + 8 * (n + 1)) 13 = 0) (wt : ∀ t, t < 256 → J (200 + 8 * (n + 1) + 4) t = -1 ∧ J (200 + 8 * (n + 1) + 5) t = 0) (va : ∀ j, j < 6 → J (25 + j) n = J (200 + 8 * n) (4 + j)) (v5 : J (200 + 8 * n) 5 = crS (fun i => I (200 + 8 * n + 1) i) (fun i => I (200 + 8 * n + 2) i) sh) (v6 : J (200 + 8 * n) 6 = 10000000 / crS (fun i => I (200 + 8 * n + 1) i) (fun i => I (200 + 8 * n + 2) i) sh) (v7 : J (200 + 8 * n) 7 = slS (fun i => I (200 + 8 * n + 2) i) sh) (v9 : J (200 + 8 * n) 9 = 3 * (10000000 / crS (fun i => I (200 + 8 * n + 1) i) (fun i => I (200 + 8 * n + 2) i) sh) + 100 * I (200 + 8 * n + 2) 0) : Rel N xs S' J M R' := by
  have hn : n ≤ 6 := g1.2.1
  have hnc : nc ≤ 40 := g1.2.2.1
  have e' := e
  refine ⟨n + 1, nc, 0, g1', g2', g3.c q1 q10 (fun b => e' _ _ (by omega)), ?_, ⟨Nat.zero_le _, w3, v0, fun i hi => absurd hi (Nat.not_lt_zero _)⟩, ?_, fun k hk => ?_, fun i hi => (g8 i hi).c (by omega) (fun b => e' _ _ (by omega)) (fun a z1 z2 => e' _ _ (by omega)) (fun b => f _ _ (by omega) (by omega) (by omega) (by omega) (by omega)) (fun a z => f _ _ (by omega) (by omega) (by omega) (by omega) (by omega)), g9.c (fun i hi => e' _ _ (by omega)) (fun i hi => f _ _ (by omega) (by omega) (by omega) (by omega) (by omega))⟩
  · obtain ⟨h1, h2, h3, h4, h5⟩ := g4
    exact ⟨v4, (e' _ _ (by omega)).trans h2, h3.y (fun b => e' _ _ (by omega)), by rw [e' 20 14 (by omega), e' 3 4 (by omega)]; exact h4, fun j hj => by rw [e' 33 j (by omega), e' 5 j (by omega)]; exact h5 j hj⟩
  · exact ⟨w13, wt, fun k z1 z2 => ⟨(e' _ _ (by omega)).trans (g6.2.2 k (by omega) z2).1, fun t ht => ⟨(e' _ _ (by omega)).trans ((g6.2.2 k (by omega) z2).2 t ht).1, (e' _ _ (by omega)).trans ((g6.2.2 k (by omega) z2).2 t ht).2⟩⟩⟩
  · by_cases q : k = n
    · subst q
      constructor
      · obtain ⟨h1, h2, h3, h4⟩ := g5
        obtain ⟨C, c1, c2, c3⟩ := crS_N (f := fun i => I (200 + 8 * k + 1) i) (g := fun i => I (200 + 8 * k + 2) i) sh h1 (fun i hi => by
          obtain ⟨x, y, z, w, w2, -⟩ := h4 i hi
          exact ⟨x, y, w.1, w.2.1, w2.1, w2.2.1, w2.2.2.1, w2.2.2.2.1⟩)
        obtain ⟨D, d1, d2⟩ := slS_N (g := fun i => I (200 + 8 * k + 2) i) sh h1 (fun i hi => by
          obtain ⟨x, y, z, w, w2, -⟩ := h4 i hi
          exact ⟨y, w.2.1, w2.2.2.2.1⟩)
        obtain ⟨x0, y0, z0, w0, w02, -⟩ := h4 0 hs0
        have eL9 : (10000000 : Int32) / crS (fun i => I (200 + 8 * k + 1) i) (fun i => I (200 + 8 * k + 2) i) sh = nI (10000000 / C) := by
          rw [c1, show (10000000 : Int32) = nI 10000000 from rfl, pk_div (by omega) (by omega) (by omega)]
        have hL9 : 10000000 / C ≤ 1000000 := by
          refine Nat.le_trans (Nat.div_le_div_left (show 10 ≤ C by omega) (by decide)) (by decide)
        refine ⟨sh, 10000000 / C, D, 3 * (10000000 / C) + 100 * y0, hs0, h1, (e' _ _ (by omega)).trans h2, fun i hi => ?_, ?_, va, v6.trans eL9, hL9, v7.trans d1, by omega, ?_, by omega⟩
        · obtain ⟨x, y, z, w, w2, -⟩ := h4 i hi
          exact ⟨x, y, (e' _ _ (by omega)).trans w.1, (e' _ _ (by omega)).trans w.2.1, w2.2.1, w2.2.2.1, w2.2.2.2.1⟩
        · rw [v5]; exact crS_c sh (fun i hi => ⟨(e' _ _ (by omega)).symm, (e' _ _ (by omega)).symm⟩)
        · rw [v9, eL9, w0.2.1, show (3 : Int32) = nI 3 from rfl, show (100 : Int32) = nI 100 from rfl, nI_mul, nI_mul, nI_add]
      · obtain ⟨h1, h2, h3⟩ := g6
        refine ⟨0, by omega, (e' _ _ (by omega)).trans h1, (e' _ _ (by omega)).trans (h3 k (Nat.le_refl _) h6).1, fun i hi => absurd hi (Nat.not_lt_zero _), fun t ht => ⟨⟨0, by omega, (e' _ _ (by omega)).trans (h2 t ht).2, (e' _ _ (by omega)).trans ((h3 k (Nat.le_refl _) h6).2 t ht).2⟩, ?_, Or.inl ((e' _ _ (by omega)).trans (h2 t ht).1)⟩⟩
        rw [e' 31 _ (by omega), e' (200 + 8 * k + 4) _ (by omega), ((h3 k (Nat.le_refl _) h6).2 t ht).1, (h2 t ht).1]
    · have hk2 : k < n := by omega
      exact ⟨(g7 k hk2).1.c (fun b => Or.inl (e' _ _ (by omega))) (fun b => e' _ _ (by omega)) (fun b => e' _ _ (by omega)) (fun a z1 z2 => e' _ _ (by omega)), (g7 k hk2).2.c (e' _ _ (by omega)) (e' _ _ (by omega)) (fun i hi => e' _ _ (by omega)) (fun i hi => e' _ _ (by omega)) (fun t ht => ⟨e' _ _ (by omega), e' _ _ (by omega), e' _ _ (by omega), e' _ _ (by omega)⟩)⟩
set_option maxHeartbeats 4000000 in
theorem re_frame {N : Nat} {xs : Nat → Int32} {S : aS} {I J : aI} {L M : aL} {R : aR} {n nc sh : Nat} {k0 : Nat} {t0 j0 c0 : Nat} (g1 : lyC S R I n nc) (g2 : lyM S R) (g3 : rlA N xs S I) (g4 : rlG I n nc) (g5 : rlB I n sh) (g6 : rlN I n) (g7 : ∀ k, k < n → rlS I k ∧ rlL I k) (g8 : ∀ i, i < nc → rlC I L n i) (g9 : rlK I L nc) (e : ∀ a b, a ≠ 7 ∧ a ≠ 8 ∧ a ≠ 9 ∧ a ≠ 40 ∧ ¬ (a = 20 ∧ (b = 18 ∨ b = 31)) ∧ ¬ ((a = 200 + 8 * k0 + 4 ∨ a = 200 + 8 * k0 + 5) ∧ b = t0) ∧ ¬ ((a = 31 ∨ a = 32) ∧ b = 256 * k0 + t0) → J a b = I a b) (f : eqS M L) (hk0 : k0 < n) (ht0 : t0 < 256) (hj0 : j0 < 4) (hc0 : c0 ≤ 9999) (v1 : J (200 + 8 * k0 + 4) t0 = nI c0) (v2 : J (200 + 8 * k0 + 5) t0 = nI j0) (v3 : J 31 (256 * k0 + t0) = nI c0) (v4 : J 32 (256 * k0 + t0) = nI j0) : Rel N xs S J M R := by
  have hn : n ≤ 6 := g1.2.1
  have hnc : nc ≤ 40 := g1.2.2.1
  have e' := e
  refine ⟨n, nc, sh, g1.y (e' _ _ (by omega)) (e' _ _ (by omega)), g2, g3.c rfl rfl (fun b => e' _ _ (by omega)), g4.c (e' _ _ (by omega)) (e' _ _ (by omega)) (fun b => e' _ _ (by omega)) (e' _ _ (by omega)) (e' _ _ (by omega)) (fun j hj => ⟨e' _ _ (by omega), e' _ _ (by omega)⟩), g5.c (e' _ _ (by omega)) (e' _ _ (by omega)) (fun i hi => ⟨e' _ _ (by omega), e' _ _ (by omega), e' _ _ (by omega), e' _ _ (by omega), e' _ _ (by omega), e' _ _ (by omega)⟩), g6.c (e' _ _ (by omega)) (fun t ht => ⟨e' _ _ (by omega), e' _ _ (by omega)⟩) (fun k z1 z2 => ⟨e' _ _ (by omega), fun t ht => ⟨e' _ _ (by omega), e' _ _ (by omega)⟩⟩), fun k hk => ⟨(g7 k hk).1.c (fun b => if h : b = 13 then Or.inr h else Or.inl (e' _ _ (by omega))) (fun b => e' _ _ (by omega)) (fun b => e' _ _ (by omega)) (fun a z1 z2 => e' _ _ (by omega)), ?_⟩, fun i hi => (g8 i hi).c (Nat.le_refl _) (fun b => e' _ _ (by omega)) (fun a z1 z2 => e' _ _ (by omega)) (fun b => f _ _ (by omega) (by omega) (by omega) (by omega) (by omega)) (fun a z => f _ _ (by omega) (by omega) (by omega) (by omega) (by omega)), g9.c (fun i hi => e' _ _ (by omega)) (fun i hi => f _ _ (by omega) (by omega) (by omega) (by omega) (by omega))⟩
  by_cases q : k = k0
  · subst q
    have h0 := (g7 k hk).2
    obtain ⟨o, h1, h2, h3, h4, h5⟩ := h0
    refine ⟨o, h1, (e' _ _ (by omega)).trans h2, (e' _ _ (by omega)).trans h3, fun i hi => by rw [e' (200 + 8 * k + 6) i (by omega), e' 36 (6 * k + i) (by omega)]; exact h4 i hi, fun u hu => ?_⟩
    by_cases qt : u = t0
    · subst qt
      exact ⟨⟨j0, hj0, v2, v4⟩, v3.trans v1.symm, Or.inr ⟨c0, hc0, v1⟩⟩
    · rw [e' (200 + 8 * k + 5) u (by omega), e' 32 (256 * k + u) (by omega), e' 31 (256 * k + u) (by omega), e' (200 + 8 * k + 4) u (by omega)]; exact h5 u hu
  · exact (g7 k hk).2.c (e' _ _ (by omega)) (e' _ _ (by omega)) (fun i hi => e' _ _ (by omega)) (fun i hi => e' _ _ (by omega)) (fun t ht => ⟨e' _ _ (by omega), e' _ _ (by omega), e' _ _ (by omega), e' _ _ (by omega)⟩)
set_option maxHeartbeats 4000000 in
theorem re_drop {N : Nat} {xs : Nat → Int32} {S : aS} {I J : aI} {L M : aL} {R : aR} {n nc sh : Nat} {k0 : Nat} {t0 : Nat} (g1 : lyC S R I n nc) (g2 : lyM S R) (g3 : rlA N xs S I) (g4 : rlG I n nc) (g5 : rlB I n sh) (g6 : rlN I n) (g7 : ∀ k, k < n → rlS I k ∧ rlL I k) (g8 : ∀ i, i < nc → rlC I L n i) (g9 : rlK I L nc) (e : ∀ a b, a ≠ 7 ∧ a ≠ 8 ∧ a ≠ 9 ∧ a ≠ 40 ∧ ¬ (a = 20 ∧ (b = 18 ∨ b = 31)) ∧ ¬ (a = 200 + 8 * k0 + 4 ∧ b = t0) ∧ ¬ (a = 31 ∧ b = 256 * k0 + t0) → J a b = I a b) (f : eqS M L) (hk0 : k0 < n) (ht0 : t0 < 256) (v1 : J (200 + 8 * k0 + 4) t0 = -1) (v3 : J 31 (256 * k0 + t0) = -1) : Rel N xs S J M R := by
  have hn : n ≤ 6 := g1.2.1
  have hnc : nc ≤ 40 := g1.2.2.1
  have e' := e
  refine ⟨n, nc, sh, g1.y (e' _ _ (by omega)) (e' _ _ (by omega)), g2, g3.c rfl rfl (fun b => e' _ _ (by omega)), g4.c (e' _ _ (by omega)) (e' _ _ (by omega)) (fun b => e' _ _ (by omega)) (e' _ _ (by omega)) (e' _ _ (by omega)) (fun j hj => ⟨e' _ _ (by omega), e' _ _ (by omega)⟩), g5.c (e' _ _ (by omega)) (e' _ _ (by omega)) (fun i hi => ⟨e' _ _ (by omega), e' _ _ (by omega), e' _ _ (by omega), e' _ _ (by omega), e' _ _ (by omega), e' _ _ (by omega)⟩), g6.c (e' _ _ (by omega)) (fun t ht => ⟨e' _ _ (by omega), e' _ _ (by omega)⟩) (fun k z1 z2 => ⟨e' _ _ (by omega), fun t ht => ⟨e' _ _ (by omega), e' _ _ (by omega)⟩⟩), fun k hk => ⟨(g7 k hk).1.c (fun b => if h : b = 13 then Or.inr h else Or.inl (e' _ _ (by omega))) (fun b => e' _ _ (by omega)) (fun b => e' _ _ (by omega)) (fun a z1 z2 => e' _ _ (by omega)), ?_⟩, fun i hi => (g8 i hi).c (Nat.le_refl _) (fun b => e' _ _ (by omega)) (fun a z1 z2 => e' _ _ (by omega)) (fun b => f _ _ (by omega) (by omega) (by omega) (by omega) (by omega)) (fun a z => f _ _ (by omega) (by omega) (by omega) (by omega) (by omega)), g9.c (fun i hi => e' _ _ (by omega)) (fun i hi => f _ _ (by omega) (by omega) (by omega) (by omega) (by omega))⟩
  by_cases q : k = k0
  · subst q
    have h0 := (g7 k hk).2
    obtain ⟨o, h1, h2, h3, h4, h5⟩ := h0
    refine ⟨o, h1, (e' _ _ (by omega)).trans h2, (e' _ _ (by omega)).trans h3, fun i hi => by rw [e' (200 + 8 * k + 6) i (by omega), e' 36 (6 * k + i) (by omega)]; exact h4 i hi, fun u hu => ?_⟩
    by_cases qt : u = t0
    · subst qt
      obtain ⟨⟨j, a1, a2, a3⟩, -⟩ := h5 u hu
      exact ⟨⟨j, a1, (e' _ _ (by omega)).trans a2, (e' _ _ (by omega)).trans a3⟩, v3.trans v1.symm, Or.inl v1⟩
    · rw [e' (200 + 8 * k + 5) u (by omega), e' 32 (256 * k + u) (by omega), e' 31 (256 * k + u) (by omega), e' (200 + 8 * k + 4) u (by omega)]; exact h5 u hu
  · exact (g7 k hk).2.c (e' _ _ (by omega)) (e' _ _ (by omega)) (fun i hi => e' _ _ (by omega)) (fun i hi => e' _ _ (by omega)) (fun t ht => ⟨e' _ _ (by omega), e' _ _ (by omega), e' _ _ (by omega), e' _ _ (by omega)⟩)
set_option maxHeartbeats 4000000 in
theorem re_takeOut {N : Nat} {xs : Nat → Int32} {S : aS} {I J : aI} {L M : aL} {R : aR} {n nc sh : Nat} {k0 : Nat} {o0 j0 : Nat} (g1 : lyC S R I n nc) (g2 : lyM S R) (g3 : rlA N xs S I) (g4 : rlG I n nc) (g5 : rlB I n sh) (g6 : rlN I n) (g7 : ∀ k, k < n → rlS I k ∧ rlL I k) (g8 : ∀ i, i < nc → rlC I L n i) (g9 : rlK I L nc) (e : ∀ a b, a ≠ 7 ∧ a ≠ 8 ∧ a ≠ 9 ∧ a ≠ 40 ∧ ¬ (a = 20 ∧ (b = 18 ∨ b = 31)) ∧ ¬ (a = 200 + 8 * k0 + 6 ∧ b = o0) ∧ ¬ (a = 200 + 8 * k0 ∧ b = 13) ∧ ¬ (a = 36 ∧ b = 6 * k0 + o0) ∧ ¬ (a = 35 ∧ b = k0) → J a b = I a b) (f : eqS M L) (hk0 : k0 < n) (ho0 : o0 < 6) (hoo : I 35 k0 = nI o0) (hj0 : j0 < 32) (v1 : J (200 + 8 * k0 + 6) o0 = nI j0) (v2 : J (200 + 8 * k0) 13 = nI (o0 + 1)) (v3 : J 36 (6 * k0 + o0) = nI j0) (v4 : J 35 k0 = nI (o0 + 1)) : Rel N xs S J M R := by
  have hn : n ≤ 6 := g1.2.1
  have hnc : nc ≤ 40 := g1.2.2.1
  have e' := e
  refine ⟨n, nc, sh, g1.y (e' _ _ (by omega)) (e' _ _ (by omega)), g2, g3.c rfl rfl (fun b => e' _ _ (by omega)), g4.c (e' _ _ (by omega)) (e' _ _ (by omega)) (fun b => e' _ _ (by omega)) (e' _ _ (by omega)) (e' _ _ (by omega)) (fun j hj => ⟨e' _ _ (by omega), e' _ _ (by omega)⟩), g5.c (e' _ _ (by omega)) (e' _ _ (by omega)) (fun i hi => ⟨e' _ _ (by omega), e' _ _ (by omega), e' _ _ (by omega), e' _ _ (by omega), e' _ _ (by omega), e' _ _ (by omega)⟩), g6.c (e' _ _ (by omega)) (fun t ht => ⟨e' _ _ (by omega), e' _ _ (by omega)⟩) (fun k z1 z2 => ⟨e' _ _ (by omega), fun t ht => ⟨e' _ _ (by omega), e' _ _ (by omega)⟩⟩), fun k hk => ⟨(g7 k hk).1.c (fun b => if h : b = 13 then Or.inr h else Or.inl (e' _ _ (by omega))) (fun b => e' _ _ (by omega)) (fun b => e' _ _ (by omega)) (fun a z1 z2 => e' _ _ (by omega)), ?_⟩, fun i hi => (g8 i hi).c (Nat.le_refl _) (fun b => e' _ _ (by omega)) (fun a z1 z2 => e' _ _ (by omega)) (fun b => f _ _ (by omega) (by omega) (by omega) (by omega) (by omega)) (fun a z => f _ _ (by omega) (by omega) (by omega) (by omega) (by omega)), g9.c (fun i hi => e' _ _ (by omega)) (fun i hi => f _ _ (by omega) (by omega) (by omega) (by omega) (by omega))⟩
  by_cases q : k = k0
  · subst q
    have h0 := (g7 k hk).2
    obtain ⟨o, h1, h2, h3, h4, h5⟩ := h0
    obtain rfl : o = o0 := nI_inj (by omega) (by omega) (h3.symm.trans hoo)
    refine ⟨o + 1, by omega, v2, v4, fun i hi => ?_, fun u hu => by rw [e' (200 + 8 * k + 5) u (by omega), e' 32 (256 * k + u) (by omega), e' 31 (256 * k + u) (by omega), e' (200 + 8 * k + 4) u (by omega)]; exact h5 u hu⟩
    by_cases qi : i = o
    · subst qi; exact ⟨j0, hj0, v1, v3⟩
    · rw [e' (200 + 8 * k + 6) i (by omega), e' 36 (6 * k + i) (by omega)]; exact h4 i (by omega)
  · exact (g7 k hk).2.c (e' _ _ (by omega)) (e' _ _ (by omega)) (fun i hi => e' _ _ (by omega)) (fun i hi => e' _ _ (by omega)) (fun t ht => ⟨e' _ _ (by omega), e' _ _ (by omega), e' _ _ (by omega), e' _ _ (by omega)⟩)
set_option maxHeartbeats 4000000 in
theorem re_putBack {N : Nat} {xs : Nat → Int32} {S : aS} {I J : aI} {L M : aL} {R : aR} {n nc sh : Nat} {k0 : Nat}  (g1 : lyC S R I n nc) (g2 : lyM S R) (g3 : rlA N xs S I) (g4 : rlG I n nc) (g5 : rlB I n sh) (g6 : rlN I n) (g7 : ∀ k, k < n → rlS I k ∧ rlL I k) (g8 : ∀ i, i < nc → rlC I L n i) (g9 : rlK I L nc) (e : ∀ a b, a ≠ 7 ∧ a ≠ 8 ∧ a ≠ 9 ∧ a ≠ 40 ∧ ¬ (a = 20 ∧ (b = 18 ∨ b = 31)) ∧ ¬ (a = 200 + 8 * k0 ∧ b = 13) ∧ ¬ (a = 35 ∧ b = k0) → J a b = I a b) (f : eqS M L) (hk0 : k0 < n) (v2 : J (200 + 8 * k0) 13 = 0) (v4 : J 35 k0 = 0) : Rel N xs S J M R := by
  have hn : n ≤ 6 := g1.2.1
  have hnc : nc ≤ 40 := g1.2.2.1
  have e' := e
  refine ⟨n, nc, sh, g1.y (e' _ _ (by omega)) (e' _ _ (by omega)), g2, g3.c rfl rfl (fun b => e' _ _ (by omega)), g4.c (e' _ _ (by omega)) (e' _ _ (by omega)) (fun b => e' _ _ (by omega)) (e' _ _ (by omega)) (e' _ _ (by omega)) (fun j hj => ⟨e' _ _ (by omega), e' _ _ (by omega)⟩), g5.c (e' _ _ (by omega)) (e' _ _ (by omega)) (fun i hi => ⟨e' _ _ (by omega), e' _ _ (by omega), e' _ _ (by omega), e' _ _ (by omega), e' _ _ (by omega), e' _ _ (by omega)⟩), g6.c (e' _ _ (by omega)) (fun t ht => ⟨e' _ _ (by omega), e' _ _ (by omega)⟩) (fun k z1 z2 => ⟨e' _ _ (by omega), fun t ht => ⟨e' _ _ (by omega), e' _ _ (by omega)⟩⟩), fun k hk => ⟨(g7 k hk).1.c (fun b => if h : b = 13 then Or.inr h else Or.inl (e' _ _ (by omega))) (fun b => e' _ _ (by omega)) (fun b => e' _ _ (by omega)) (fun a z1 z2 => e' _ _ (by omega)), ?_⟩, fun i hi => (g8 i hi).c (Nat.le_refl _) (fun b => e' _ _ (by omega)) (fun a z1 z2 => e' _ _ (by omega)) (fun b => f _ _ (by omega) (by omega) (by omega) (by omega) (by omega)) (fun a z => f _ _ (by omega) (by omega) (by omega) (by omega) (by omega)), g9.c (fun i hi => e' _ _ (by omega)) (fun i hi => f _ _ (by omega) (by omega) (by omega) (by omega) (by omega))⟩
  by_cases q : k = k0
  · subst q
    have h0 := (g7 k hk).2
    obtain ⟨o, h1, h2, h3, h4, h5⟩ := h0
    exact ⟨0, by omega, v2, v4, fun i hi => absurd hi (Nat.not_lt_zero _), fun u hu => by rw [e' (200 + 8 * k + 5) u (by omega), e' 32 (256 * k + u) (by omega), e' 31 (256 * k + u) (by omega), e' (200 + 8 * k + 4) u (by omega)]; exact h5 u hu⟩
  · exact (g7 k hk).2.c (e' _ _ (by omega)) (e' _ _ (by omega)) (fun i hi => e' _ _ (by omega)) (fun i hi => e' _ _ (by omega)) (fun t ht => ⟨e' _ _ (by omega), e' _ _ (by omega), e' _ _ (by omega), e' _ _ (by omega)⟩)
set_option maxHeartbeats 4000000 in
theorem re_mask {N : Nat} {xs : Nat → Int32} {S : aS} {I J : aI} {L M : aL} {R : aR} {n nc sh : Nat} {j0 : Nat} {y : Int32} (g1 : lyC S R I n nc) (g2 : lyM S R) (g3 : rlA N xs S I) (g4 : rlG I n nc) (g5 : rlB I n sh) (g6 : rlN I n) (g7 : ∀ k, k < n → rlS I k ∧ rlL I k) (g8 : ∀ i, i < nc → rlC I L n i) (g9 : rlK I L nc) (e : ∀ a b, a ≠ 7 ∧ a ≠ 8 ∧ a ≠ 9 ∧ a ≠ 40 ∧ ¬ (a = 20 ∧ (b = 18 ∨ b = 31)) ∧ ¬ ((a = 5 ∨ a = 33) ∧ b = j0) → J a b = I a b) (f : eqS M L) (hy : y = 0 ∨ y = 1) (v1 : J 5 j0 = y) (v2 : J 33 j0 = y) : Rel N xs S J M R := by
  have hn : n ≤ 6 := g1.2.1
  have hnc : nc ≤ 40 := g1.2.2.1
  have e' := e
  refine ⟨n, nc, sh, g1.y (e' _ _ (by omega)) (e' _ _ (by omega)), g2, g3.c rfl rfl (fun b => e' _ _ (by omega)), ?_, g5.c (e' _ _ (by omega)) (e' _ _ (by omega)) (fun i hi => ⟨e' _ _ (by omega), e' _ _ (by omega), e' _ _ (by omega), e' _ _ (by omega), e' _ _ (by omega), e' _ _ (by omega)⟩), g6.c (e' _ _ (by omega)) (fun t ht => ⟨e' _ _ (by omega), e' _ _ (by omega)⟩) (fun k z1 z2 => ⟨e' _ _ (by omega), fun t ht => ⟨e' _ _ (by omega), e' _ _ (by omega)⟩⟩), fun k hk => ⟨(g7 k hk).1.c (fun b => Or.inl (e' _ _ (by omega))) (fun b => e' _ _ (by omega)) (fun b => e' _ _ (by omega)) (fun a z1 z2 => e' _ _ (by omega)), (g7 k hk).2.c (e' _ _ (by omega)) (e' _ _ (by omega)) (fun i hi => e' _ _ (by omega)) (fun i hi => e' _ _ (by omega)) (fun t ht => ⟨e' _ _ (by omega), e' _ _ (by omega), e' _ _ (by omega), e' _ _ (by omega)⟩)⟩, fun i hi => (g8 i hi).c (Nat.le_refl _) (fun b => e' _ _ (by omega)) (fun a z1 z2 => e' _ _ (by omega)) (fun b => f _ _ (by omega) (by omega) (by omega) (by omega) (by omega)) (fun a z => f _ _ (by omega) (by omega) (by omega) (by omega) (by omega)), g9.c (fun i hi => e' _ _ (by omega)) (fun i hi => f _ _ (by omega) (by omega) (by omega) (by omega) (by omega))⟩
  obtain ⟨h1, h2, h3, h4, h5⟩ := g4
  refine ⟨(e' _ _ (by omega)).trans h1, (e' _ _ (by omega)).trans h2, h3.y (fun b => e' _ _ (by omega)), by rw [e' 20 14 (by omega), e' 3 4 (by omega)]; exact h4, fun j hj => ?_⟩
  by_cases q : j = j0
  · subst q; rw [v1, v2]; exact ⟨rfl, hy⟩
  · rw [e' 33 j (by omega), e' 5 j (by omega)]; exact h5 j hj
set_option maxHeartbeats 4000000 in
theorem re_threshold {N : Nat} {xs : Nat → Int32} {S : aS} {I J : aI} {L M : aL} {R : aR} {n nc sh : Nat} {y : Int32} (g1 : lyC S R I n nc) (g2 : lyM S R) (g3 : rlA N xs S I) (g4 : rlG I n nc) (g5 : rlB I n sh) (g6 : rlN I n) (g7 : ∀ k, k < n → rlS I k ∧ rlL I k) (g8 : ∀ i, i < nc → rlC I L n i) (g9 : rlK I L nc) (e : ∀ a b, a ≠ 7 ∧ a ≠ 8 ∧ a ≠ 9 ∧ a ≠ 40 ∧ ¬ (a = 20 ∧ (b = 18 ∨ b = 31)) ∧ ¬ (a = 3 ∧ b = 4) ∧ ¬ (a = 20 ∧ b = 14) → J a b = I a b) (f : eqS M L) (v1 : J 3 4 = y) (v2 : J 20 14 = y) : Rel N xs S J M R := by
  have hn : n ≤ 6 := g1.2.1
  have hnc : nc ≤ 40 := g1.2.2.1
  have e' := e
  refine ⟨n, nc, sh, g1.y (e' _ _ (by omega)) (e' _ _ (by omega)), g2, g3.c rfl rfl (fun b => e' _ _ (by omega)), ?_, g5.c (e' _ _ (by omega)) (e' _ _ (by omega)) (fun i hi => ⟨e' _ _ (by omega), e' _ _ (by omega), e' _ _ (by omega), e' _ _ (by omega), e' _ _ (by omega), e' _ _ (by omega)⟩), g6.c (e' _ _ (by omega)) (fun t ht => ⟨e' _ _ (by omega), e' _ _ (by omega)⟩) (fun k z1 z2 => ⟨e' _ _ (by omega), fun t ht => ⟨e' _ _ (by omega), e' _ _ (by omega)⟩⟩), fun k hk => ⟨(g7 k hk).1.c (fun b => Or.inl (e' _ _ (by omega))) (fun b => e' _ _ (by omega)) (fun b => e' _ _ (by omega)) (fun a z1 z2 => e' _ _ (by omega)), (g7 k hk).2.c (e' _ _ (by omega)) (e' _ _ (by omega)) (fun i hi => e' _ _ (by omega)) (fun i hi => e' _ _ (by omega)) (fun t ht => ⟨e' _ _ (by omega), e' _ _ (by omega), e' _ _ (by omega), e' _ _ (by omega)⟩)⟩, fun i hi => (g8 i hi).c (Nat.le_refl _) (fun b => e' _ _ (by omega)) (fun a z1 z2 => e' _ _ (by omega)) (fun b => f _ _ (by omega) (by omega) (by omega) (by omega) (by omega)) (fun a z => f _ _ (by omega) (by omega) (by omega) (by omega) (by omega)), g9.c (fun i hi => e' _ _ (by omega)) (fun i hi => f _ _ (by omega) (by omega) (by omega) (by omega) (by omega))⟩
  obtain ⟨h1, h2, h3, h4, h5⟩ := g4
  refine ⟨(e' _ _ (by omega)).trans h1, (e' _ _ (by omega)).trans h2, h3.y (fun b => e' _ _ (by omega)), v2.trans v1.symm, fun j hj => ?_⟩
  rw [e' 33 j (by omega), e' 5 j (by omega)]; exact h5 j hj
set_option maxHeartbeats 4000000 in
theorem re_claim {N : Nat} {xs : Nat → Int32} {S : aS} {I J : aI} {L M : aL} {R : aR} {n nc sh : Nat} {S' : aS} {R' : aR} {kd fl ag : Int32} {po ci : Int64} {s ln d : Nat} (g1 : lyC S R I n nc) (g2 : lyM S R) (g3 : rlA N xs S I) (g4 : rlG I n nc) (g5 : rlB I n sh) (g6 : rlN I n) (g7 : ∀ k, k < n → rlS I k ∧ rlL I k) (g8 : ∀ i, i < nc → rlC I L n i) (g9 : rlK I L nc) (e : ∀ a b, a ≠ 7 ∧ a ≠ 8 ∧ a ≠ 9 ∧ a ≠ 40 ∧ ¬ (a = 20 ∧ (b = 18 ∨ b = 31)) ∧ a ≠ 100 + nc ∧ ¬ (a = 3 ∧ b = 6) ∧ ¬ (a = 20 ∧ b = 21) ∧ ¬ (b = nc ∧ 42 ≤ a ∧ a ≤ 50) → J a b = I a b) (f : ∀ a b, a ≠ 7 ∧ a ≠ 8 ∧ a ≠ 9 ∧ a ≠ 10 ∧ a ≠ 39 ∧ a ≠ 100 + nc ∧ ¬ (b = nc ∧ (a = 47 ∨ a = 49)) → M a b = L a b) (h40 : nc < 40) (g1' : lyC S' R' J n (nc + 1)) (g2' : lyM S' R') (q1 : S' 1 = S 1) (q10 : S' 10 = S 10) (hb : s < n ∧ ln < 32 ∧ d ≤ 6) (hkd : kd = 0 ∨ kd = 1 ∨ kd = 2) (hfl : kd = 0 → fl = 0 ∨ fl = 1 ∨ fl = 2) (hci : ci.toBitVec.toNat < 2 ^ nc) (hct : ∀ j, j < nc → bqP ci j → I (100 + j) 8 ≠ 0) (c : J (100 + nc) 0 = kd ∧ J (100 + nc) 1 = nI s ∧ J (100 + nc) 2 = nI ln ∧ J (100 + nc) 3 = fl ∧ J (100 + nc) 4 = nI d ∧ M (100 + nc) 5 = po ∧ J (100 + nc) 6 = ag ∧ M (100 + nc) 7 = ci ∧ J (100 + nc) 8 = 1) (m : J 20 21 = nI (nc + 1) ∧ J 42 nc = kd ∧ J 43 nc = nI s ∧ J 44 nc = nI ln ∧ (kd = 0 → J 45 nc = fl ∧ J 46 nc = nI d ∧ M 47 nc = po) ∧ J 48 nc = ag ∧ M 49 nc = ci ∧ J 50 nc = 1) : Rel N xs S' J M R' := by
  have hn : n ≤ 6 := g1.2.1
  have hnc : nc ≤ 40 := g1.2.2.1
  have e' := e
  refine ⟨n, nc + 1, sh, g1', g2', g3.c q1 q10 (fun b => e' _ _ (by omega)), ?_, g5.c (e' _ _ (by omega)) (e' _ _ (by omega)) (fun i hi => ⟨e' _ _ (by omega), e' _ _ (by omega), e' _ _ (by omega), e' _ _ (by omega), e' _ _ (by omega), e' _ _ (by omega)⟩), g6.c (e' _ _ (by omega)) (fun t ht => ⟨e' _ _ (by omega), e' _ _ (by omega)⟩) (fun k z1 z2 => ⟨e' _ _ (by omega), fun t ht => ⟨e' _ _ (by omega), e' _ _ (by omega)⟩⟩), fun k hk => ⟨(g7 k hk).1.c (fun b => Or.inl (e' _ _ (by omega))) (fun b => e' _ _ (by omega)) (fun b => e' _ _ (by omega)) (fun a z1 z2 => e' _ _ (by omega)), (g7 k hk).2.c (e' _ _ (by omega)) (e' _ _ (by omega)) (fun i hi => e' _ _ (by omega)) (fun i hi => e' _ _ (by omega)) (fun t ht => ⟨e' _ _ (by omega), e' _ _ (by omega), e' _ _ (by omega), e' _ _ (by omega)⟩)⟩, fun i hi => ?_, fun i hi hz j hj hq => ?_⟩
  · obtain ⟨h1, h2, h3, h4, h5⟩ := g4
    exact ⟨(e' _ _ (by omega)).trans h1, m.1, h3.y (fun b => e' _ _ (by omega)), by rw [e' 20 14 (by omega), e' 3 4 (by omega)]; exact h4, fun j hj => by rw [e' 33 j (by omega), e' 5 j (by omega)]; exact h5 j hj⟩
  · by_cases q : i = nc
    · subst q
      obtain ⟨c0, c1, c2, c3, c4, c5, c6, c7, c8⟩ := c
      obtain ⟨m0, m2, m3, m4, m5, m6, m7, m8⟩ := m
      refine ⟨s, ln, d, hb, ⟨c1, m3, c2, m4, c4⟩, by rw [c0]; exact hkd, by rw [m2, c0], fun z => ?_, by rw [m6, c6], by rw [m7, c7], by rw [c7]; exact hci, by rw [m8, c8], by rw [c8]; exact Or.inr rfl⟩
      rw [c0] at z
      rw [(m5 z).1, (m5 z).2.2, c3, c5]
      exact ⟨(m5 z).2.1, rfl, hfl z, rfl⟩
    · exact (g8 i (by omega)).c (Nat.le_refl _) (fun b => e' _ _ (by omega)) (fun a z1 z2 => e' _ _ (by omega)) (fun b => f _ _ (by omega)) (fun a z => f _ _ (by omega))
  · rw [e' (100 + j) 8 (by omega)]
    by_cases q : i = nc
    · subst q
      rw [c.2.2.2.2.2.2.2.1] at hq
      exact hct j hj hq
    · rw [e' (100 + i) 8 (by omega)] at hz
      rw [f (100 + i) 7 (by omega)] at hq
      exact g9 i (by omega) hz j hj hq
set_option maxHeartbeats 4000000 in
theorem re_cite {N : Nat} {xs : Nat → Int32} {S : aS} {I J : aI} {L M : aL} {R : aR} {n nc sh : Nat} {i0 j0 : Nat} {ci : Int64} (g1 : lyC S R I n nc) (g2 : lyM S R) (g3 : rlA N xs S I) (g4 : rlG I n nc) (g5 : rlB I n sh) (g6 : rlN I n) (g7 : ∀ k, k < n → rlS I k ∧ rlL I k) (g8 : ∀ i, i < nc → rlC I L n i) (g9 : rlK I L nc) (e : ∀ a b, a ≠ 7 ∧ a ≠ 8 ∧ a ≠ 9 ∧ a ≠ 40 ∧ ¬ (a = 20 ∧ (b = 18 ∨ b = 31)) ∧ a ≠ 7 → J a b = I a b) (f : ∀ a b, a ≠ 7 ∧ a ≠ 8 ∧ a ≠ 9 ∧ a ≠ 10 ∧ a ≠ 39 ∧ ¬ (a = 100 + i0 ∧ b = 7) ∧ ¬ (a = 49 ∧ b = i0) → M a b = L a b) (hi0 : i0 < nc) (hj0 : j0 < i0) (hsj : I (100 + j0) 8 ≠ 0) (hci : ci = L (100 + i0) 7 ||| bitL (nI j0)) (v1 : M (100 + i0) 7 = ci) (v2 : M 49 i0 = ci) : Rel N xs S J M R := by
  have hn : n ≤ 6 := g1.2.1
  have hnc : nc ≤ 40 := g1.2.2.1
  have e' := e
  refine ⟨n, nc, sh, g1.y (e' _ _ (by omega)) (e' _ _ (by omega)), g2, g3.c rfl rfl (fun b => e' _ _ (by omega)), g4.c (e' _ _ (by omega)) (e' _ _ (by omega)) (fun b => e' _ _ (by omega)) (e' _ _ (by omega)) (e' _ _ (by omega)) (fun j hj => ⟨e' _ _ (by omega), e' _ _ (by omega)⟩), g5.c (e' _ _ (by omega)) (e' _ _ (by omega)) (fun i hi => ⟨e' _ _ (by omega), e' _ _ (by omega), e' _ _ (by omega), e' _ _ (by omega), e' _ _ (by omega), e' _ _ (by omega)⟩), g6.c (e' _ _ (by omega)) (fun t ht => ⟨e' _ _ (by omega), e' _ _ (by omega)⟩) (fun k z1 z2 => ⟨e' _ _ (by omega), fun t ht => ⟨e' _ _ (by omega), e' _ _ (by omega)⟩⟩), fun k hk => ⟨(g7 k hk).1.c (fun b => Or.inl (e' _ _ (by omega))) (fun b => e' _ _ (by omega)) (fun b => e' _ _ (by omega)) (fun a z1 z2 => e' _ _ (by omega)), (g7 k hk).2.c (e' _ _ (by omega)) (e' _ _ (by omega)) (fun i hi => e' _ _ (by omega)) (fun i hi => e' _ _ (by omega)) (fun t ht => ⟨e' _ _ (by omega), e' _ _ (by omega), e' _ _ (by omega), e' _ _ (by omega)⟩)⟩, fun i hi => ?_, fun i hi hz j hj hq => ?_⟩
  · by_cases q : i = i0
    · subst q
      obtain ⟨s, ln, d, h1, h2, h3, h4, h5, h6, h7, h8, h9, h10⟩ := g8 i hi
      refine ⟨s, ln, d, h1, ?_, ?_, ?_, ?_, ?_, v2.trans v1.symm, ?_, ?_, ?_⟩
      · rw [e' (100 + i) 1 (by omega), e' 43 i (by omega), e' (100 + i) 2 (by omega), e' 44 i (by omega), e' (100 + i) 4 (by omega)]; exact h2
      · rw [e' (100 + i) 0 (by omega)]; exact h3
      · rw [e' (100 + i) 0 (by omega), e' 42 i (by omega)]; exact h4
      · rw [e' (100 + i) 0 (by omega), e' 46 i (by omega), e' 45 i (by omega), e' (100 + i) 3 (by omega), f 47 i (by omega), f (100 + i) 5 (by omega)]; exact h5
      · rw [e' 48 i (by omega), e' (100 + i) 6 (by omega)]; exact h6
      · rw [v1, hci]
        refine or_tb h8 ?_
        rw [bitL_tb (by omega)]
        exact Nat.pow_lt_pow_right (by decide) hj0
      · rw [e' 50 i (by omega), e' (100 + i) 8 (by omega)]; exact h9
      · rw [e' (100 + i) 8 (by omega)]; exact h10
    · exact (g8 i hi).c (Nat.le_refl _) (fun b => e' _ _ (by omega)) (fun a z1 z2 => e' _ _ (by omega)) (fun b => f _ _ (by omega)) (fun a z => f _ _ (by omega))
  · rw [e' (100 + j) 8 (by omega)]
    rw [e' (100 + i) 8 (by omega)] at hz
    by_cases q : i = i0
    · subst q
      rw [v1, hci, bqP_bt (by omega), or_bt, bit_bt (by omega)] at hq
      rcases hq with y | y
      · exact g9 i hi hz j hj ((bqP_bt (by omega)).mpr y)
      · rw [y]; exact hsj
    · rw [f (100 + i) 7 (by omega)] at hq
      exact g9 i hi hz j hj hq
set_option maxHeartbeats 4000000 in
theorem re_falls {N : Nat} {xs : Nat → Int32} {S : aS} {I J : aI} {L M : aL} {R : aR} {n nc sh : Nat} {st : Nat → Int32} (g1 : lyC S R I n nc) (g2 : lyM S R) (g3 : rlA N xs S I) (g4 : rlG I n nc) (g5 : rlB I n sh) (g6 : rlN I n) (g7 : ∀ k, k < n → rlS I k ∧ rlL I k) (g8 : ∀ i, i < nc → rlC I L n i) (g9 : rlK I L nc) (e : ∀ a b, a ≠ 7 ∧ a ≠ 8 ∧ a ≠ 9 ∧ a ≠ 40 ∧ ¬ (a = 20 ∧ (b = 18 ∨ b = 31)) ∧ ¬ (b = 8 ∧ 100 ≤ a ∧ a < 100 + nc) ∧ a ≠ 50 → J a b = I a b) (f : eqS M L) (v1 : ∀ k, k < nc → J (100 + k) 8 = st k) (v2 : ∀ k, k < nc → J 50 k = st k) (h01 : ∀ k, k < nc → st k = 0 ∨ st k = 1) (hcl : ∀ k, k < nc → st k ≠ 0 → ∀ j, j < k → bqP (L 49 k) j → st j ≠ 0) : Rel N xs S J M R := by
  have hn : n ≤ 6 := g1.2.1
  have hnc : nc ≤ 40 := g1.2.2.1
  have e' := e
  refine ⟨n, nc, sh, g1.y (e' _ _ (by omega)) (e' _ _ (by omega)), g2, g3.c rfl rfl (fun b => e' _ _ (by omega)), g4.c (e' _ _ (by omega)) (e' _ _ (by omega)) (fun b => e' _ _ (by omega)) (e' _ _ (by omega)) (e' _ _ (by omega)) (fun j hj => ⟨e' _ _ (by omega), e' _ _ (by omega)⟩), g5.c (e' _ _ (by omega)) (e' _ _ (by omega)) (fun i hi => ⟨e' _ _ (by omega), e' _ _ (by omega), e' _ _ (by omega), e' _ _ (by omega), e' _ _ (by omega), e' _ _ (by omega)⟩), g6.c (e' _ _ (by omega)) (fun t ht => ⟨e' _ _ (by omega), e' _ _ (by omega)⟩) (fun k z1 z2 => ⟨e' _ _ (by omega), fun t ht => ⟨e' _ _ (by omega), e' _ _ (by omega)⟩⟩), fun k hk => ⟨(g7 k hk).1.c (fun b => Or.inl (e' _ _ (by omega))) (fun b => e' _ _ (by omega)) (fun b => e' _ _ (by omega)) (fun a z1 z2 => e' _ _ (by omega)), (g7 k hk).2.c (e' _ _ (by omega)) (e' _ _ (by omega)) (fun i hi => e' _ _ (by omega)) (fun i hi => e' _ _ (by omega)) (fun t ht => ⟨e' _ _ (by omega), e' _ _ (by omega), e' _ _ (by omega), e' _ _ (by omega)⟩)⟩, fun i hi => ?_, fun i hi hz j hj hq => ?_⟩
  · obtain ⟨s, ln, d, h1, h2, h3, h4, h5, h6, h7, h8, h9, h10⟩ := g8 i hi
    refine ⟨s, ln, d, h1, ?_, ?_, ?_, ?_, ?_, ?_, ?_, ?_, ?_⟩
    · rw [e' (100 + i) 1 (by omega), e' 43 i (by omega), e' (100 + i) 2 (by omega), e' 44 i (by omega), e' (100 + i) 4 (by omega)]; exact h2
    · rw [e' (100 + i) 0 (by omega)]; exact h3
    · rw [e' (100 + i) 0 (by omega), e' 42 i (by omega)]; exact h4
    · rw [e' (100 + i) 0 (by omega), e' 46 i (by omega), e' 45 i (by omega), e' (100 + i) 3 (by omega), f 47 i (by omega) (by omega) (by omega) (by omega) (by omega), f (100 + i) 5 (by omega) (by omega) (by omega) (by omega) (by omega)]; exact h5
    · rw [e' 48 i (by omega), e' (100 + i) 6 (by omega)]; exact h6
    · rw [f 49 i (by omega) (by omega) (by omega) (by omega) (by omega), f (100 + i) 7 (by omega) (by omega) (by omega) (by omega) (by omega)]; exact h7
    · rw [f (100 + i) 7 (by omega) (by omega) (by omega) (by omega) (by omega)]; exact h8
    · rw [v1 i hi, v2 i hi]
    · rw [v1 i hi]; exact h01 i hi
  · rw [v1 i hi] at hz
    rw [v1 j (by omega)]
    rw [f (100 + i) 7 (by omega) (by omega) (by omega) (by omega) (by omega)] at hq
    obtain ⟨s, ln, d, -, -, -, -, -, -, h7, -⟩ := g8 i hi
    refine hcl i hi hz j hj ?_
    rw [h7]; exact hq
set_option maxHeartbeats 4000000 in
theorem re_new {N : Nat} {xs : Nat → Int32} {S S' : aS} {I I1 I2 : aI} {L L1 L2 : aL} {R R' : aR} {n nc sh : Nat} {kd st lnn fl ou ag : Int32} {po ci v : Int64} {s ln d : Nat} (g1 : lyC S R I n nc) (g2 : lyM S R) (g3 : rlA N xs S I) (g4 : rlG I n nc) (g5 : rlB I n sh) (g6 : rlN I n) (g7 : ∀ k, k < n → rlS I k ∧ rlL I k) (g8 : ∀ i, i < nc → rlC I L n i) (g9 : rlK I L nc) (h40 : nc < 40) (hN : newC n nc S I L R S' I1 L1 R' kd st lnn fl ou po ag ci) (hM9 : newM nc I1 (au2 L1 10 0 v) I2 L2 kd st lnn fl ou po ag ci) (est : st = nI s) (eln : lnn = nI ln) (eou : ou = nI d) (hb : s < n ∧ ln < 32 ∧ d ≤ 6) (hkd : kd = 0 ∨ kd = 1 ∨ kd = 2) (hfl : kd = 0 → fl = 0 ∨ fl = 1 ∨ fl = 2) (hci : ci.toBitVec.toNat < 2 ^ nc) (hct : ∀ j, j < nc → bqP ci j → I (100 + j) 8 ≠ 0) : Rel N xs S' I2 L2 R' ∧ I2 20 31 = 0 ∧ L2 10 0 = v := by
  obtain ⟨a1, a2, a3, a4, a5, c0, c1, c2, c3, c4, c5, c6, c7, c8⟩ := hN
  obtain ⟨b1, b2, b3, b4, m0, m1, m2, m3, m4, m5, m6⟩ := hM9
  subst est; subst eln; subst eou
  have hn : n ≤ 6 := g1.2.1
  refine ⟨re_claim (s := s) (ln := ln) (d := d) g1 g2 g3 g4 g5 g6 g7 g8 g9 (fun a b z => (b1 a b (by omega) (by omega) (by omega)).trans (a3 a b (by omega) (by omega) (by omega) (by omega) (by omega))) (fun a b z => (b2 a b (by omega) (by omega)).trans ((au2_n (by omega)).trans (a4 a b (by omega) (by omega) (by omega) (by omega)))) h40 (a1.y (b1 _ _ (by omega) (by omega) (by omega)) (b1 _ _ (by omega) (by omega) (by omega))) (g2.c (fun a z1 z2 => a2 a (by omega)) (fun k => a5 _ _ (by omega) (by omega))) (a2 _ (by omega)) (a2 _ (by omega)) hb hkd hfl hci hct ?_ ⟨b3, m0, m1, m2, m3, m4, m5, m6⟩, b4, (b2 _ _ (by omega) (by omega)).trans (au2_s _ _ _ _)⟩
  have q : ∀ b, I2 (100 + nc) b = I1 (100 + nc) b := fun b => b1 _ _ (by omega) (by omega) (by omega)
  have q2 : ∀ b, L2 (100 + nc) b = L1 (100 + nc) b := fun b => (b2 _ _ (by omega) (by omega)).trans (au2_n (by omega))
  exact ⟨(q 0).trans c0, (q 1).trans c1, (q 2).trans c2, (q 3).trans c3, (q 4).trans c4, (q2 5).trans c5, (q 6).trans c6, (q2 7).trans c7, (q 8).trans c8⟩
