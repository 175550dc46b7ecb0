/-! sums over the times that are there -/
def lsum (ts : List Nat) (f : Nat → Int64) : Int64 := ts.foldl (fun a t => a + f t) 0
theorem lsum_nil (f : Nat → Int64) : lsum [] f = 0 := rfl
theorem lsum_snoc (ts : List Nat) (t : Nat) (f : Nat → Int64) : lsum (ts ++ [t]) f = lsum ts f + f t := by
  unfold lsum; rw [List.foldl_append]; rfl
def tl (p : Nat → Bool) (n : Nat) : List Nat := (List.range n).filter p
theorem tl_0 (p : Nat → Bool) : tl p 0 = [] := rfl
theorem tl_t {p : Nat → Bool} {n : Nat} (h : p n = true) : tl p (n + 1) = tl p n ++ [n] := by
  unfold tl; rw [List.range_succ, List.filter_append]; simp [h]
theorem tl_f {p : Nat → Bool} {n : Nat} (h : p n = false) : tl p (n + 1) = tl p n := by
  unfold tl; rw [List.range_succ, List.filter_append]; simp [h]
abbrev aT (p : Nat → Bool) : List Nat := tl p 256
theorem tl_len (p : Nat → Bool) (n : Nat) : (tl p n).length ≤ n := by
  unfold tl; exact Nat.le_trans (List.length_filter_le _ _) (by simp)
theorem aT_len (p : Nat → Bool) : (aT p).length ≤ 256 := tl_len p 256
theorem tl_mem {p : Nat → Bool} {n t : Nat} : t ∈ tl p n ↔ t < n ∧ p t = true := by
  unfold tl; rw [List.mem_filter, List.mem_range]
theorem aT_at {p : Nat → Bool} {i t : Nat} (h : (aT p)[i]? = some t) : t < 256 ∧ p t = true := tl_mem.mp (List.mem_of_getElem? h)
theorem take_snoc {ts : List Nat} {i t : Nat} (h : ts[i]? = some t) : ts.take (i + 1) = ts.take i ++ [t] := by
  rw [List.take_succ, h]; rfl
def cosL (x : Int32) (t : Nat) : Int64 := (icos (x * nI t)).toInt64
def sinL (x : Int32) (t : Nat) : Int64 := (isin (x * nI t)).toInt64
def sC (p : Nat → Bool) (V : Nat → Int64) (x : Int32) : Int64 := lsum (aT p) (fun t => V t * cosL x t)
def sS (p : Nat → Bool) (V : Nat → Int64) (x : Int32) : Int64 := lsum (aT p) (fun t => V t * sinL x t)
def pw (p : Nat → Bool) (V : Nat → Int64) (x : Int32) : Int64 := sC p V x / 1000 * (sC p V x / 1000) + sS p V x / 1000 * (sS p V x / 1000)
/-- the class's light holds the values V at the times that p tells -/
def Lrep (I : aI) (L : aL) (p : Nat → Bool) (V : Nat → Int64) : Prop := I 7 2 = nI (aT p).length ∧ ∀ i t, (aT p)[i]? = some t → I 8 i = nI t ∧ L 9 i = V t
