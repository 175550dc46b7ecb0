/-! sums over the times that are there -/
def lsum (ts : List Nat) (f : Nat → Int64) : Int64 := ts.foldl (fun a t => a + f t) 0
theorem lsum_nil (f : Nat → Int64) : lsum [] f = 0 := rfl
theorem lsum_snoc (ts : List Nat) (t : Nat) (f : Nat → Int64) : lsum (ts ++ [t]) f = lsum ts f + f t := by
  unfold lsum; rw [List.foldl_append]; rfl
def tl (p : Nat → Bool) (n : Nat) : List Nat := (List.range n).filter p
theorem tl_0 (p : Nat → Bool) : tl p 0 = [] := rfl
theorem tl_t {p : Nat → Bool} {n : Nat} (h : p n = true) : tl p (n + 1) = tl p n ++ [n] := by
  unfold tl; rw [List.range_succ, List.filter_append]; simp [h]
theorem tl_f {p : Nat → Bool} {n : Nat} (h : p n = false) : tl p (n + 1) = tl p n := by
  unfold tl; rw [List.range_succ, List.filter_append]; simp [h]
abbrev aT (p : Nat → Bool) : List Nat := tl p 256
theorem tl_len (p : Nat → Bool) (n : Nat) : (tl p n).length ≤ n := by
  unfold tl; exact Nat.le_trans (List.length_filter_le _ _) (by simp)
theorem aT_len (p : Nat → Bool) : (aT p).length ≤ 256 := tl_len p 256
theorem tl_mem {p : Nat → Bool} {n t : Nat} : t ∈ tl p n ↔ t < n ∧ p t = true := by
  unfold tl; rw [List.mem_filter, List.mem_range]
theorem aT_at {p : Nat → Bool} {i t : Nat} (h : (aT p)[i]? = some t) : t < 256 ∧ p t = true := tl_mem.mp (List.mem_of_getElem? h)
theorem take_snoc {ts : List Nat} {i t : Nat} (h : ts[i]? = some t) : ts.take (i + 1) = ts.take i ++ [t] := by
  rw [List.take_succ, h]; rfl
def cosL (x : Int32) (t : Nat) : Int64 := (icos (x * nI t)).toInt64
def sinL (x : Int32) (t : Nat) : Int64 := (isin (x * nI t)).toInt64
def sC (p : Nat → Bool) (V : Nat → Int64) (x : Int32) : Int64 := lsum (aT p) (fun t => V t * cosL x t)
def sS (p : Nat → Bool) (V : Nat → Int64) (x : Int32) : Int64 := lsum (aT p) (fun t => V t * sinL x t)
def pw (p : Nat → Bool) (V : Nat → Int64) (x : Int32) : Int64 := sC p V x / 1000 * (sC p V x / 1000) + sS p V x / 1000 * (sS p V x / 1000)
/-- the class's light holds the values V at the times that p tells -/
def Lrep (I : aI) (L : aL) (p : Nat → Bool) (V : Nat → Int64) : Prop := I 7 2 = nI (aT p).length ∧ ∀ i t, (aT p)[i]? = some t → I 8 i = nI t ∧ L 9 i = V t
theorem Lrep.len {I : aI} {L : aL} {p : Nat → Bool} {V : Nat → Int64} (h : Lrep I L p V) : I 7 2 = nI (aT p).length := h.1
/-- values by the mean, by the drift, a line taken out -/
def mnD (p : Nat → Bool) (V : Nat → Int64) : Int64 := if (aT p).length = 0 then 0 else fdL (lsum (aT p) V) (lN (aT p).length)
def mnV (p : Nat → Bool) (V : Nat → Int64) : Nat → Int64 := fun t => V t - mnD p V
def tF (p : Nat → Bool) : Nat := (aT p).getD 0 0
def tZ (p : Nat → Bool) : Nat := (aT p).getD ((aT p).length - 1) 0
def drB (p : Nat → Bool) : Int64 := (nI (tZ p) - nI (tF p)).toInt64
def drD (p : Nat → Bool) (V : Nat → Int64) (t : Nat) : Int64 := V (tF p) + (if drB p ≤ 0 then 0 else fdL ((V (tZ p) - V (tF p)) * (nI t - nI (tF p)).toInt64) (drB p))
def drV (p : Nat → Bool) (V : Nat → Int64) : Nat → Int64 := fun t => V t - drD p V t
def tkE (p : Nat → Bool) (V : Nat → Int64) (x : Int32) : Int64 := 2 * sC p V x / (1000 * lN (aT p).length)
def tkO (p : Nat → Bool) (V : Nat → Int64) (x : Int32) : Int64 := 2 * sS p V x / (1000 * lN (aT p).length)
def tkV (p : Nat → Bool) (V : Nat → Int64) (x : Int32) : Nat → Int64 := fun t => V t - (tkE p V x * cosL x t + tkO p V x * sinL x t) / 1000
def tks (p : Nat → Bool) (V : Nat → Int64) (f : Nat → Int32) : Nat → Nat → Int64
  | 0 => V
  | n + 1 => tkV p (tks p V f n) (f n)
def flV (p : Nat → Bool) (V : Nat → Int64) (x : Int32) : Nat → Int64 := if x = 1 then mnV p V else if x = 2 then drV p V else V
/-- the light of a star at b: what is there, the counts -/
def prs (I : aI) (b : Nat) : Nat → Bool := fun t => decide (I (b + 4) t ≠ -1) && decide (I 5 (I (b + 5) t).toNatClampNeg = 0)
def cts (I : aI) (b : Nat) : Nat → Int64 := fun t => (I (b + 4) t).toInt64
def laid (I : aI) (b : Nat) (x : Int32) (k : Nat) : Nat → Int64 := tks (prs I b) (flV (prs I b) (cts I b) x) (fun i => I (b + 6) i) k
def eqX {α : Type} (f g : Nat → Nat → α) : Prop := ∀ a b, a ≠ 7 → a ≠ 8 → a ≠ 9 → f a b = g a b
theorem eqX.refl {α : Type} (f : Nat → Nat → α) : eqX f f := fun _ _ _ _ _ => rfl
theorem eqX.trans {α : Type} {f g h : Nat → Nat → α} (a : eqX f g) (b : eqX g h) : eqX f h := fun x y h1 h2 h3 => (a x y h1 h2 h3).trans (b x y h1 h2 h3)
theorem sN_ne {n : Nat} (h0 : 0 < n) (h : n < 2 ^ 20) : ¬ (1000 : Int64) * lN n = 0 := by
  intro q
  have e : (1000 : Int64) = lN 1000 := rfl
  have z : (0 : Int64) = lN 0 := rfl
  rw [e, lN_mul, z, lN_eq (by omega) (by omega)] at q
  omega
theorem tF_at {p : Nat → Bool} (h : 0 < (aT p).length) : (aT p)[0]? = some (tF p) := by
  unfold tF; rw [List.getD_eq_getElem?_getD, List.getElem?_eq_getElem h]; rfl
theorem tZ_at {p : Nat → Bool} (h : 0 < (aT p).length) : (aT p)[(aT p).length - 1]? = some (tZ p) := by
  unfold tZ; rw [List.getD_eq_getElem?_getD, List.getElem?_eq_getElem (by omega)]; rfl
theorem vin {x : Int32} {N : Nat} (h : ¬ (x < 0 ∨ N ≤ x.toNatClampNeg)) : vp_in x N := h
