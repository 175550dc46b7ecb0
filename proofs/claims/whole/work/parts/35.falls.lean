/-! both sides tell the same: what falls -/
def bt (c : Int64) (j : Nat) : Prop := c.toBitVec.getLsbD j = true
theorem bt_lt {c : Int64} {m j : Nat} (h : c.toBitVec.toNat < 2 ^ m) (hj : bt c j) : j < m := by
  refine Nat.lt_of_not_le fun z => ?_
  have h2 : c.toBitVec.toNat < 2 ^ j := Nat.lt_of_lt_of_le h (Nat.pow_le_pow_right (by decide) z)
  have h3 : c.toBitVec.toNat.testBit j = false := Nat.testBit_lt_two_pow h2
  exact Bool.noConfusion ((show c.toBitVec.toNat.testBit j = true from hj).symm.trans h3)
theorem bitL_tb {k : Nat} (hk : k < 40) : (bitL (nI k)).toBitVec.toNat = 2 ^ k := by
  rw [bitL_bv hk, BitVec.toNat_shiftLeft, Nat.shiftLeft_eq]
  have : (2 : Nat) ^ k < 2 ^ 40 := Nat.pow_lt_pow_right (by decide) hk
  rw [show (1#64).toNat = 1 by decide, Nat.one_mul]
  exact Nat.mod_eq_of_lt (Nat.lt_trans this (by decide))
theorem bit_bt {k j : Nat} (hk : k < 40) : bt (bitL (nI k)) j ↔ j = k := by
  show (bitL (nI k)).toBitVec.toNat.testBit j = true ↔ _
  rw [bitL_tb hk, Nat.testBit_two_pow]
  simp [eq_comm]
theorem or_bt {a b : Int64} {j : Nat} : bt (a ||| b) j ↔ bt a j ∨ bt b j := by
  show (a.toBitVec ||| b.toBitVec).getLsbD j = true ↔ _
  rw [BitVec.getLsbD_or, Bool.or_eq_true]; exact Iff.rfl
theorem or_tb {a b : Int64} {m : Nat} (ha : a.toBitVec.toNat < 2 ^ m) (hb : b.toBitVec.toNat < 2 ^ m) : (a ||| b).toBitVec.toNat < 2 ^ m := by
  show (a.toBitVec ||| b.toBitVec).toNat < _
  rw [BitVec.toNat_or]; exact Nat.or_lt_two_pow ha hb
theorem and_bt {a b : Int64} : a &&& b ≠ 0 ↔ ∃ j, bt a j ∧ bt b j := by
  constructor
  · intro h
    refine Classical.byContradiction fun z => h ?_
    apply Int64.toBitVec_inj.mp
    show (a.toBitVec &&& b.toBitVec) = 0#64
    apply BitVec.eq_of_getLsbD_eq
    intro i hi
    rw [BitVec.getLsbD_and, BitVec.getLsbD_zero]
    cases ha : a.toBitVec.getLsbD i with
    | false => rfl
    | true =>
      cases hb : b.toBitVec.getLsbD i with
      | false => rfl
      | true => exact absurd ⟨i, ha, hb⟩ z
  · rintro ⟨j, ha, hb⟩ z
    have z2 : (a.toBitVec &&& b.toBitVec) = 0#64 := Int64.toBitVec_inj.mpr z
    have z3 := congrArg (fun b => b.getLsbD j) z2
    simp only [BitVec.getLsbD_and, BitVec.getLsbD_zero] at z3
    rw [show a.toBitVec.getLsbD j = true from ha, show b.toBitVec.getLsbD j = true from hb] at z3
    cases z3
theorem bqP_bt {c : Int64} {k : Nat} (hk : k < 40) : bqP c k ↔ bt c k := bqP_bit hk
theorem gn_bt {nm : Int64} {ci : Nat → Int64} {sd : Nat → Int32} : ∀ k, k ≤ 40 → (gnS nm ci sd k).toBitVec.toNat < 2 ^ k ∧ ∀ j, bt (gnS nm ci sd k) j ↔ j < k ∧ sd j ≠ 0 ∧ goP nm ci (gnS nm ci sd j) j := by
  intro k
  induction k with
  | zero =>
    intro _
    refine ⟨show (0 : Int64).toBitVec.toNat < 2 ^ 0 by decide +kernel, fun j => ⟨fun z => ?_, fun z => absurd z.1 (Nat.not_lt_zero _)⟩⟩
    have : (0#64).getLsbD j = true := z
    rw [BitVec.getLsbD_zero] at this; cases this
  | succ k ih =>
    intro hk
    obtain ⟨h1, h2⟩ := ih (by omega)
    have h3 : (gnS nm ci sd k).toBitVec.toNat < 2 ^ (k + 1) := Nat.lt_trans h1 (Nat.pow_lt_pow_right (by decide) (by omega))
    rw [gnS]
    split
    · rename_i hg
      refine ⟨or_tb h3 (by rw [bitL_tb (by omega)]; exact Nat.pow_lt_pow_right (by decide) (by omega)), fun j => ?_⟩
      rw [or_bt, h2, bit_bt (by omega)]
      constructor
      · rintro (⟨a, b⟩ | a)
        · exact ⟨by omega, b⟩
        · subst a; exact ⟨by omega, hg⟩
      · rintro ⟨a, b⟩
        by_cases e : j = k
        · exact Or.inr e
        · exact Or.inl ⟨by omega, b⟩
    · rename_i hg
      refine ⟨h3, fun j => ?_⟩
      rw [h2]
      constructor
      · rintro ⟨a, b⟩; exact ⟨by omega, b⟩
      · rintro ⟨a, b⟩
        by_cases e : j = k
        · subst e; exact absurd b hg
        · exact ⟨by omega, b⟩
theorem us_bt {hl : Nat → Prop} {sd : Nat → Int32} : ∀ k, k ≤ 40 → ∀ j, bt (usS hl sd k) j ↔ j < k ∧ sd j ≠ 0 ∧ ¬ hl j := by
  intro k
  induction k with
  | zero =>
    intro _ j
    refine ⟨fun z => ?_, fun z => absurd z.1 (Nat.not_lt_zero _)⟩
    have : (0#64).getLsbD j = true := z
    rw [BitVec.getLsbD_zero] at this; cases this
  | succ k ih =>
    intro hk j
    have h2 := ih (by omega) j
    rw [usS]
    split
    · rename_i hg
      rw [or_bt, h2, bit_bt (by omega)]
      constructor
      · rintro (⟨a, b⟩ | a)
        · exact ⟨by omega, b⟩
        · subst a; exact ⟨by omega, hg.1, zI_z.mp hg.2⟩
      · rintro ⟨a, b⟩
        by_cases e : j = k
        · exact Or.inr e
        · exact Or.inl ⟨by omega, b⟩
    · rename_i hg
      rw [h2]
      constructor
      · rintro ⟨a, b⟩; exact ⟨by omega, b⟩
      · rintro ⟨a, b⟩
        by_cases e : j = k
        · subst e; exact absurd ⟨b.1, zI_z.mpr b.2⟩ hg
        · exact ⟨by omega, b⟩
theorem foM_lo (ci : Nat → Int64) (sd : Nat → Int32) {j : Nat} : ∀ m, j < m → foM ci sd m j = foM ci sd (j + 1) j := by
  intro m
  induction m with
  | zero => intro h; omega
  | succ m ih =>
    intro h
    by_cases e : j = m
    · subst e; rfl
    · rw [foM_s ci sd m j, if_neg e]; exact ih (by omega)
theorem faP_c {ci : Nat → Int64} {st st' : Nat → Int32} {k m : Nat} (h : ∀ j, j < m → st j = st' j) : faP ci st k m ↔ faP ci st' k m := by
  constructor
  · rintro ⟨j, a, b, c⟩; exact ⟨j, a, b, (h j a).symm.trans c⟩
  · rintro ⟨j, a, b, c⟩; exact ⟨j, a, b, (h j a).trans c⟩
theorem foM_k (ci : Nat → Int64) (sd : Nat → Int32) {nc k : Nat} (h : k ≤ nc) : faP ci (foM ci sd k) k k ↔ faP ci (foM ci sd nc) k k :=
  faP_c fun j hj => (foM_lo ci sd k hj).trans (foM_lo ci sd nc (by omega)).symm
theorem foM_fin (ci : Nat → Int64) (sd : Nat → Int32) {nc k : Nat} (h : k < nc) : foM ci sd nc k = zI (sd k ≠ 0 ∧ ¬ faP ci (foM ci sd nc) k k) := by
  rw [foM_lo ci sd nc h, foM_s, if_pos rfl]
  exact zI_c (and_congr Iff.rfl (not_congr (foM_k ci sd (by omega))))
noncomputable def cN (P : Nat → Prop) : Nat → Int32
  | 0 => 0
  | k + 1 => cN P k + zI (P k)
theorem cN_s (P : Nat → Prop) (k : Nat) : cN P (k + 1) = cN P k + zI (P k) := rfl
theorem cN_c {P Q : Nat → Prop} : ∀ m, (∀ k, k < m → (P k ↔ Q k)) → cN P m = cN Q m := by
  intro m
  induction m with
  | zero => intro _; rfl
  | succ m ih => intro h; rw [cN_s, cN_s, ih (fun k hk => h k (by omega)), zI_c (h m (by omega))]
theorem zI_or {p q : Prop} (h : ¬ (p ∧ q)) : zI (p ∨ q) = zI p + zI q := by
  by_cases a : p
  · have b : ¬ q := fun z => h ⟨a, z⟩
    rw [zI_t (Or.inl a), zI_t a, zI_f b]; rfl
  · by_cases b : q
    · rw [zI_t (Or.inr b), zI_f a, zI_t b]; rfl
    · rw [zI_f (fun z => z.elim a b), zI_f a, zI_f b]; rfl
theorem cN_or {P Q : Nat → Prop} : ∀ m, (∀ k, k < m → ¬ (P k ∧ Q k)) → cN (fun k => P k ∨ Q k) m = cN P m + cN Q m := by
  intro m
  induction m with
  | zero => intro _; rfl
  | succ m ih =>
    intro h
    rw [cN_s, cN_s, cN_s, ih (fun k hk => h k (by omega)), zI_or (h m (by omega)), Int32.add_assoc, Int32.add_assoc]
    congr 1
    rw [← Int32.add_assoc, ← Int32.add_assoc, Int32.add_comm (cN Q m)]
theorem cN_one {i : Nat} : ∀ m, cN (fun k => k = i) m = if i < m then 1 else 0 := by
  intro m
  induction m with
  | zero => rfl
  | succ m ih =>
    rw [cN_s, ih]
    by_cases e : m = i
    · subst e; rw [zI_t rfl, if_neg (Nat.lt_irrefl _), if_pos (by omega)]; rfl
    · rw [zI_f e]
      by_cases e2 : i < m
      · rw [if_pos e2, if_pos (by omega)]; rfl
      · rw [if_neg e2, if_neg (by omega)]; rfl
theorem cnM_c (ci : Nat → Int64) (sd : Nat → Int32) (nc : Nat) : ∀ m, m ≤ nc → cnM ci sd m = cN (fun k => faP ci (foM ci sd nc) k k ∧ sd k ≠ 0) m := by
  intro m
  induction m with
  | zero => intro _; rfl
  | succ m ih =>
    intro h
    rw [cN_s, cnM, ih (by omega)]
    congr 1
    exact zI_c (and_congr (foM_k ci sd (by omega)) Iff.rfl)
theorem auN_c (hl : Nat → Prop) (sd : Nat → Int32) : ∀ m, auN hl sd m = cN (fun k => sd k ≠ 0 ∧ ¬ hl k) m := by
  intro m
  induction m with
  | zero => rfl
  | succ m ih => rw [cN_s, auN, ih]
theorem ctM_c (c : Int64) : ∀ m, ctM c m = cN (fun k => bqP c k) m := by
  intro m
  induction m with
  | zero => rfl
  | succ m ih => rw [cN_s, ctM, ih]
/-- the class's falling and the reference's -/
theorem falls {ci ci2 : Nat → Int64} {sd sd' : Nat → Int32} {nm : Int64} {nc : Nat} (h40 : nc ≤ 40) (h01 : ∀ k, k < nc → sd k = 0 ∨ sd k = 1) (hce : ∀ k, k < nc → ci2 k = ci k) (hci : ∀ k, k < nc → (ci k).toBitVec.toNat < 2 ^ k) (hcl : ∀ k, k < nc → sd k ≠ 0 → ∀ j, j < k → bqP (ci k) j → sd j ≠ 0) (hnm : ∀ k, k < nc → sd k ≠ 0 → (nm &&& bitL (nI k) ≠ 0 ↔ sd' k = 0)) (hs : ∀ k, k < nc → sd' k ≠ 0 → sd k ≠ 0) :
    (∀ k, k < nc → (if sd k ≠ 0 ∧ goP nm ci (gnS nm ci sd k) k then 0 else sd k) = foM ci2 sd' nc k) ∧ bcnt (gnS nm ci sd nc) = cN (fun k => sd k ≠ 0 ∧ sd' k = 0) nc + cnM ci2 sd' nc := by
  have hfa : ∀ k, k < nc → (∀ j, j < k → (foM ci2 sd' nc j = 0 ↔ sd j = 0 ∨ (sd j ≠ 0 ∧ goP nm ci (gnS nm ci sd j) j))) → sd k ≠ 0 → (ci k &&& gnS nm ci sd k ≠ 0 ↔ faP ci2 (foM ci2 sd' nc) k k) := by
    intro k hk ih hsd
    rw [and_bt]
    constructor
    · rintro ⟨j, a, b⟩
      obtain ⟨b1, b2⟩ := ((gn_bt k (by omega)).2 j).mp b
      exact ⟨j, b1, by rw [hce k hk]; exact (bqP_bt (by omega)).mpr a, (ih j b1).mpr (Or.inr b2)⟩
    · rintro ⟨j, a, b, c⟩
      rw [hce k hk] at b
      refine ⟨j, (bqP_bt (by omega)).mp b, ((gn_bt k (by omega)).2 j).mpr ⟨a, ?_⟩⟩
      rcases (ih j a).mp c with z | z
      · exact absurd z (hcl k hk hsd j a b)
      · exact z
  have key : ∀ m k, k < m → k < nc → (foM ci2 sd' nc k = 0 ↔ sd k = 0 ∨ (sd k ≠ 0 ∧ goP nm ci (gnS nm ci sd k) k)) := by
    intro m
    induction m with
    | zero => intro k h; omega
    | succ m ih =>
      intro k h hk
      have ih2 : ∀ j, j < k → (foM ci2 sd' nc j = 0 ↔ sd j = 0 ∨ (sd j ≠ 0 ∧ goP nm ci (gnS nm ci sd j) j)) := fun j hj => ih j (by omega) (by omega)
      rw [foM_fin ci2 sd' hk, zI_z]
      by_cases hsd : sd k = 0
      · refine ⟨fun _ => Or.inl hsd, fun _ z => ?_⟩
        exact hs k hk z.1 hsd
      · have e := hfa k hk ih2 hsd
        have e2 := hnm k hk hsd
        constructor
        · intro z
          refine Or.inr ⟨hsd, ?_⟩
          by_cases h9 : sd' k = 0
          · exact Or.inl (e2.mpr h9)
          · refine Or.inr (e.mpr (Classical.byContradiction fun y => z ⟨h9, y⟩))
        · rintro (z | ⟨_, z | z⟩)
          · exact absurd z hsd
          · exact fun y => y.1 (e2.mp z)
          · exact fun y => y.2 (e.mp z)
  have key2 : ∀ k, k < nc → (foM ci2 sd' nc k = 0 ↔ sd k = 0 ∨ (sd k ≠ 0 ∧ goP nm ci (gnS nm ci sd k) k)) := fun k hk => key (k + 1) k (by omega) hk
  refine ⟨fun k hk => ?_, ?_⟩
  · have h1 := key2 k hk
    split
    · rename_i z; exact (h1.mpr (Or.inr z)).symm
    · rename_i z
      rcases h01 k hk with y | y
      · rw [y]; exact (h1.mpr (Or.inl y)).symm
      · have h2 : foM ci2 sd' nc k ≠ 0 := fun w => by
          rcases h1.mp w with v | v
          · rw [y] at v; exact absurd v (by decide)
          · exact z v
        rw [foM_fin ci2 sd' hk] at h2 ⊢
        rw [y, zI_t (zI_n.mp h2)]
  · rw [bc_ct h40 (gn_bt nc h40).1, ctM_c, cnM_c ci2 sd' nc nc (Nat.le_refl _), ← cN_or nc (fun k hk z => z.2.2 z.1.2)]
    refine cN_c nc fun k hk => ?_
    rw [bqP_bt (by omega), (gn_bt nc h40).2]
    have e := hfa k hk (fun j hj => key2 j (by omega))
    constructor
    · rintro ⟨_, a, b | b⟩
      · exact Or.inl ⟨a, (hnm k hk a).mp b⟩
      · by_cases h9 : sd' k = 0
        · exact Or.inl ⟨a, h9⟩
        · exact Or.inr ⟨(e a).mp b, h9⟩
    · rintro (⟨a, b⟩ | ⟨a, b⟩)
      · exact ⟨hk, a, Or.inl ((hnm k hk a).mpr b)⟩
      · exact ⟨hk, hs k hk b, Or.inr ((e (hs k hk b)).mpr a)⟩
theorem falls_01 (ci : Nat → Int64) (sd : Nat → Int32) {nc k : Nat} (h : k < nc) : foM ci sd nc k = 0 ∨ foM ci sd nc k = 1 := by
  rw [foM_fin ci sd h]
  by_cases z : sd k ≠ 0 ∧ ¬ faP ci (foM ci sd nc) k k
  · exact Or.inr (zI_t z)
  · exact Or.inl (zI_f z)
theorem falls_cl (ci : Nat → Int64) (sd : Nat → Int32) {nc k : Nat} (h : k < nc) (hz : foM ci sd nc k ≠ 0) : ∀ j, j < k → bqP (ci k) j → foM ci sd nc j ≠ 0 := by
  rw [foM_fin ci sd h] at hz
  exact fun j hj hb z => (zI_n.mp hz).2 ⟨j, hj, hb, z⟩
/-- one claim withdrawn -/
theorem falls_w {ci ci2 : Nat → Int64} {sd sd2 : Nat → Int32} {i nc : Nat} (h40 : nc ≤ 40) (hi : i < nc) (hsi : sd i ≠ 0) (h01 : ∀ k, k < nc → sd k = 0 ∨ sd k = 1) (hse : ∀ k, k < nc → sd2 k = sd k) (hce : ∀ k, k < nc → ci2 k = ci k) (hci : ∀ k, k < nc → (ci k).toBitVec.toNat < 2 ^ k) (hcl : ∀ k, k < nc → sd k ≠ 0 → ∀ j, j < k → bqP (ci k) j → sd j ≠ 0) :
    (∀ k, k < nc → (if sd k ≠ 0 ∧ goP (bitL (nI i)) ci (gnS (bitL (nI i)) ci sd k) k then 0 else sd k) = foM ci2 (fun k => if k = i then 0 else sd2 k) nc k) ∧ bcnt (gnS (bitL (nI i)) ci sd nc) = 1 + cnM ci2 (fun k => if k = i then 0 else sd2 k) nc := by
  have h := falls (ci := ci) (ci2 := ci2) (sd := sd) (sd' := fun k => if k = i then 0 else sd2 k) (nm := bitL (nI i)) h40 h01 hce hci hcl (fun k hk hsd => by
    rw [and_bt]
    show _ ↔ (if k = i then 0 else sd2 k) = 0
    constructor
    · rintro ⟨j, a, b⟩
      rw [bit_bt (by omega)] at a b
      rw [if_pos (by omega)]
    · intro z
      by_cases e : k = i
      · exact ⟨i, (bit_bt (by omega)).mpr rfl, (bit_bt (by omega)).mpr e.symm⟩
      · rw [if_neg e, hse k hk] at z; exact absurd z hsd) (fun k hk z => by
    have z2 : (if k = i then 0 else sd2 k) ≠ 0 := z
    by_cases e : k = i
    · rw [if_pos e] at z2; exact absurd rfl z2
    · rw [if_neg e, hse k hk] at z2; exact z2)
  refine ⟨h.1, ?_⟩
  rw [h.2]
  congr 1
  rw [cN_c (Q := fun k => k = i) nc (fun k hk => ?_), cN_one, if_pos hi]
  show (sd k ≠ 0 ∧ (if k = i then 0 else sd2 k) = 0) ↔ k = i
  constructor
  · rintro ⟨a, b⟩
    by_cases e : k = i
    · exact e
    · rw [if_neg e, hse k hk] at b; exact absurd b a
  · intro e; rw [if_pos e, e]; exact ⟨hsi, rfl⟩
/-- an audit -/
theorem falls_a {ci ci2 : Nat → Int64} {sd sd2 : Nat → Int32} {hl hl2 : Nat → Prop} {nc : Nat} (h40 : nc ≤ 40) (h01 : ∀ k, k < nc → sd k = 0 ∨ sd k = 1) (hse : ∀ k, k < nc → sd2 k = sd k) (hce : ∀ k, k < nc → ci2 k = ci k) (hle : ∀ k, k < nc → (hl2 k ↔ hl k)) (hci : ∀ k, k < nc → (ci k).toBitVec.toNat < 2 ^ k) (hcl : ∀ k, k < nc → sd k ≠ 0 → ∀ j, j < k → bqP (ci k) j → sd j ≠ 0) :
    (∀ k, k < nc → (if sd k ≠ 0 ∧ goP (usS hl sd nc) ci (gnS (usS hl sd nc) ci sd k) k then 0 else sd k) = foM ci2 (auS hl2 sd2 nc) nc k) ∧ bcnt (gnS (usS hl sd nc) ci sd nc) = auN hl2 sd2 nc + cnM ci2 (auS hl2 sd2 nc) nc := by
  have ea : ∀ k, k < nc → (auS hl2 sd2 nc k = 0 ↔ ¬ (sd k ≠ 0 ∧ hl k)) := fun k hk => by
    rw [auS, if_pos hk, zI_z, hse k hk, hle k hk]
  have h := falls (ci := ci) (ci2 := ci2) (sd := sd) (sd' := auS hl2 sd2 nc) (nm := usS hl sd nc) h40 h01 hce hci hcl (fun k hk hsd => by
    rw [bit_and (by omega)]
    show bt _ k ↔ _
    rw [us_bt nc h40, ea k hk]
    exact ⟨fun z y => z.2.2 y.2, fun z => ⟨hk, hsd, fun y => z ⟨hsd, y⟩⟩⟩) (fun k hk z y => z ((ea k hk).mpr (fun w => w.1 y)))
  refine ⟨h.1, ?_⟩
  rw [h.2, auN_c]
  congr 1
  refine cN_c nc fun k hk => ?_
  rw [ea k hk, hse k hk, hle k hk]
  exact ⟨fun z => ⟨z.1, fun y => z.2 ⟨z.1, y⟩⟩, fun z => ⟨z.1, fun y => z.2 y.2⟩⟩
