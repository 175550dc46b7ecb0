/-! the law: the calls that may throw -/
theorem cl_L_13 : Cond.classLink RL 13 "java/lang/IllegalArgumentException" ∈ aBIG := (abm 276 (by decide +kernel) rfl)
theorem ca_13 : Cond.castable "java/lang/IllegalArgumentException" "java/lang/IllegalArgumentException" ∈ lw_tbl := (List.mem_of_getElem? (i := 287) (by decide +kernel))
theorem cl_L_15 : Cond.classLink RL 15 "java/lang/IllegalStateException" ∈ aBIG := (abm 277 (by decide +kernel) rfl)
theorem ca_15 : Cond.castable "java/lang/IllegalStateException" "java/lang/IllegalStateException" ∈ lw_tbl := (List.mem_of_getElem? (i := 355) (by decide +kernel))
theorem cl_L_25 : Cond.classLink RL 25 "java/lang/IndexOutOfBoundsException" ∈ aBIG := (abm 405 (by decide +kernel) rfl)
theorem ca_25 : Cond.castable "java/lang/IndexOutOfBoundsException" "java/lang/IndexOutOfBoundsException" ∈ lw_tbl := (List.mem_of_getElem? (i := 416) (by decide +kernel))
def tgL_shell (X : String) : Option Nat := if X = eIA then some 17 else if X = eIS then some 21 else none
theorem htgL_shell : ∀ X t, tgL_shell X = some t → aHd RL cL_shell (tableOf [(0, 12, 15, 13), (0, 12, 19, 15)]) 7 5 X t := by
  intro X t h
  unfold tgL_shell at h
  split at h
  · rename_i e
    subst e
    cases h
    exact ⟨(tableOf [(0, 12, 15, 13), (0, 12, 19, 15)]).take 0, (tableOf [(0, 12, 15, 13), (0, 12, 19, 15)])[0], (tableOf [(0, 12, 15, 13), (0, 12, 19, 15)]).drop 1, _, rfl, (fun z hz => by cases hz), by decide, by decide, cl_L_13, ca_13, Or.inl ⟨dL_shell_15, rfl⟩⟩
  · skip
    split at h
    · rename_i e
      subst e
      cases h
      exact ⟨(tableOf [(0, 12, 15, 13), (0, 12, 19, 15)]).take 1, (tableOf [(0, 12, 15, 13), (0, 12, 19, 15)])[1], (tableOf [(0, 12, 15, 13), (0, 12, 19, 15)]).drop 2, _, rfl, (fun z hz => by
          simp only [tableOf, List.map_cons, List.map_nil, List.take, List.mem_cons, List.not_mem_nil, or_false] at hz
          rcases hz with rfl
          · exact Or.inr ⟨by decide, _, cl_L_13, by decide +kernel⟩), by decide, by decide, cl_L_15, ca_15, Or.inl ⟨dL_shell_19, rfl⟩⟩
    · cases h
theorem hlvL_shell {x y w : Int32} : aStu 5 [.ref 3, .int x, .int y, .int w, .ref 10, aU] [.ref 3, .int x, .int y, .int w, .ref 10, aU] := by
  intro i u h hk
  match i, h with
  | 0, h => cases h; exact ⟨by decide, rfl, fun _ z => by cases z⟩
  | 1, h => cases h; exact ⟨by decide, rfl, fun _ z => by cases z⟩
  | 2, h => cases h; exact ⟨by decide, rfl, fun _ z => by cases z⟩
  | 3, h => cases h; exact ⟨by decide, rfl, fun _ z => by cases z⟩
  | 4, h => cases h; exact ⟨by decide, rfl, fun _ z => by cases z⟩
  | 5, h => cases h; cases hk
  | i + 6, h => simp at h
abbrev rmL_shell : Room := { frames := 7, cells := 2, slots := 12, locals := 113 }
set_option maxHeartbeats 4000000 in
set_option maxRecDepth 100000 in
theorem s_L_shell {l : Launch} {E : aE} {S : aS} {I : aI} {L : aL} {Rf : aR} {Kr : aK} (hst : l.stackTraces = false) {x y w : Int32} (h3 : S 3 = some (.inr 3)) (h10 : S 10 = some (.inl (.long, 1))) (hX : ∀ (Kr' : aK) (Kx' : aX), (∀ (r : Int32) S' I' L' R', S' 10 = some (.inl (.long, 1)) → Kr (some (.int 0)) S' I' (au2 L' 10 0 r.toInt64) R' → Kr' (some (.int r)) S' I' L' R') → (∀ S' I' L' R', Kr (some (.int 1)) S' I' L' R' → Kx' eIA S' I' L' R') → (∀ S' I' L' R', Kr (some (.int 2)) S' I' L' R' → Kx' eIS S' I' L' R') → aMet l E yX3_shell cX3_shell 4 (some .int) rmX3_shell [.ref 3, .int x, .int y, .int w] S I L Rf Kr' Kx') : aMetW l E yL_shell cL_shell 6 (some .int) [(0, 12, 15, 13), (0, 12, 19, 15)] rmL_shell [.ref 3, .int x, .int y, .int w, .ref 10] S I L Rf Kr := by
  refine aMetW.of (lv0 := [.ref 3, .int x, .int y, .int w, .ref 10, aU]) (z := 1) (by decide +kernel) hst rfl (Nat.le_of_ble_eq_true rfl) ?_
  intro p e s m args below meth c io0 hx htb
  have hx : aCx p l s m args meth c RL cL_shell 6 (some .int) E := hx
  refine g_aloadG hx dL_shell_0 (nx := 2) rfl rfl ?_
  refine g_iconst hx dL_shell_2 (nx := 3) rfl (v := 0) (by decide) ?_
  refine g_aloadG_n hx dL_shell_3 rfl (nx := 4) rfl rfl ?_
  refine g_iloadG_n hx dL_shell_4 rfl (nx := 5) rfl rfl ?_
  refine g_iloadG_n hx dL_shell_5 rfl (nx := 6) rfl rfl ?_
  refine g_iloadG_n hx dL_shell_6 rfl (nx := 7) rfl rfl ?_
  refine g_callV_H hx [_, _, _] (k' := 2) (n' := 12) (lvh := [.ref 3, .int x, .int y, .int w, .ref 10, aU]) tgL_shell dL_shell_7 (nx := 10) rfl lk_L_7 h3 (by decide) rfl rfl (Nat.le_of_ble_eq_true rfl) (Nat.le_of_ble_eq_true rfl) (Nat.le_of_ble_eq_true rfl) (Nat.le_of_ble_eq_true rfl) (Nat.le_of_ble_eq_true rfl) (Nat.le_of_ble_eq_true rfl) (Nat.le_of_ble_eq_true rfl) htb (by decide) hlvL_shell htgL_shell (hX _ _ (fun r S' I' L' R' h10 hk => ?_) (fun S' I' L' R' hk => ⟨17, rfl, ?_⟩) (fun S' I' L' R' hk => ⟨21, rfl, ?_⟩))
  · refine g_i2l hx dL_shell_10 (nx := 11) rfl ?_
    refine g_lastore hx dL_shell_11 (nx := 12) rfl h10 (by decide) (vin (by decide)) ?_
    refine g_goto hx dL_shell_12 (tg := 23) (by decide) ?_
    refine g_iconst hx dL_shell_23 (nx := 24) rfl (v := 0) (by decide) ?_
    refine g_iret hx dL_shell_24 rfl rfl (Nat.le_of_ble_eq_true rfl) (Nat.le_of_ble_eq_true rfl) ?_
    first | exact hk
  · refine g_iconst hx dL_shell_17 (nx := 18) rfl (v := 1) (by decide) ?_
    refine g_iret hx dL_shell_18 rfl rfl (Nat.le_of_ble_eq_true rfl) (Nat.le_of_ble_eq_true rfl) ?_
    exact hk
  · refine g_iconst hx dL_shell_21 (nx := 22) rfl (v := 2) (by decide) ?_
    refine g_iret hx dL_shell_22 rfl rfl (Nat.le_of_ble_eq_true rfl) (Nat.le_of_ble_eq_true rfl) ?_
    exact hk
def tgL_star (X : String) : Option Nat := if X = eIA then some 13 else if X = eIS then some 16 else none
theorem htgL_star : ∀ X t, tgL_star X = some t → aHd RL cL_star (tableOf [(0, 9, 12, 13), (0, 9, 15, 15)]) 4 3 X t := by
  intro X t h
  unfold tgL_star at h
  split at h
  · rename_i e
    subst e
    cases h
    exact ⟨(tableOf [(0, 9, 12, 13), (0, 9, 15, 15)]).take 0, (tableOf [(0, 9, 12, 13), (0, 9, 15, 15)])[0], (tableOf [(0, 9, 12, 13), (0, 9, 15, 15)]).drop 1, _, rfl, (fun z hz => by cases hz), by decide, by decide, cl_L_13, ca_13, Or.inr ⟨3, rfl, dL_star_12, rfl⟩⟩
  · skip
    split at h
    · rename_i e
      subst e
      cases h
      exact ⟨(tableOf [(0, 9, 12, 13), (0, 9, 15, 15)]).take 1, (tableOf [(0, 9, 12, 13), (0, 9, 15, 15)])[1], (tableOf [(0, 9, 12, 13), (0, 9, 15, 15)]).drop 2, _, rfl, (fun z hz => by
          simp only [tableOf, List.map_cons, List.map_nil, List.take, List.mem_cons, List.not_mem_nil, or_false] at hz
          rcases hz with rfl
          · exact Or.inr ⟨by decide, _, cl_L_13, by decide +kernel⟩), by decide, by decide, cl_L_15, ca_15, Or.inr ⟨3, rfl, dL_star_15, rfl⟩⟩
    · cases h
theorem hlvL_star {x : Int32} : aStu 3 [.ref 3, .int x, .ref 10, aU] [.ref 3, .int x, .ref 10, aU] := by
  intro i u h hk
  match i, h with
  | 0, h => cases h; exact ⟨by decide, rfl, fun _ z => by cases z⟩
  | 1, h => cases h; exact ⟨by decide, rfl, fun _ z => by cases z⟩
  | 2, h => cases h; exact ⟨by decide, rfl, fun _ z => by cases z⟩
  | 3, h => cases h; cases hk
  | i + 4, h => simp at h
abbrev rmL_star : Room := { frames := 7, cells := 9, slots := 568, locals := 111 }
set_option maxHeartbeats 4000000 in
set_option maxRecDepth 100000 in
theorem s_L_star {l : Launch} {E : aE} {S : aS} {I : aI} {L : aL} {Rf : aR} {Kr : aK} (hst : l.stackTraces = false) {x : Int32} (h3 : S 3 = some (.inr 3)) (h10 : S 10 = some (.inl (.long, 1))) (hX : ∀ (Kr' : aK) (Kx' : aX), (∀ (r : Int32) S' I' L' R', S' 10 = some (.inl (.long, 1)) → Kr (some (.int 0)) S' I' (au2 L' 10 0 r.toInt64) R' → Kr' (some (.int r)) S' I' L' R') → (∀ S' I' L' R', Kr (some (.int 1)) S' I' L' R' → Kx' eIA S' I' L' R') → (∀ S' I' L' R', Kr (some (.int 2)) S' I' L' R' → Kx' eIS S' I' L' R') → aMet l E yX3_star cX3_star 2 (some .int) rmX3_star [.ref 3, .int x] S I L Rf Kr' Kx') : aMetW l E yL_star cL_star 4 (some .int) [(0, 9, 12, 13), (0, 9, 15, 15)] rmL_star [.ref 3, .int x, .ref 10] S I L Rf Kr := by
  refine aMetW.of (lv0 := [.ref 3, .int x, .ref 10, aU]) (z := 1) (by decide +kernel) hst rfl (Nat.le_of_ble_eq_true rfl) ?_
  intro p e s m args below meth c io0 hx htb
  have hx : aCx p l s m args meth c RL cL_star 4 (some .int) E := hx
  refine g_aloadG_n hx dL_star_0 rfl (nx := 1) rfl rfl ?_
  refine g_iconst hx dL_star_1 (nx := 2) rfl (v := 0) (by decide) ?_
  refine g_aloadG_n hx dL_star_2 rfl (nx := 3) rfl rfl ?_
  refine g_iloadG_n hx dL_star_3 rfl (nx := 4) rfl rfl ?_
  refine g_callV_H hx [_] (k' := 9) (n' := 568) (lvh := [.ref 3, .int x, .ref 10, aU]) tgL_star dL_star_4 (nx := 7) rfl lk_L_17 h3 (by decide) rfl rfl (Nat.le_of_ble_eq_true rfl) (Nat.le_of_ble_eq_true rfl) (Nat.le_of_ble_eq_true rfl) (Nat.le_of_ble_eq_true rfl) (Nat.le_of_ble_eq_true rfl) (Nat.le_of_ble_eq_true rfl) (Nat.le_of_ble_eq_true rfl) htb (by decide) hlvL_star htgL_star (hX _ _ (fun r S' I' L' R' h10 hk => ?_) (fun S' I' L' R' hk => ⟨13, rfl, ?_⟩) (fun S' I' L' R' hk => ⟨16, rfl, ?_⟩))
  · refine g_i2l hx dL_star_7 (nx := 8) rfl ?_
    refine g_lastore hx dL_star_8 (nx := 9) rfl h10 (by decide) (vin (by decide)) ?_
    refine g_goto hx dL_star_9 (tg := 18) (by decide) ?_
    refine g_iconst hx dL_star_18 (nx := 19) rfl (v := 0) (by decide) ?_
    refine g_iret hx dL_star_19 rfl rfl (Nat.le_of_ble_eq_true rfl) (Nat.le_of_ble_eq_true rfl) ?_
    first | exact hk
  · refine g_iconst hx dL_star_13 (nx := 14) rfl (v := 1) (by decide) ?_
    refine g_iret hx dL_star_14 rfl rfl (Nat.le_of_ble_eq_true rfl) (Nat.le_of_ble_eq_true rfl) ?_
    exact hk
  · refine g_iconst hx dL_star_16 (nx := 17) rfl (v := 2) (by decide) ?_
    refine g_iret hx dL_star_17 rfl rfl (Nat.le_of_ble_eq_true rfl) (Nat.le_of_ble_eq_true rfl) ?_
    exact hk
def tgL_frame (X : String) : Option Nat := if X = eIO then some 19 else if X = eIA then some 23 else none
theorem htgL_frame : ∀ X t, tgL_frame X = some t → aHd RL cL_frame (tableOf [(0, 14, 17, 25), (0, 14, 21, 13)]) 9 6 X t := by
  intro X t h
  unfold tgL_frame at h
  split at h
  · rename_i e
    subst e
    cases h
    exact ⟨(tableOf [(0, 14, 17, 25), (0, 14, 21, 13)]).take 0, (tableOf [(0, 14, 17, 25), (0, 14, 21, 13)])[0], (tableOf [(0, 14, 17, 25), (0, 14, 21, 13)]).drop 1, _, rfl, (fun z hz => by cases hz), by decide, by decide, cl_L_25, ca_25, Or.inl ⟨dL_frame_17, rfl⟩⟩
  · skip
    split at h
    · rename_i e
      subst e
      cases h
      exact ⟨(tableOf [(0, 14, 17, 25), (0, 14, 21, 13)]).take 1, (tableOf [(0, 14, 17, 25), (0, 14, 21, 13)])[1], (tableOf [(0, 14, 17, 25), (0, 14, 21, 13)]).drop 2, _, rfl, (fun z hz => by
          simp only [tableOf, List.map_cons, List.map_nil, List.take, List.mem_cons, List.not_mem_nil, or_false] at hz
          rcases hz with rfl
          · exact Or.inr ⟨by decide, _, cl_L_25, by decide +kernel⟩), by decide, by decide, cl_L_13, ca_13, Or.inl ⟨dL_frame_21, rfl⟩⟩
    · cases h
theorem hlvL_frame {x y w v : Int32} : aStu 6 [.ref 3, .int x, .int y, .int w, .int v, .ref 10, aU] [.ref 3, .int x, .int y, .int w, .int v, .ref 10, aU] := by
  intro i u h hk
  match i, h with
  | 0, h => cases h; exact ⟨by decide, rfl, fun _ z => by cases z⟩
  | 1, h => cases h; exact ⟨by decide, rfl, fun _ z => by cases z⟩
  | 2, h => cases h; exact ⟨by decide, rfl, fun _ z => by cases z⟩
  | 3, h => cases h; exact ⟨by decide, rfl, fun _ z => by cases z⟩
  | 4, h => cases h; exact ⟨by decide, rfl, fun _ z => by cases z⟩
  | 5, h => cases h; exact ⟨by decide, rfl, fun _ z => by cases z⟩
  | 6, h => cases h; cases hk
  | i + 7, h => simp at h
abbrev rmL_frame : Room := { frames := 8, cells := 4, slots := 24, locals := 137 }
set_option maxHeartbeats 4000000 in
set_option maxRecDepth 100000 in
theorem s_L_frame {l : Launch} {E : aE} {S : aS} {I : aI} {L : aL} {Rf : aR} {Kr : aK} (hst : l.stackTraces = false) {x y w v : Int32} (h3 : S 3 = some (.inr 3)) (h10 : S 10 = some (.inl (.long, 1))) (hX : ∀ (Kr' : aK) (Kx' : aX), (∀ (r : Int32) S' I' L' R', S' 10 = some (.inl (.long, 1)) → Kr (some (.int 0)) S' I' (au2 L' 10 0 r.toInt64) R' → Kr' (some (.int r)) S' I' L' R') → (∀ S' I' L' R', Kr (some (.int 1)) S' I' L' R' → Kx' eIO S' I' L' R') → (∀ S' I' L' R', Kr (some (.int 2)) S' I' L' R' → Kx' eIA S' I' L' R') → aMet l E yX3_frame cX3_frame 7 (some .int) rmX3_frame [.ref 3, .int x, .int y, .int w, .int v] S I L Rf Kr' Kx') : aMetW l E yL_frame cL_frame 7 (some .int) [(0, 14, 17, 25), (0, 14, 21, 13)] rmL_frame [.ref 3, .int x, .int y, .int w, .int v, .ref 10] S I L Rf Kr := by
  refine aMetW.of (lv0 := [.ref 3, .int x, .int y, .int w, .int v, .ref 10, aU]) (z := 1) (by decide +kernel) hst rfl (Nat.le_of_ble_eq_true rfl) ?_
  intro p e s m args below meth c io0 hx htb
  have hx : aCx p l s m args meth c RL cL_frame 7 (some .int) E := hx
  refine g_aloadG hx dL_frame_0 (nx := 2) rfl rfl ?_
  refine g_iconst hx dL_frame_2 (nx := 3) rfl (v := 0) (by decide) ?_
  refine g_aloadG_n hx dL_frame_3 rfl (nx := 4) rfl rfl ?_
  refine g_iloadG_n hx dL_frame_4 rfl (nx := 5) rfl rfl ?_
  refine g_iloadG_n hx dL_frame_5 rfl (nx := 6) rfl rfl ?_
  refine g_iloadG_n hx dL_frame_6 rfl (nx := 7) rfl rfl ?_
  refine g_iloadG hx dL_frame_7 (nx := 9) rfl rfl ?_
  refine g_callV_H hx [_, _, _, _] (k' := 4) (n' := 24) (lvh := [.ref 3, .int x, .int y, .int w, .int v, .ref 10, aU]) tgL_frame dL_frame_9 (nx := 12) rfl lk_L_21 h3 (by decide) rfl rfl (Nat.le_of_ble_eq_true rfl) (Nat.le_of_ble_eq_true rfl) (Nat.le_of_ble_eq_true rfl) (Nat.le_of_ble_eq_true rfl) (Nat.le_of_ble_eq_true rfl) (Nat.le_of_ble_eq_true rfl) (Nat.le_of_ble_eq_true rfl) htb (by decide) hlvL_frame htgL_frame (hX _ _ (fun r S' I' L' R' h10 hk => ?_) (fun S' I' L' R' hk => ⟨19, rfl, ?_⟩) (fun S' I' L' R' hk => ⟨23, rfl, ?_⟩))
  · refine g_i2l hx dL_frame_12 (nx := 13) rfl ?_
    refine g_lastore hx dL_frame_13 (nx := 14) rfl h10 (by decide) (vin (by decide)) ?_
    refine g_goto hx dL_frame_14 (tg := 25) (by decide) ?_
    refine g_iconst hx dL_frame_25 (nx := 26) rfl (v := 0) (by decide) ?_
    refine g_iret hx dL_frame_26 rfl rfl (Nat.le_of_ble_eq_true rfl) (Nat.le_of_ble_eq_true rfl) ?_
    first | exact hk
  · refine g_iconst hx dL_frame_19 (nx := 20) rfl (v := 1) (by decide) ?_
    refine g_iret hx dL_frame_20 rfl rfl (Nat.le_of_ble_eq_true rfl) (Nat.le_of_ble_eq_true rfl) ?_
    exact hk
  · refine g_iconst hx dL_frame_23 (nx := 24) rfl (v := 2) (by decide) ?_
    refine g_iret hx dL_frame_24 rfl rfl (Nat.le_of_ble_eq_true rfl) (Nat.le_of_ble_eq_true rfl) ?_
    exact hk
def tgL_drop (X : String) : Option Nat := if X = eIO then some 15 else if X = eIA then some 19 else if X = eIS then some 23 else none
theorem htgL_drop : ∀ X t, tgL_drop X = some t → aHd RL cL_drop (tableOf [(0, 10, 13, 25), (0, 10, 17, 13), (0, 10, 21, 15)]) 5 4 X t := by
  intro X t h
  unfold tgL_drop at h
  split at h
  · rename_i e
    subst e
    cases h
    exact ⟨(tableOf [(0, 10, 13, 25), (0, 10, 17, 13), (0, 10, 21, 15)]).take 0, (tableOf [(0, 10, 13, 25), (0, 10, 17, 13), (0, 10, 21, 15)])[0], (tableOf [(0, 10, 13, 25), (0, 10, 17, 13), (0, 10, 21, 15)]).drop 1, _, rfl, (fun z hz => by cases hz), by decide, by decide, cl_L_25, ca_25, Or.inl ⟨dL_drop_13, rfl⟩⟩
  · skip
    split at h
    · rename_i e
      subst e
      cases h
      exact ⟨(tableOf [(0, 10, 13, 25), (0, 10, 17, 13), (0, 10, 21, 15)]).take 1, (tableOf [(0, 10, 13, 25), (0, 10, 17, 13), (0, 10, 21, 15)])[1], (tableOf [(0, 10, 13, 25), (0, 10, 17, 13), (0, 10, 21, 15)]).drop 2, _, rfl, (fun z hz => by
          simp only [tableOf, List.map_cons, List.map_nil, List.take, List.mem_cons, List.not_mem_nil, or_false] at hz
          rcases hz with rfl
          · exact Or.inr ⟨by decide, _, cl_L_25, by decide +kernel⟩), by decide, by decide, cl_L_13, ca_13, Or.inl ⟨dL_drop_17, rfl⟩⟩
    · skip
      split at h
      · rename_i e
        subst e
        cases h
        exact ⟨(tableOf [(0, 10, 13, 25), (0, 10, 17, 13), (0, 10, 21, 15)]).take 2, (tableOf [(0, 10, 13, 25), (0, 10, 17, 13), (0, 10, 21, 15)])[2], (tableOf [(0, 10, 13, 25), (0, 10, 17, 13), (0, 10, 21, 15)]).drop 3, _, rfl, (fun z hz => by
            simp only [tableOf, List.map_cons, List.map_nil, List.take, List.mem_cons, List.not_mem_nil, or_false] at hz
            rcases hz with rfl | rfl
            · exact Or.inr ⟨by decide, _, cl_L_25, by decide +kernel⟩
            · exact Or.inr ⟨by decide, _, cl_L_13, by decide +kernel⟩), by decide, by decide, cl_L_15, ca_15, Or.inl ⟨dL_drop_21, rfl⟩⟩
      · cases h
theorem hlvL_drop {x y : Int32} : aStu 4 [.ref 3, .int x, .int y, .ref 10, aU] [.ref 3, .int x, .int y, .ref 10, aU] := by
  intro i u h hk
  match i, h with
  | 0, h => cases h; exact ⟨by decide, rfl, fun _ z => by cases z⟩
  | 1, h => cases h; exact ⟨by decide, rfl, fun _ z => by cases z⟩
  | 2, h => cases h; exact ⟨by decide, rfl, fun _ z => by cases z⟩
  | 3, h => cases h; exact ⟨by decide, rfl, fun _ z => by cases z⟩
  | 4, h => cases h; cases hk
  | i + 5, h => simp at h
abbrev rmL_drop : Room := { frames := 8, cells := 3, slots := 18, locals := 135 }
set_option maxHeartbeats 4000000 in
set_option maxRecDepth 100000 in
theorem s_L_drop {l : Launch} {E : aE} {S : aS} {I : aI} {L : aL} {Rf : aR} {Kr : aK} (hst : l.stackTraces = false) {x y : Int32} (h3 : S 3 = some (.inr 3)) (h10 : S 10 = some (.inl (.long, 1))) (hX : ∀ (Kr' : aK) (Kx' : aX), (∀ (r : Int32) S' I' L' R', S' 10 = some (.inl (.long, 1)) → Kr (some (.int 0)) S' I' (au2 L' 10 0 r.toInt64) R' → Kr' (some (.int r)) S' I' L' R') → (∀ S' I' L' R', Kr (some (.int 1)) S' I' L' R' → Kx' eIO S' I' L' R') → (∀ S' I' L' R', Kr (some (.int 2)) S' I' L' R' → Kx' eIA S' I' L' R') → (∀ S' I' L' R', Kr (some (.int 3)) S' I' L' R' → Kx' eIS S' I' L' R') → aMet l E yX3_drop cX3_drop 5 (some .int) rmX3_drop [.ref 3, .int x, .int y] S I L Rf Kr' Kx') : aMetW l E yL_drop cL_drop 5 (some .int) [(0, 10, 13, 25), (0, 10, 17, 13), (0, 10, 21, 15)] rmL_drop [.ref 3, .int x, .int y, .ref 10] S I L Rf Kr := by
  refine aMetW.of (lv0 := [.ref 3, .int x, .int y, .ref 10, aU]) (z := 1) (by decide +kernel) hst rfl (Nat.le_of_ble_eq_true rfl) ?_
  intro p e s m args below meth c io0 hx htb
  have hx : aCx p l s m args meth c RL cL_drop 5 (some .int) E := hx
  refine g_aloadG_n hx dL_drop_0 rfl (nx := 1) rfl rfl ?_
  refine g_iconst hx dL_drop_1 (nx := 2) rfl (v := 0) (by decide) ?_
  refine g_aloadG_n hx dL_drop_2 rfl (nx := 3) rfl rfl ?_
  refine g_iloadG_n hx dL_drop_3 rfl (nx := 4) rfl rfl ?_
  refine g_iloadG_n hx dL_drop_4 rfl (nx := 5) rfl rfl ?_
  refine g_callV_H hx [_, _] (k' := 3) (n' := 18) (lvh := [.ref 3, .int x, .int y, .ref 10, aU]) tgL_drop dL_drop_5 (nx := 8) rfl lk_L_27 h3 (by decide) rfl rfl (Nat.le_of_ble_eq_true rfl) (Nat.le_of_ble_eq_true rfl) (Nat.le_of_ble_eq_true rfl) (Nat.le_of_ble_eq_true rfl) (Nat.le_of_ble_eq_true rfl) (Nat.le_of_ble_eq_true rfl) (Nat.le_of_ble_eq_true rfl) htb (by decide) hlvL_drop htgL_drop (hX _ _ (fun r S' I' L' R' h10 hk => ?_) (fun S' I' L' R' hk => ⟨15, rfl, ?_⟩) (fun S' I' L' R' hk => ⟨19, rfl, ?_⟩) (fun S' I' L' R' hk => ⟨23, rfl, ?_⟩))
  · refine g_i2l hx dL_drop_8 (nx := 9) rfl ?_
    refine g_lastore hx dL_drop_9 (nx := 10) rfl h10 (by decide) (vin (by decide)) ?_
    refine g_goto hx dL_drop_10 (tg := 25) (by decide) ?_
    refine g_iconst hx dL_drop_25 (nx := 26) rfl (v := 0) (by decide) ?_
    refine g_iret hx dL_drop_26 rfl rfl (Nat.le_of_ble_eq_true rfl) (Nat.le_of_ble_eq_true rfl) ?_
    first | exact hk
  · refine g_iconst hx dL_drop_15 (nx := 16) rfl (v := 1) (by decide) ?_
    refine g_iret hx dL_drop_16 rfl rfl (Nat.le_of_ble_eq_true rfl) (Nat.le_of_ble_eq_true rfl) ?_
    exact hk
  · refine g_iconst hx dL_drop_19 (nx := 20) rfl (v := 2) (by decide) ?_
    refine g_iret hx dL_drop_20 rfl rfl (Nat.le_of_ble_eq_true rfl) (Nat.le_of_ble_eq_true rfl) ?_
    exact hk
  · refine g_iconst hx dL_drop_23 (nx := 24) rfl (v := 3) (by decide) ?_
    refine g_iret hx dL_drop_24 rfl rfl (Nat.le_of_ble_eq_true rfl) (Nat.le_of_ble_eq_true rfl) ?_
    exact hk
def tgL_mask (X : String) : Option Nat := if X = eIO then some 22 else none
theorem htgL_mask : ∀ X t, tgL_mask X = some t → aHd RL cL_mask (tableOf [(0, 17, 20, 25)]) 5 4 X t := by
  intro X t h
  unfold tgL_mask at h
  split at h
  · rename_i e
    subst e
    cases h
    exact ⟨(tableOf [(0, 17, 20, 25)]).take 0, (tableOf [(0, 17, 20, 25)])[0], (tableOf [(0, 17, 20, 25)]).drop 1, _, rfl, (fun z hz => by cases hz), by decide, by decide, cl_L_25, ca_25, Or.inl ⟨dL_mask_20, rfl⟩⟩
  · cases h
theorem hlvL_mask {x y : Int32} : aStu 4 [.ref 3, .int x, .int y, .ref 10, aU] [.ref 3, .int x, .int y, .ref 10, aU] := by
  intro i u h hk
  match i, h with
  | 0, h => cases h; exact ⟨by decide, rfl, fun _ z => by cases z⟩
  | 1, h => cases h; exact ⟨by decide, rfl, fun _ z => by cases z⟩
  | 2, h => cases h; exact ⟨by decide, rfl, fun _ z => by cases z⟩
  | 3, h => cases h; exact ⟨by decide, rfl, fun _ z => by cases z⟩
  | 4, h => cases h; cases hk
  | i + 5, h => simp at h
abbrev rmL_mask : Room := { frames := 8, cells := 1, slots := 6, locals := 133 }
set_option maxHeartbeats 4000000 in
set_option maxRecDepth 100000 in
theorem s_L_mask {l : Launch} {E : aE} {S : aS} {I : aI} {L : aL} {Rf : aR} {Kr : aK} (hst : l.stackTraces = false) {x y : Int32} (h3 : S 3 = some (.inr 3)) (h10 : S 10 = some (.inl (.long, 1))) (hX : ∀ (Kr' : aK) (Kx' : aX), (∀ r S' I' L' R', S' 10 = some (.inl (.long, 1)) → Kr (some (.int 0)) S' I' (au2 L' 10 0 (if r = 0 then 0 else 1)) R' → Kr' (some (.int r)) S' I' L' R') → (∀ S' I' L' R', Kr (some (.int 1)) S' I' L' R' → Kx' eIO S' I' L' R') → aMet l E yX3_mask cX3_mask 4 (some .boolean) rmX3_mask [.ref 3, .int x, .int y] S I L Rf Kr' Kx') : aMetW l E yL_mask cL_mask 5 (some .int) [(0, 17, 20, 25)] rmL_mask [.ref 3, .int x, .int y, .ref 10] S I L Rf Kr := by
  refine aMetW.of (lv0 := [.ref 3, .int x, .int y, .ref 10, aU]) (z := 1) (by decide +kernel) hst rfl (Nat.le_of_ble_eq_true rfl) ?_
  intro p e s m args below meth c io0 hx htb
  have hx : aCx p l s m args meth c RL cL_mask 5 (some .int) E := hx
  refine g_aloadG_n hx dL_mask_0 rfl (nx := 1) rfl rfl ?_
  refine g_iconst hx dL_mask_1 (nx := 2) rfl (v := 0) (by decide) ?_
  refine g_aloadG_n hx dL_mask_2 rfl (nx := 3) rfl rfl ?_
  refine g_iloadG_n hx dL_mask_3 rfl (nx := 4) rfl rfl ?_
  refine g_iloadG_n hx dL_mask_4 rfl (nx := 5) rfl rfl ?_
  refine g_callV_H hx [_, _] (k' := 1) (n' := 6) (lvh := [.ref 3, .int x, .int y, .ref 10, aU]) tgL_mask dL_mask_5 (nx := 8) rfl lk_L_31 h3 (by decide) rfl rfl (Nat.le_of_ble_eq_true rfl) (Nat.le_of_ble_eq_true rfl) (Nat.le_of_ble_eq_true rfl) (Nat.le_of_ble_eq_true rfl) (Nat.le_of_ble_eq_true rfl) (Nat.le_of_ble_eq_true rfl) (Nat.le_of_ble_eq_true rfl) htb (by decide) hlvL_mask htgL_mask (hX _ _ (fun r S' I' L' R' h10 hk => ?_) (fun S' I' L' R' hk => ⟨22, rfl, ?_⟩))
  · refine g_if_eq hx dL_mask_8 (tg := 15) (by decide) (nx := 11) rfl (fun c8 => ?_) (fun c8 => ?_)
    · refine g_lconst hx dL_mask_15 (nx := 16) rfl (v := 0) (by decide) ?_
      refine g_lastore hx dL_mask_16 (nx := 17) rfl h10 (by decide) (vin (by decide)) ?_
      refine g_goto hx dL_mask_17 (tg := 24) (by decide) ?_
      refine g_iconst hx dL_mask_24 (nx := 25) rfl (v := 0) (by decide) ?_
      refine g_iret hx dL_mask_25 rfl rfl (Nat.le_of_ble_eq_true rfl) (Nat.le_of_ble_eq_true rfl) ?_
      first | exact hk | (rw [if_pos c8] at hk; exact hk) | (rw [if_neg c8] at hk; exact hk)
    · refine g_lconst hx dL_mask_11 (nx := 12) rfl (v := 1) (by decide) ?_
      refine g_goto hx dL_mask_12 (tg := 16) (by decide) ?_
      refine g_lastore hx dL_mask_16 (nx := 17) rfl h10 (by decide) (vin (by decide)) ?_
      refine g_goto hx dL_mask_17 (tg := 24) (by decide) ?_
      refine g_iconst hx dL_mask_24 (nx := 25) rfl (v := 0) (by decide) ?_
      refine g_iret hx dL_mask_25 rfl rfl (Nat.le_of_ble_eq_true rfl) (Nat.le_of_ble_eq_true rfl) ?_
      first | exact hk | (rw [if_pos c8] at hk; exact hk) | (rw [if_neg c8] at hk; exact hk)
  · refine g_iconst hx dL_mask_22 (nx := 23) rfl (v := 1) (by decide) ?_
    refine g_iret hx dL_mask_23 rfl rfl (Nat.le_of_ble_eq_true rfl) (Nat.le_of_ble_eq_true rfl) ?_
    exact hk
def tgL_threshold (X : String) : Option Nat := if X = eIA then some 13 else none
theorem htgL_threshold : ∀ X t, tgL_threshold X = some t → aHd RL cL_threshold (tableOf [(0, 9, 12, 13)]) 4 3 X t := by
  intro X t h
  unfold tgL_threshold at h
  split at h
  · rename_i e
    subst e
    cases h
    exact ⟨(tableOf [(0, 9, 12, 13)]).take 0, (tableOf [(0, 9, 12, 13)])[0], (tableOf [(0, 9, 12, 13)]).drop 1, _, rfl, (fun z hz => by cases hz), by decide, by decide, cl_L_13, ca_13, Or.inr ⟨3, rfl, dL_threshold_12, rfl⟩⟩
  · cases h
theorem hlvL_threshold {x : Int32} : aStu 3 [.ref 3, .int x, .ref 10, aU] [.ref 3, .int x, .ref 10, aU] := by
  intro i u h hk
  match i, h with
  | 0, h => cases h; exact ⟨by decide, rfl, fun _ z => by cases z⟩
  | 1, h => cases h; exact ⟨by decide, rfl, fun _ z => by cases z⟩
  | 2, h => cases h; exact ⟨by decide, rfl, fun _ z => by cases z⟩
  | 3, h => cases h; cases hk
  | i + 4, h => simp at h
abbrev rmL_threshold : Room := { frames := 7, cells := 1, slots := 6, locals := 112 }
set_option maxHeartbeats 4000000 in
set_option maxRecDepth 100000 in
theorem s_L_threshold {l : Launch} {E : aE} {S : aS} {I : aI} {L : aL} {Rf : aR} {Kr : aK} (hst : l.stackTraces = false) {x : Int32} (h3 : S 3 = some (.inr 3)) (h10 : S 10 = some (.inl (.long, 1))) (hX : ∀ (Kr' : aK) (Kx' : aX), (∀ (r : Int32) S' I' L' R', S' 10 = some (.inl (.long, 1)) → Kr (some (.int 0)) S' I' (au2 L' 10 0 r.toInt64) R' → Kr' (some (.int r)) S' I' L' R') → (∀ S' I' L' R', Kr (some (.int 1)) S' I' L' R' → Kx' eIA S' I' L' R') → aMet l E yX3_threshold cX3_threshold 3 (some .int) rmX3_threshold [.ref 3, .int x] S I L Rf Kr' Kx') : aMetW l E yL_threshold cL_threshold 4 (some .int) [(0, 9, 12, 13)] rmL_threshold [.ref 3, .int x, .ref 10] S I L Rf Kr := by
  refine aMetW.of (lv0 := [.ref 3, .int x, .ref 10, aU]) (z := 1) (by decide +kernel) hst rfl (Nat.le_of_ble_eq_true rfl) ?_
  intro p e s m args below meth c io0 hx htb
  have hx : aCx p l s m args meth c RL cL_threshold 4 (some .int) E := hx
  refine g_aloadG_n hx dL_threshold_0 rfl (nx := 1) rfl rfl ?_
  refine g_iconst hx dL_threshold_1 (nx := 2) rfl (v := 0) (by decide) ?_
  refine g_aloadG_n hx dL_threshold_2 rfl (nx := 3) rfl rfl ?_
  refine g_iloadG_n hx dL_threshold_3 rfl (nx := 4) rfl rfl ?_
  refine g_callV_H hx [_] (k' := 1) (n' := 6) (lvh := [.ref 3, .int x, .ref 10, aU]) tgL_threshold dL_threshold_4 (nx := 7) rfl lk_L_35 h3 (by decide) rfl rfl (Nat.le_of_ble_eq_true rfl) (Nat.le_of_ble_eq_true rfl) (Nat.le_of_ble_eq_true rfl) (Nat.le_of_ble_eq_true rfl) (Nat.le_of_ble_eq_true rfl) (Nat.le_of_ble_eq_true rfl) (Nat.le_of_ble_eq_true rfl) htb (by decide) hlvL_threshold htgL_threshold (hX _ _ (fun r S' I' L' R' h10 hk => ?_) (fun S' I' L' R' hk => ⟨13, rfl, ?_⟩))
  · refine g_i2l hx dL_threshold_7 (nx := 8) rfl ?_
    refine g_lastore hx dL_threshold_8 (nx := 9) rfl h10 (by decide) (vin (by decide)) ?_
    refine g_goto hx dL_threshold_9 (tg := 15) (by decide) ?_
    refine g_iconst hx dL_threshold_15 (nx := 16) rfl (v := 0) (by decide) ?_
    refine g_iret hx dL_threshold_16 rfl rfl (Nat.le_of_ble_eq_true rfl) (Nat.le_of_ble_eq_true rfl) ?_
    first | exact hk
  · refine g_iconst hx dL_threshold_13 (nx := 14) rfl (v := 1) (by decide) ?_
    refine g_iret hx dL_threshold_14 rfl rfl (Nat.le_of_ble_eq_true rfl) (Nat.le_of_ble_eq_true rfl) ?_
    exact hk
def tgL_takeOut (X : String) : Option Nat := if X = eIO then some 15 else if X = eIA then some 19 else if X = eIS then some 23 else none
theorem htgL_takeOut : ∀ X t, tgL_takeOut X = some t → aHd RL cL_takeOut (tableOf [(0, 10, 13, 25), (0, 10, 17, 13), (0, 10, 21, 15)]) 5 4 X t := by
  intro X t h
  unfold tgL_takeOut at h
  split at h
  · rename_i e
    subst e
    cases h
    exact ⟨(tableOf [(0, 10, 13, 25), (0, 10, 17, 13), (0, 10, 21, 15)]).take 0, (tableOf [(0, 10, 13, 25), (0, 10, 17, 13), (0, 10, 21, 15)])[0], (tableOf [(0, 10, 13, 25), (0, 10, 17, 13), (0, 10, 21, 15)]).drop 1, _, rfl, (fun z hz => by cases hz), by decide, by decide, cl_L_25, ca_25, Or.inl ⟨dL_takeOut_13, rfl⟩⟩
  · skip
    split at h
    · rename_i e
      subst e
      cases h
      exact ⟨(tableOf [(0, 10, 13, 25), (0, 10, 17, 13), (0, 10, 21, 15)]).take 1, (tableOf [(0, 10, 13, 25), (0, 10, 17, 13), (0, 10, 21, 15)])[1], (tableOf [(0, 10, 13, 25), (0, 10, 17, 13), (0, 10, 21, 15)]).drop 2, _, rfl, (fun z hz => by
          simp only [tableOf, List.map_cons, List.map_nil, List.take, List.mem_cons, List.not_mem_nil, or_false] at hz
          rcases hz with rfl
          · exact Or.inr ⟨by decide, _, cl_L_25, by decide +kernel⟩), by decide, by decide, cl_L_13, ca_13, Or.inl ⟨dL_takeOut_17, rfl⟩⟩
    · skip
      split at h
      · rename_i e
        subst e
        cases h
        exact ⟨(tableOf [(0, 10, 13, 25), (0, 10, 17, 13), (0, 10, 21, 15)]).take 2, (tableOf [(0, 10, 13, 25), (0, 10, 17, 13), (0, 10, 21, 15)])[2], (tableOf [(0, 10, 13, 25), (0, 10, 17, 13), (0, 10, 21, 15)]).drop 3, _, rfl, (fun z hz => by
            simp only [tableOf, List.map_cons, List.map_nil, List.take, List.mem_cons, List.not_mem_nil, or_false] at hz
            rcases hz with rfl | rfl
            · exact Or.inr ⟨by decide, _, cl_L_25, by decide +kernel⟩
            · exact Or.inr ⟨by decide, _, cl_L_13, by decide +kernel⟩), by decide, by decide, cl_L_15, ca_15, Or.inl ⟨dL_takeOut_21, rfl⟩⟩
      · cases h
theorem hlvL_takeOut {x y : Int32} : aStu 4 [.ref 3, .int x, .int y, .ref 10, aU] [.ref 3, .int x, .int y, .ref 10, aU] := by
  intro i u h hk
  match i, h with
  | 0, h => cases h; exact ⟨by decide, rfl, fun _ z => by cases z⟩
  | 1, h => cases h; exact ⟨by decide, rfl, fun _ z => by cases z⟩
  | 2, h => cases h; exact ⟨by decide, rfl, fun _ z => by cases z⟩
  | 3, h => cases h; exact ⟨by decide, rfl, fun _ z => by cases z⟩
  | 4, h => cases h; cases hk
  | i + 5, h => simp at h
abbrev rmL_takeOut : Room := { frames := 8, cells := 3, slots := 18, locals := 134 }
set_option maxHeartbeats 4000000 in
set_option maxRecDepth 100000 in
theorem s_L_takeOut {l : Launch} {E : aE} {S : aS} {I : aI} {L : aL} {Rf : aR} {Kr : aK} (hst : l.stackTraces = false) {x y : Int32} (h3 : S 3 = some (.inr 3)) (h10 : S 10 = some (.inl (.long, 1))) (hX : ∀ (Kr' : aK) (Kx' : aX), (∀ (r : Int32) S' I' L' R', S' 10 = some (.inl (.long, 1)) → Kr (some (.int 0)) S' I' (au2 L' 10 0 r.toInt64) R' → Kr' (some (.int r)) S' I' L' R') → (∀ S' I' L' R', Kr (some (.int 1)) S' I' L' R' → Kx' eIO S' I' L' R') → (∀ S' I' L' R', Kr (some (.int 2)) S' I' L' R' → Kx' eIA S' I' L' R') → (∀ S' I' L' R', Kr (some (.int 3)) S' I' L' R' → Kx' eIS S' I' L' R') → aMet l E yX3_takeOut cX3_takeOut 4 (some .int) rmX3_takeOut [.ref 3, .int x, .int y] S I L Rf Kr' Kx') : aMetW l E yL_takeOut cL_takeOut 5 (some .int) [(0, 10, 13, 25), (0, 10, 17, 13), (0, 10, 21, 15)] rmL_takeOut [.ref 3, .int x, .int y, .ref 10] S I L Rf Kr := by
  refine aMetW.of (lv0 := [.ref 3, .int x, .int y, .ref 10, aU]) (z := 1) (by decide +kernel) hst rfl (Nat.le_of_ble_eq_true rfl) ?_
  intro p e s m args below meth c io0 hx htb
  have hx : aCx p l s m args meth c RL cL_takeOut 5 (some .int) E := hx
  refine g_aloadG_n hx dL_takeOut_0 rfl (nx := 1) rfl rfl ?_
  refine g_iconst hx dL_takeOut_1 (nx := 2) rfl (v := 0) (by decide) ?_
  refine g_aloadG_n hx dL_takeOut_2 rfl (nx := 3) rfl rfl ?_
  refine g_iloadG_n hx dL_takeOut_3 rfl (nx := 4) rfl rfl ?_
  refine g_iloadG_n hx dL_takeOut_4 rfl (nx := 5) rfl rfl ?_
  refine g_callV_H hx [_, _] (k' := 3) (n' := 18) (lvh := [.ref 3, .int x, .int y, .ref 10, aU]) tgL_takeOut dL_takeOut_5 (nx := 8) rfl lk_L_38 h3 (by decide) rfl rfl (Nat.le_of_ble_eq_true rfl) (Nat.le_of_ble_eq_true rfl) (Nat.le_of_ble_eq_true rfl) (Nat.le_of_ble_eq_true rfl) (Nat.le_of_ble_eq_true rfl) (Nat.le_of_ble_eq_true rfl) (Nat.le_of_ble_eq_true rfl) htb (by decide) hlvL_takeOut htgL_takeOut (hX _ _ (fun r S' I' L' R' h10 hk => ?_) (fun S' I' L' R' hk => ⟨15, rfl, ?_⟩) (fun S' I' L' R' hk => ⟨19, rfl, ?_⟩) (fun S' I' L' R' hk => ⟨23, rfl, ?_⟩))
  · refine g_i2l hx dL_takeOut_8 (nx := 9) rfl ?_
    refine g_lastore hx dL_takeOut_9 (nx := 10) rfl h10 (by decide) (vin (by decide)) ?_
    refine g_goto hx dL_takeOut_10 (tg := 25) (by decide) ?_
    refine g_iconst hx dL_takeOut_25 (nx := 26) rfl (v := 0) (by decide) ?_
    refine g_iret hx dL_takeOut_26 rfl rfl (Nat.le_of_ble_eq_true rfl) (Nat.le_of_ble_eq_true rfl) ?_
    first | exact hk
  · refine g_iconst hx dL_takeOut_15 (nx := 16) rfl (v := 1) (by decide) ?_
    refine g_iret hx dL_takeOut_16 rfl rfl (Nat.le_of_ble_eq_true rfl) (Nat.le_of_ble_eq_true rfl) ?_
    exact hk
  · refine g_iconst hx dL_takeOut_19 (nx := 20) rfl (v := 2) (by decide) ?_
    refine g_iret hx dL_takeOut_20 rfl rfl (Nat.le_of_ble_eq_true rfl) (Nat.le_of_ble_eq_true rfl) ?_
    exact hk
  · refine g_iconst hx dL_takeOut_23 (nx := 24) rfl (v := 3) (by decide) ?_
    refine g_iret hx dL_takeOut_24 rfl rfl (Nat.le_of_ble_eq_true rfl) (Nat.le_of_ble_eq_true rfl) ?_
    exact hk
def tgL_putBack (X : String) : Option Nat := if X = eIO then some 13 else none
theorem htgL_putBack : ∀ X t, tgL_putBack X = some t → aHd RL cL_putBack (tableOf [(0, 9, 12, 25)]) 4 3 X t := by
  intro X t h
  unfold tgL_putBack at h
  split at h
  · rename_i e
    subst e
    cases h
    exact ⟨(tableOf [(0, 9, 12, 25)]).take 0, (tableOf [(0, 9, 12, 25)])[0], (tableOf [(0, 9, 12, 25)]).drop 1, _, rfl, (fun z hz => by cases hz), by decide, by decide, cl_L_25, ca_25, Or.inr ⟨3, rfl, dL_putBack_12, rfl⟩⟩
  · cases h
theorem hlvL_putBack {x : Int32} : aStu 3 [.ref 3, .int x, .ref 10, aU] [.ref 3, .int x, .ref 10, aU] := by
  intro i u h hk
  match i, h with
  | 0, h => cases h; exact ⟨by decide, rfl, fun _ z => by cases z⟩
  | 1, h => cases h; exact ⟨by decide, rfl, fun _ z => by cases z⟩
  | 2, h => cases h; exact ⟨by decide, rfl, fun _ z => by cases z⟩
  | 3, h => cases h; cases hk
  | i + 4, h => simp at h
abbrev rmL_putBack : Room := { frames := 8, cells := 1, slots := 6, locals := 134 }
set_option maxHeartbeats 4000000 in
set_option maxRecDepth 100000 in
theorem s_L_putBack {l : Launch} {E : aE} {S : aS} {I : aI} {L : aL} {Rf : aR} {Kr : aK} (hst : l.stackTraces = false) {x : Int32} (h3 : S 3 = some (.inr 3)) (h10 : S 10 = some (.inl (.long, 1))) (hX : ∀ (Kr' : aK) (Kx' : aX), (∀ (r : Int32) S' I' L' R', S' 10 = some (.inl (.long, 1)) → Kr (some (.int 0)) S' I' (au2 L' 10 0 r.toInt64) R' → Kr' (some (.int r)) S' I' L' R') → (∀ S' I' L' R', Kr (some (.int 1)) S' I' L' R' → Kx' eIO S' I' L' R') → aMet l E yX3_putBack cX3_putBack 4 (some .int) rmX3_putBack [.ref 3, .int x] S I L Rf Kr' Kx') : aMetW l E yL_putBack cL_putBack 4 (some .int) [(0, 9, 12, 25)] rmL_putBack [.ref 3, .int x, .ref 10] S I L Rf Kr := by
  refine aMetW.of (lv0 := [.ref 3, .int x, .ref 10, aU]) (z := 1) (by decide +kernel) hst rfl (Nat.le_of_ble_eq_true rfl) ?_
  intro p e s m args below meth c io0 hx htb
  have hx : aCx p l s m args meth c RL cL_putBack 4 (some .int) E := hx
  refine g_aloadG_n hx dL_putBack_0 rfl (nx := 1) rfl rfl ?_
  refine g_iconst hx dL_putBack_1 (nx := 2) rfl (v := 0) (by decide) ?_
  refine g_aloadG_n hx dL_putBack_2 rfl (nx := 3) rfl rfl ?_
  refine g_iloadG_n hx dL_putBack_3 rfl (nx := 4) rfl rfl ?_
  refine g_callV_H hx [_] (k' := 1) (n' := 6) (lvh := [.ref 3, .int x, .ref 10, aU]) tgL_putBack dL_putBack_4 (nx := 7) rfl lk_L_41 h3 (by decide) rfl rfl (Nat.le_of_ble_eq_true rfl) (Nat.le_of_ble_eq_true rfl) (Nat.le_of_ble_eq_true rfl) (Nat.le_of_ble_eq_true rfl) (Nat.le_of_ble_eq_true rfl) (Nat.le_of_ble_eq_true rfl) (Nat.le_of_ble_eq_true rfl) htb (by decide) hlvL_putBack htgL_putBack (hX _ _ (fun r S' I' L' R' h10 hk => ?_) (fun S' I' L' R' hk => ⟨13, rfl, ?_⟩))
  · refine g_i2l hx dL_putBack_7 (nx := 8) rfl ?_
    refine g_lastore hx dL_putBack_8 (nx := 9) rfl h10 (by decide) (vin (by decide)) ?_
    refine g_goto hx dL_putBack_9 (tg := 15) (by decide) ?_
    refine g_iconst hx dL_putBack_15 (nx := 16) rfl (v := 0) (by decide) ?_
    refine g_iret hx dL_putBack_16 rfl rfl (Nat.le_of_ble_eq_true rfl) (Nat.le_of_ble_eq_true rfl) ?_
    first | exact hk
  · refine g_iconst hx dL_putBack_13 (nx := 14) rfl (v := 1) (by decide) ?_
    refine g_iret hx dL_putBack_14 rfl rfl (Nat.le_of_ble_eq_true rfl) (Nat.le_of_ble_eq_true rfl) ?_
    exact hk
def tgL_claimTone (X : String) : Option Nat := if X = eIO then some 17 else if X = eIS then some 21 else none
theorem htgL_claimTone : ∀ X t, tgL_claimTone X = some t → aHd RL cL_claimTone (tableOf [(0, 12, 15, 25), (0, 12, 19, 15)]) 7 5 X t := by
  intro X t h
  unfold tgL_claimTone at h
  split at h
  · rename_i e
    subst e
    cases h
    exact ⟨(tableOf [(0, 12, 15, 25), (0, 12, 19, 15)]).take 0, (tableOf [(0, 12, 15, 25), (0, 12, 19, 15)])[0], (tableOf [(0, 12, 15, 25), (0, 12, 19, 15)]).drop 1, _, rfl, (fun z hz => by cases hz), by decide, by decide, cl_L_25, ca_25, Or.inl ⟨dL_claimTone_15, rfl⟩⟩
  · skip
    split at h
    · rename_i e
      subst e
      cases h
      exact ⟨(tableOf [(0, 12, 15, 25), (0, 12, 19, 15)]).take 1, (tableOf [(0, 12, 15, 25), (0, 12, 19, 15)])[1], (tableOf [(0, 12, 15, 25), (0, 12, 19, 15)]).drop 2, _, rfl, (fun z hz => by
          simp only [tableOf, List.map_cons, List.map_nil, List.take, List.mem_cons, List.not_mem_nil, or_false] at hz
          rcases hz with rfl
          · exact Or.inr ⟨by decide, _, cl_L_25, by decide +kernel⟩), by decide, by decide, cl_L_15, ca_15, Or.inl ⟨dL_claimTone_19, rfl⟩⟩
    · cases h
theorem hlvL_claimTone {x y w : Int32} : aStu 5 [.ref 3, .int x, .int y, .int w, .ref 10, aU] [.ref 3, .int x, .int y, .int w, .ref 10, aU] := by
  intro i u h hk
  match i, h with
  | 0, h => cases h; exact ⟨by decide, rfl, fun _ z => by cases z⟩
  | 1, h => cases h; exact ⟨by decide, rfl, fun _ z => by cases z⟩
  | 2, h => cases h; exact ⟨by decide, rfl, fun _ z => by cases z⟩
  | 3, h => cases h; exact ⟨by decide, rfl, fun _ z => by cases z⟩
  | 4, h => cases h; exact ⟨by decide, rfl, fun _ z => by cases z⟩
  | 5, h => cases h; cases hk
  | i + 6, h => simp at h
abbrev rmL_claimTone : Room := { frames := 8, cells := 5, slots := 33, locals := 167 }
set_option maxHeartbeats 4000000 in
set_option maxRecDepth 100000 in
theorem s_L_claimTone {l : Launch} {E : aE} {S : aS} {I : aI} {L : aL} {Rf : aR} {Kr : aK} (hst : l.stackTraces = false) {x y w : Int32} (h3 : S 3 = some (.inr 3)) (h10 : S 10 = some (.inl (.long, 1))) (hX : ∀ (Kr' : aK) (Kx' : aX), (∀ (r : Int32) S' I' L' R', S' 10 = some (.inl (.long, 1)) → Kr (some (.int 0)) S' I' (au2 L' 10 0 r.toInt64) R' → Kr' (some (.int r)) S' I' L' R') → (∀ S' I' L' R', Kr (some (.int 1)) S' I' L' R' → Kx' eIO S' I' L' R') → (∀ S' I' L' R', Kr (some (.int 2)) S' I' L' R' → Kx' eIS S' I' L' R') → aMet l E yX3_claimTone cX3_claimTone 6 (some .int) rmX3_claimTone [.ref 3, .int x, .int y, .int w] S I L Rf Kr' Kx') : aMetW l E yL_claimTone cL_claimTone 6 (some .int) [(0, 12, 15, 25), (0, 12, 19, 15)] rmL_claimTone [.ref 3, .int x, .int y, .int w, .ref 10] S I L Rf Kr := by
  refine aMetW.of (lv0 := [.ref 3, .int x, .int y, .int w, .ref 10, aU]) (z := 1) (by decide +kernel) hst rfl (Nat.le_of_ble_eq_true rfl) ?_
  intro p e s m args below meth c io0 hx htb
  have hx : aCx p l s m args meth c RL cL_claimTone 6 (some .int) E := hx
  refine g_aloadG hx dL_claimTone_0 (nx := 2) rfl rfl ?_
  refine g_iconst hx dL_claimTone_2 (nx := 3) rfl (v := 0) (by decide) ?_
  refine g_aloadG_n hx dL_claimTone_3 rfl (nx := 4) rfl rfl ?_
  refine g_iloadG_n hx dL_claimTone_4 rfl (nx := 5) rfl rfl ?_
  refine g_iloadG_n hx dL_claimTone_5 rfl (nx := 6) rfl rfl ?_
  refine g_iloadG_n hx dL_claimTone_6 rfl (nx := 7) rfl rfl ?_
  refine g_callV_H hx [_, _, _] (k' := 5) (n' := 33) (lvh := [.ref 3, .int x, .int y, .int w, .ref 10, aU]) tgL_claimTone dL_claimTone_7 (nx := 10) rfl lk_L_44 h3 (by decide) rfl rfl (Nat.le_of_ble_eq_true rfl) (Nat.le_of_ble_eq_true rfl) (Nat.le_of_ble_eq_true rfl) (Nat.le_of_ble_eq_true rfl) (Nat.le_of_ble_eq_true rfl) (Nat.le_of_ble_eq_true rfl) (Nat.le_of_ble_eq_true rfl) htb (by decide) hlvL_claimTone htgL_claimTone (hX _ _ (fun r S' I' L' R' h10 hk => ?_) (fun S' I' L' R' hk => ⟨17, rfl, ?_⟩) (fun S' I' L' R' hk => ⟨21, rfl, ?_⟩))
  · refine g_i2l hx dL_claimTone_10 (nx := 11) rfl ?_
    refine g_lastore hx dL_claimTone_11 (nx := 12) rfl h10 (by decide) (vin (by decide)) ?_
    refine g_goto hx dL_claimTone_12 (tg := 23) (by decide) ?_
    refine g_iconst hx dL_claimTone_23 (nx := 24) rfl (v := 0) (by decide) ?_
    refine g_iret hx dL_claimTone_24 rfl rfl (Nat.le_of_ble_eq_true rfl) (Nat.le_of_ble_eq_true rfl) ?_
    first | exact hk
  · refine g_iconst hx dL_claimTone_17 (nx := 18) rfl (v := 1) (by decide) ?_
    refine g_iret hx dL_claimTone_18 rfl rfl (Nat.le_of_ble_eq_true rfl) (Nat.le_of_ble_eq_true rfl) ?_
    exact hk
  · refine g_iconst hx dL_claimTone_21 (nx := 22) rfl (v := 2) (by decide) ?_
    refine g_iret hx dL_claimTone_22 rfl rfl (Nat.le_of_ble_eq_true rfl) (Nat.le_of_ble_eq_true rfl) ?_
    exact hk
def tgL_claimAge (X : String) : Option Nat := if X = eIO then some 15 else if X = eIA then some 19 else if X = eIS then some 23 else none
theorem htgL_claimAge : ∀ X t, tgL_claimAge X = some t → aHd RL cL_claimAge (tableOf [(0, 10, 13, 25), (0, 10, 17, 13), (0, 10, 21, 15)]) 5 4 X t := by
  intro X t h
  unfold tgL_claimAge at h
  split at h
  · rename_i e
    subst e
    cases h
    exact ⟨(tableOf [(0, 10, 13, 25), (0, 10, 17, 13), (0, 10, 21, 15)]).take 0, (tableOf [(0, 10, 13, 25), (0, 10, 17, 13), (0, 10, 21, 15)])[0], (tableOf [(0, 10, 13, 25), (0, 10, 17, 13), (0, 10, 21, 15)]).drop 1, _, rfl, (fun z hz => by cases hz), by decide, by decide, cl_L_25, ca_25, Or.inl ⟨dL_claimAge_13, rfl⟩⟩
  · skip
    split at h
    · rename_i e
      subst e
      cases h
      exact ⟨(tableOf [(0, 10, 13, 25), (0, 10, 17, 13), (0, 10, 21, 15)]).take 1, (tableOf [(0, 10, 13, 25), (0, 10, 17, 13), (0, 10, 21, 15)])[1], (tableOf [(0, 10, 13, 25), (0, 10, 17, 13), (0, 10, 21, 15)]).drop 2, _, rfl, (fun z hz => by
          simp only [tableOf, List.map_cons, List.map_nil, List.take, List.mem_cons, List.not_mem_nil, or_false] at hz
          rcases hz with rfl
          · exact Or.inr ⟨by decide, _, cl_L_25, by decide +kernel⟩), by decide, by decide, cl_L_13, ca_13, Or.inl ⟨dL_claimAge_17, rfl⟩⟩
    · skip
      split at h
      · rename_i e
        subst e
        cases h
        exact ⟨(tableOf [(0, 10, 13, 25), (0, 10, 17, 13), (0, 10, 21, 15)]).take 2, (tableOf [(0, 10, 13, 25), (0, 10, 17, 13), (0, 10, 21, 15)])[2], (tableOf [(0, 10, 13, 25), (0, 10, 17, 13), (0, 10, 21, 15)]).drop 3, _, rfl, (fun z hz => by
            simp only [tableOf, List.map_cons, List.map_nil, List.take, List.mem_cons, List.not_mem_nil, or_false] at hz
            rcases hz with rfl | rfl
            · exact Or.inr ⟨by decide, _, cl_L_25, by decide +kernel⟩
            · exact Or.inr ⟨by decide, _, cl_L_13, by decide +kernel⟩), by decide, by decide, cl_L_15, ca_15, Or.inl ⟨dL_claimAge_21, rfl⟩⟩
      · cases h
theorem hlvL_claimAge {x y : Int32} : aStu 4 [.ref 3, .int x, .int y, .ref 10, aU] [.ref 3, .int x, .int y, .ref 10, aU] := by
  intro i u h hk
  match i, h with
  | 0, h => cases h; exact ⟨by decide, rfl, fun _ z => by cases z⟩
  | 1, h => cases h; exact ⟨by decide, rfl, fun _ z => by cases z⟩
  | 2, h => cases h; exact ⟨by decide, rfl, fun _ z => by cases z⟩
  | 3, h => cases h; exact ⟨by decide, rfl, fun _ z => by cases z⟩
  | 4, h => cases h; cases hk
  | i + 5, h => simp at h
abbrev rmL_claimAge : Room := { frames := 8, cells := 7, slots := 45, locals := 136 }
set_option maxHeartbeats 4000000 in
set_option maxRecDepth 100000 in
theorem s_L_claimAge {l : Launch} {E : aE} {S : aS} {I : aI} {L : aL} {Rf : aR} {Kr : aK} (hst : l.stackTraces = false) {x y : Int32} (h3 : S 3 = some (.inr 3)) (h10 : S 10 = some (.inl (.long, 1))) (hX : ∀ (Kr' : aK) (Kx' : aX), (∀ (r : Int32) S' I' L' R', S' 10 = some (.inl (.long, 1)) → Kr (some (.int 0)) S' I' (au2 L' 10 0 r.toInt64) R' → Kr' (some (.int r)) S' I' L' R') → (∀ S' I' L' R', Kr (some (.int 1)) S' I' L' R' → Kx' eIO S' I' L' R') → (∀ S' I' L' R', Kr (some (.int 2)) S' I' L' R' → Kx' eIA S' I' L' R') → (∀ S' I' L' R', Kr (some (.int 3)) S' I' L' R' → Kx' eIS S' I' L' R') → aMet l E yX3_claimAge cX3_claimAge 6 (some .int) rmX3_claimAge [.ref 3, .int x, .int y] S I L Rf Kr' Kx') : aMetW l E yL_claimAge cL_claimAge 5 (some .int) [(0, 10, 13, 25), (0, 10, 17, 13), (0, 10, 21, 15)] rmL_claimAge [.ref 3, .int x, .int y, .ref 10] S I L Rf Kr := by
  refine aMetW.of (lv0 := [.ref 3, .int x, .int y, .ref 10, aU]) (z := 1) (by decide +kernel) hst rfl (Nat.le_of_ble_eq_true rfl) ?_
  intro p e s m args below meth c io0 hx htb
  have hx : aCx p l s m args meth c RL cL_claimAge 5 (some .int) E := hx
  refine g_aloadG_n hx dL_claimAge_0 rfl (nx := 1) rfl rfl ?_
  refine g_iconst hx dL_claimAge_1 (nx := 2) rfl (v := 0) (by decide) ?_
  refine g_aloadG_n hx dL_claimAge_2 rfl (nx := 3) rfl rfl ?_
  refine g_iloadG_n hx dL_claimAge_3 rfl (nx := 4) rfl rfl ?_
  refine g_iloadG_n hx dL_claimAge_4 rfl (nx := 5) rfl rfl ?_
  refine g_callV_H hx [_, _] (k' := 7) (n' := 45) (lvh := [.ref 3, .int x, .int y, .ref 10, aU]) tgL_claimAge dL_claimAge_5 (nx := 8) rfl lk_L_47 h3 (by decide) rfl rfl (Nat.le_of_ble_eq_true rfl) (Nat.le_of_ble_eq_true rfl) (Nat.le_of_ble_eq_true rfl) (Nat.le_of_ble_eq_true rfl) (Nat.le_of_ble_eq_true rfl) (Nat.le_of_ble_eq_true rfl) (Nat.le_of_ble_eq_true rfl) htb (by decide) hlvL_claimAge htgL_claimAge (hX _ _ (fun r S' I' L' R' h10 hk => ?_) (fun S' I' L' R' hk => ⟨15, rfl, ?_⟩) (fun S' I' L' R' hk => ⟨19, rfl, ?_⟩) (fun S' I' L' R' hk => ⟨23, rfl, ?_⟩))
  · refine g_i2l hx dL_claimAge_8 (nx := 9) rfl ?_
    refine g_lastore hx dL_claimAge_9 (nx := 10) rfl h10 (by decide) (vin (by decide)) ?_
    refine g_goto hx dL_claimAge_10 (tg := 25) (by decide) ?_
    refine g_iconst hx dL_claimAge_25 (nx := 26) rfl (v := 0) (by decide) ?_
    refine g_iret hx dL_claimAge_26 rfl rfl (Nat.le_of_ble_eq_true rfl) (Nat.le_of_ble_eq_true rfl) ?_
    first | exact hk
  · refine g_iconst hx dL_claimAge_15 (nx := 16) rfl (v := 1) (by decide) ?_
    refine g_iret hx dL_claimAge_16 rfl rfl (Nat.le_of_ble_eq_true rfl) (Nat.le_of_ble_eq_true rfl) ?_
    exact hk
  · refine g_iconst hx dL_claimAge_19 (nx := 20) rfl (v := 2) (by decide) ?_
    refine g_iret hx dL_claimAge_20 rfl rfl (Nat.le_of_ble_eq_true rfl) (Nat.le_of_ble_eq_true rfl) ?_
    exact hk
  · refine g_iconst hx dL_claimAge_23 (nx := 24) rfl (v := 3) (by decide) ?_
    refine g_iret hx dL_claimAge_24 rfl rfl (Nat.le_of_ble_eq_true rfl) (Nat.le_of_ble_eq_true rfl) ?_
    exact hk
def tgL_claimPlanet (X : String) : Option Nat := if X = eIO then some 13 else if X = eIA then some 16 else if X = eIS then some 19 else none
theorem htgL_claimPlanet : ∀ X t, tgL_claimPlanet X = some t → aHd RL cL_claimPlanet (tableOf [(0, 9, 12, 25), (0, 9, 15, 13), (0, 9, 18, 15)]) 4 3 X t := by
  intro X t h
  unfold tgL_claimPlanet at h
  split at h
  · rename_i e
    subst e
    cases h
    exact ⟨(tableOf [(0, 9, 12, 25), (0, 9, 15, 13), (0, 9, 18, 15)]).take 0, (tableOf [(0, 9, 12, 25), (0, 9, 15, 13), (0, 9, 18, 15)])[0], (tableOf [(0, 9, 12, 25), (0, 9, 15, 13), (0, 9, 18, 15)]).drop 1, _, rfl, (fun z hz => by cases hz), by decide, by decide, cl_L_25, ca_25, Or.inr ⟨3, rfl, dL_claimPlanet_12, rfl⟩⟩
  · skip
    split at h
    · rename_i e
      subst e
      cases h
      exact ⟨(tableOf [(0, 9, 12, 25), (0, 9, 15, 13), (0, 9, 18, 15)]).take 1, (tableOf [(0, 9, 12, 25), (0, 9, 15, 13), (0, 9, 18, 15)])[1], (tableOf [(0, 9, 12, 25), (0, 9, 15, 13), (0, 9, 18, 15)]).drop 2, _, rfl, (fun z hz => by
          simp only [tableOf, List.map_cons, List.map_nil, List.take, List.mem_cons, List.not_mem_nil, or_false] at hz
          rcases hz with rfl
          · exact Or.inr ⟨by decide, _, cl_L_25, by decide +kernel⟩), by decide, by decide, cl_L_13, ca_13, Or.inr ⟨3, rfl, dL_claimPlanet_15, rfl⟩⟩
    · skip
      split at h
      · rename_i e
        subst e
        cases h
        exact ⟨(tableOf [(0, 9, 12, 25), (0, 9, 15, 13), (0, 9, 18, 15)]).take 2, (tableOf [(0, 9, 12, 25), (0, 9, 15, 13), (0, 9, 18, 15)])[2], (tableOf [(0, 9, 12, 25), (0, 9, 15, 13), (0, 9, 18, 15)]).drop 3, _, rfl, (fun z hz => by
            simp only [tableOf, List.map_cons, List.map_nil, List.take, List.mem_cons, List.not_mem_nil, or_false] at hz
            rcases hz with rfl | rfl
            · exact Or.inr ⟨by decide, _, cl_L_25, by decide +kernel⟩
            · exact Or.inr ⟨by decide, _, cl_L_13, by decide +kernel⟩), by decide, by decide, cl_L_15, ca_15, Or.inr ⟨3, rfl, dL_claimPlanet_18, rfl⟩⟩
      · cases h
theorem hlvL_claimPlanet {x : Int32} : aStu 3 [.ref 3, .int x, .ref 10, aU] [.ref 3, .int x, .ref 10, aU] := by
  intro i u h hk
  match i, h with
  | 0, h => cases h; exact ⟨by decide, rfl, fun _ z => by cases z⟩
  | 1, h => cases h; exact ⟨by decide, rfl, fun _ z => by cases z⟩
  | 2, h => cases h; exact ⟨by decide, rfl, fun _ z => by cases z⟩
  | 3, h => cases h; cases hk
  | i + 4, h => simp at h
abbrev rmL_claimPlanet : Room := { frames := 8, cells := 5, slots := 33, locals := 134 }
set_option maxHeartbeats 4000000 in
set_option maxRecDepth 100000 in
theorem s_L_claimPlanet {l : Launch} {E : aE} {S : aS} {I : aI} {L : aL} {Rf : aR} {Kr : aK} (hst : l.stackTraces = false) {x : Int32} (h3 : S 3 = some (.inr 3)) (h10 : S 10 = some (.inl (.long, 1))) (hX : ∀ (Kr' : aK) (Kx' : aX), (∀ (r : Int32) S' I' L' R', S' 10 = some (.inl (.long, 1)) → Kr (some (.int 0)) S' I' (au2 L' 10 0 r.toInt64) R' → Kr' (some (.int r)) S' I' L' R') → (∀ S' I' L' R', Kr (some (.int 1)) S' I' L' R' → Kx' eIO S' I' L' R') → (∀ S' I' L' R', Kr (some (.int 2)) S' I' L' R' → Kx' eIA S' I' L' R') → (∀ S' I' L' R', Kr (some (.int 3)) S' I' L' R' → Kx' eIS S' I' L' R') → aMet l E yX3_claimPlanet cX3_claimPlanet 4 (some .int) rmX3_claimPlanet [.ref 3, .int x] S I L Rf Kr' Kx') : aMetW l E yL_claimPlanet cL_claimPlanet 4 (some .int) [(0, 9, 12, 25), (0, 9, 15, 13), (0, 9, 18, 15)] rmL_claimPlanet [.ref 3, .int x, .ref 10] S I L Rf Kr := by
  refine aMetW.of (lv0 := [.ref 3, .int x, .ref 10, aU]) (z := 1) (by decide +kernel) hst rfl (Nat.le_of_ble_eq_true rfl) ?_
  intro p e s m args below meth c io0 hx htb
  have hx : aCx p l s m args meth c RL cL_claimPlanet 4 (some .int) E := hx
  refine g_aloadG_n hx dL_claimPlanet_0 rfl (nx := 1) rfl rfl ?_
  refine g_iconst hx dL_claimPlanet_1 (nx := 2) rfl (v := 0) (by decide) ?_
  refine g_aloadG_n hx dL_claimPlanet_2 rfl (nx := 3) rfl rfl ?_
  refine g_iloadG_n hx dL_claimPlanet_3 rfl (nx := 4) rfl rfl ?_
  refine g_callV_H hx [_] (k' := 5) (n' := 33) (lvh := [.ref 3, .int x, .ref 10, aU]) tgL_claimPlanet dL_claimPlanet_4 (nx := 7) rfl lk_L_50 h3 (by decide) rfl rfl (Nat.le_of_ble_eq_true rfl) (Nat.le_of_ble_eq_true rfl) (Nat.le_of_ble_eq_true rfl) (Nat.le_of_ble_eq_true rfl) (Nat.le_of_ble_eq_true rfl) (Nat.le_of_ble_eq_true rfl) (Nat.le_of_ble_eq_true rfl) htb (by decide) hlvL_claimPlanet htgL_claimPlanet (hX _ _ (fun r S' I' L' R' h10 hk => ?_) (fun S' I' L' R' hk => ⟨13, rfl, ?_⟩) (fun S' I' L' R' hk => ⟨16, rfl, ?_⟩) (fun S' I' L' R' hk => ⟨19, rfl, ?_⟩))
  · refine g_i2l hx dL_claimPlanet_7 (nx := 8) rfl ?_
    refine g_lastore hx dL_claimPlanet_8 (nx := 9) rfl h10 (by decide) (vin (by decide)) ?_
    refine g_goto hx dL_claimPlanet_9 (tg := 21) (by decide) ?_
    refine g_iconst hx dL_claimPlanet_21 (nx := 22) rfl (v := 0) (by decide) ?_
    refine g_iret hx dL_claimPlanet_22 rfl rfl (Nat.le_of_ble_eq_true rfl) (Nat.le_of_ble_eq_true rfl) ?_
    first | exact hk
  · refine g_iconst hx dL_claimPlanet_13 (nx := 14) rfl (v := 1) (by decide) ?_
    refine g_iret hx dL_claimPlanet_14 rfl rfl (Nat.le_of_ble_eq_true rfl) (Nat.le_of_ble_eq_true rfl) ?_
    exact hk
  · refine g_iconst hx dL_claimPlanet_16 (nx := 17) rfl (v := 2) (by decide) ?_
    refine g_iret hx dL_claimPlanet_17 rfl rfl (Nat.le_of_ble_eq_true rfl) (Nat.le_of_ble_eq_true rfl) ?_
    exact hk
  · refine g_iconst hx dL_claimPlanet_19 (nx := 20) rfl (v := 3) (by decide) ?_
    refine g_iret hx dL_claimPlanet_20 rfl rfl (Nat.le_of_ble_eq_true rfl) (Nat.le_of_ble_eq_true rfl) ?_
    exact hk
def tgL_cite (X : String) : Option Nat := if X = eIO then some 15 else if X = eIA then some 19 else if X = eIS then some 23 else none
theorem htgL_cite : ∀ X t, tgL_cite X = some t → aHd RL cL_cite (tableOf [(0, 10, 13, 25), (0, 10, 17, 13), (0, 10, 21, 15)]) 5 4 X t := by
  intro X t h
  unfold tgL_cite at h
  split at h
  · rename_i e
    subst e
    cases h
    exact ⟨(tableOf [(0, 10, 13, 25), (0, 10, 17, 13), (0, 10, 21, 15)]).take 0, (tableOf [(0, 10, 13, 25), (0, 10, 17, 13), (0, 10, 21, 15)])[0], (tableOf [(0, 10, 13, 25), (0, 10, 17, 13), (0, 10, 21, 15)]).drop 1, _, rfl, (fun z hz => by cases hz), by decide, by decide, cl_L_25, ca_25, Or.inl ⟨dL_cite_13, rfl⟩⟩
  · skip
    split at h
    · rename_i e
      subst e
      cases h
      exact ⟨(tableOf [(0, 10, 13, 25), (0, 10, 17, 13), (0, 10, 21, 15)]).take 1, (tableOf [(0, 10, 13, 25), (0, 10, 17, 13), (0, 10, 21, 15)])[1], (tableOf [(0, 10, 13, 25), (0, 10, 17, 13), (0, 10, 21, 15)]).drop 2, _, rfl, (fun z hz => by
          simp only [tableOf, List.map_cons, List.map_nil, List.take, List.mem_cons, List.not_mem_nil, or_false] at hz
          rcases hz with rfl
          · exact Or.inr ⟨by decide, _, cl_L_25, by decide +kernel⟩), by decide, by decide, cl_L_13, ca_13, Or.inl ⟨dL_cite_17, rfl⟩⟩
    · skip
      split at h
      · rename_i e
        subst e
        cases h
        exact ⟨(tableOf [(0, 10, 13, 25), (0, 10, 17, 13), (0, 10, 21, 15)]).take 2, (tableOf [(0, 10, 13, 25), (0, 10, 17, 13), (0, 10, 21, 15)])[2], (tableOf [(0, 10, 13, 25), (0, 10, 17, 13), (0, 10, 21, 15)]).drop 3, _, rfl, (fun z hz => by
            simp only [tableOf, List.map_cons, List.map_nil, List.take, List.mem_cons, List.not_mem_nil, or_false] at hz
            rcases hz with rfl | rfl
            · exact Or.inr ⟨by decide, _, cl_L_25, by decide +kernel⟩
            · exact Or.inr ⟨by decide, _, cl_L_13, by decide +kernel⟩), by decide, by decide, cl_L_15, ca_15, Or.inl ⟨dL_cite_21, rfl⟩⟩
      · cases h
theorem hlvL_cite {x y : Int32} : aStu 4 [.ref 3, .int x, .int y, .ref 10, aU] [.ref 3, .int x, .int y, .ref 10, aU] := by
  intro i u h hk
  match i, h with
  | 0, h => cases h; exact ⟨by decide, rfl, fun _ z => by cases z⟩
  | 1, h => cases h; exact ⟨by decide, rfl, fun _ z => by cases z⟩
  | 2, h => cases h; exact ⟨by decide, rfl, fun _ z => by cases z⟩
  | 3, h => cases h; exact ⟨by decide, rfl, fun _ z => by cases z⟩
  | 4, h => cases h; cases hk
  | i + 5, h => simp at h
abbrev rmL_cite : Room := { frames := 8, cells := 4, slots := 24, locals := 135 }
set_option maxHeartbeats 4000000 in
set_option maxRecDepth 100000 in
theorem s_L_cite {l : Launch} {E : aE} {S : aS} {I : aI} {L : aL} {Rf : aR} {Kr : aK} (hst : l.stackTraces = false) {x y : Int32} (h3 : S 3 = some (.inr 3)) (h10 : S 10 = some (.inl (.long, 1))) (hX : ∀ (Kr' : aK) (Kx' : aX), (∀ (r : Int32) S' I' L' R', S' 10 = some (.inl (.long, 1)) → Kr (some (.int 0)) S' I' (au2 L' 10 0 r.toInt64) R' → Kr' (some (.int r)) S' I' L' R') → (∀ S' I' L' R', Kr (some (.int 1)) S' I' L' R' → Kx' eIO S' I' L' R') → (∀ S' I' L' R', Kr (some (.int 2)) S' I' L' R' → Kx' eIA S' I' L' R') → (∀ S' I' L' R', Kr (some (.int 3)) S' I' L' R' → Kx' eIS S' I' L' R') → aMet l E yX3_cite cX3_cite 5 (some .int) rmX3_cite [.ref 3, .int x, .int y] S I L Rf Kr' Kx') : aMetW l E yL_cite cL_cite 5 (some .int) [(0, 10, 13, 25), (0, 10, 17, 13), (0, 10, 21, 15)] rmL_cite [.ref 3, .int x, .int y, .ref 10] S I L Rf Kr := by
  refine aMetW.of (lv0 := [.ref 3, .int x, .int y, .ref 10, aU]) (z := 1) (by decide +kernel) hst rfl (Nat.le_of_ble_eq_true rfl) ?_
  intro p e s m args below meth c io0 hx htb
  have hx : aCx p l s m args meth c RL cL_cite 5 (some .int) E := hx
  refine g_aloadG_n hx dL_cite_0 rfl (nx := 1) rfl rfl ?_
  refine g_iconst hx dL_cite_1 (nx := 2) rfl (v := 0) (by decide) ?_
  refine g_aloadG_n hx dL_cite_2 rfl (nx := 3) rfl rfl ?_
  refine g_iloadG_n hx dL_cite_3 rfl (nx := 4) rfl rfl ?_
  refine g_iloadG_n hx dL_cite_4 rfl (nx := 5) rfl rfl ?_
  refine g_callV_H hx [_, _] (k' := 4) (n' := 24) (lvh := [.ref 3, .int x, .int y, .ref 10, aU]) tgL_cite dL_cite_5 (nx := 8) rfl lk_L_53 h3 (by decide) rfl rfl (Nat.le_of_ble_eq_true rfl) (Nat.le_of_ble_eq_true rfl) (Nat.le_of_ble_eq_true rfl) (Nat.le_of_ble_eq_true rfl) (Nat.le_of_ble_eq_true rfl) (Nat.le_of_ble_eq_true rfl) (Nat.le_of_ble_eq_true rfl) htb (by decide) hlvL_cite htgL_cite (hX _ _ (fun r S' I' L' R' h10 hk => ?_) (fun S' I' L' R' hk => ⟨15, rfl, ?_⟩) (fun S' I' L' R' hk => ⟨19, rfl, ?_⟩) (fun S' I' L' R' hk => ⟨23, rfl, ?_⟩))
  · refine g_i2l hx dL_cite_8 (nx := 9) rfl ?_
    refine g_lastore hx dL_cite_9 (nx := 10) rfl h10 (by decide) (vin (by decide)) ?_
    refine g_goto hx dL_cite_10 (tg := 25) (by decide) ?_
    refine g_iconst hx dL_cite_25 (nx := 26) rfl (v := 0) (by decide) ?_
    refine g_iret hx dL_cite_26 rfl rfl (Nat.le_of_ble_eq_true rfl) (Nat.le_of_ble_eq_true rfl) ?_
    first | exact hk
  · refine g_iconst hx dL_cite_15 (nx := 16) rfl (v := 1) (by decide) ?_
    refine g_iret hx dL_cite_16 rfl rfl (Nat.le_of_ble_eq_true rfl) (Nat.le_of_ble_eq_true rfl) ?_
    exact hk
  · refine g_iconst hx dL_cite_19 (nx := 20) rfl (v := 2) (by decide) ?_
    refine g_iret hx dL_cite_20 rfl rfl (Nat.le_of_ble_eq_true rfl) (Nat.le_of_ble_eq_true rfl) ?_
    exact hk
  · refine g_iconst hx dL_cite_23 (nx := 24) rfl (v := 3) (by decide) ?_
    refine g_iret hx dL_cite_24 rfl rfl (Nat.le_of_ble_eq_true rfl) (Nat.le_of_ble_eq_true rfl) ?_
    exact hk
def tgL_withdraw (X : String) : Option Nat := if X = eIO then some 13 else if X = eIS then some 16 else none
theorem htgL_withdraw : ∀ X t, tgL_withdraw X = some t → aHd RL cL_withdraw (tableOf [(0, 9, 12, 25), (0, 9, 15, 15)]) 4 3 X t := by
  intro X t h
  unfold tgL_withdraw at h
  split at h
  · rename_i e
    subst e
    cases h
    exact ⟨(tableOf [(0, 9, 12, 25), (0, 9, 15, 15)]).take 0, (tableOf [(0, 9, 12, 25), (0, 9, 15, 15)])[0], (tableOf [(0, 9, 12, 25), (0, 9, 15, 15)]).drop 1, _, rfl, (fun z hz => by cases hz), by decide, by decide, cl_L_25, ca_25, Or.inr ⟨3, rfl, dL_withdraw_12, rfl⟩⟩
  · skip
    split at h
    · rename_i e
      subst e
      cases h
      exact ⟨(tableOf [(0, 9, 12, 25), (0, 9, 15, 15)]).take 1, (tableOf [(0, 9, 12, 25), (0, 9, 15, 15)])[1], (tableOf [(0, 9, 12, 25), (0, 9, 15, 15)]).drop 2, _, rfl, (fun z hz => by
          simp only [tableOf, List.map_cons, List.map_nil, List.take, List.mem_cons, List.not_mem_nil, or_false] at hz
          rcases hz with rfl
          · exact Or.inr ⟨by decide, _, cl_L_25, by decide +kernel⟩), by decide, by decide, cl_L_15, ca_15, Or.inr ⟨3, rfl, dL_withdraw_15, rfl⟩⟩
    · cases h
theorem hlvL_withdraw {x : Int32} : aStu 3 [.ref 3, .int x, .ref 10, aU] [.ref 3, .int x, .ref 10, aU] := by
  intro i u h hk
  match i, h with
  | 0, h => cases h; exact ⟨by decide, rfl, fun _ z => by cases z⟩
  | 1, h => cases h; exact ⟨by decide, rfl, fun _ z => by cases z⟩
  | 2, h => cases h; exact ⟨by decide, rfl, fun _ z => by cases z⟩
  | 3, h => cases h; cases hk
  | i + 4, h => simp at h
abbrev rmL_withdraw : Room := { frames := 8, cells := 2, slots := 12, locals := 132 }
set_option maxHeartbeats 4000000 in
set_option maxRecDepth 100000 in
theorem s_L_withdraw {l : Launch} {E : aE} {S : aS} {I : aI} {L : aL} {Rf : aR} {Kr : aK} (hst : l.stackTraces = false) {x : Int32} (h3 : S 3 = some (.inr 3)) (h10 : S 10 = some (.inl (.long, 1))) (hX : ∀ (Kr' : aK) (Kx' : aX), (∀ (r : Int32) S' I' L' R', S' 10 = some (.inl (.long, 1)) → Kr (some (.int 0)) S' I' (au2 L' 10 0 r.toInt64) R' → Kr' (some (.int r)) S' I' L' R') → (∀ S' I' L' R', Kr (some (.int 1)) S' I' L' R' → Kx' eIO S' I' L' R') → (∀ S' I' L' R', Kr (some (.int 2)) S' I' L' R' → Kx' eIS S' I' L' R') → aMet l E yX3_withdraw cX3_withdraw 2 (some .int) rmX3_withdraw [.ref 3, .int x] S I L Rf Kr' Kx') : aMetW l E yL_withdraw cL_withdraw 4 (some .int) [(0, 9, 12, 25), (0, 9, 15, 15)] rmL_withdraw [.ref 3, .int x, .ref 10] S I L Rf Kr := by
  refine aMetW.of (lv0 := [.ref 3, .int x, .ref 10, aU]) (z := 1) (by decide +kernel) hst rfl (Nat.le_of_ble_eq_true rfl) ?_
  intro p e s m args below meth c io0 hx htb
  have hx : aCx p l s m args meth c RL cL_withdraw 4 (some .int) E := hx
  refine g_aloadG_n hx dL_withdraw_0 rfl (nx := 1) rfl rfl ?_
  refine g_iconst hx dL_withdraw_1 (nx := 2) rfl (v := 0) (by decide) ?_
  refine g_aloadG_n hx dL_withdraw_2 rfl (nx := 3) rfl rfl ?_
  refine g_iloadG_n hx dL_withdraw_3 rfl (nx := 4) rfl rfl ?_
  refine g_callV_H hx [_] (k' := 2) (n' := 12) (lvh := [.ref 3, .int x, .ref 10, aU]) tgL_withdraw dL_withdraw_4 (nx := 7) rfl lk_L_56 h3 (by decide) rfl rfl (Nat.le_of_ble_eq_true rfl) (Nat.le_of_ble_eq_true rfl) (Nat.le_of_ble_eq_true rfl) (Nat.le_of_ble_eq_true rfl) (Nat.le_of_ble_eq_true rfl) (Nat.le_of_ble_eq_true rfl) (Nat.le_of_ble_eq_true rfl) htb (by decide) hlvL_withdraw htgL_withdraw (hX _ _ (fun r S' I' L' R' h10 hk => ?_) (fun S' I' L' R' hk => ⟨13, rfl, ?_⟩) (fun S' I' L' R' hk => ⟨16, rfl, ?_⟩))
  · refine g_i2l hx dL_withdraw_7 (nx := 8) rfl ?_
    refine g_lastore hx dL_withdraw_8 (nx := 9) rfl h10 (by decide) (vin (by decide)) ?_
    refine g_goto hx dL_withdraw_9 (tg := 18) (by decide) ?_
    refine g_iconst hx dL_withdraw_18 (nx := 19) rfl (v := 0) (by decide) ?_
    refine g_iret hx dL_withdraw_19 rfl rfl (Nat.le_of_ble_eq_true rfl) (Nat.le_of_ble_eq_true rfl) ?_
    first | exact hk
  · refine g_iconst hx dL_withdraw_13 (nx := 14) rfl (v := 1) (by decide) ?_
    refine g_iret hx dL_withdraw_14 rfl rfl (Nat.le_of_ble_eq_true rfl) (Nat.le_of_ble_eq_true rfl) ?_
    exact hk
  · refine g_iconst hx dL_withdraw_16 (nx := 17) rfl (v := 2) (by decide) ?_
    refine g_iret hx dL_withdraw_17 rfl rfl (Nat.le_of_ble_eq_true rfl) (Nat.le_of_ble_eq_true rfl) ?_
    exact hk
def tgL_ofStar (X : String) : Option Nat := if X = eIO then some 15 else if X = eIA then some 19 else none
theorem htgL_ofStar : ∀ X t, tgL_ofStar X = some t → aHd RL cL_ofStar (tableOf [(0, 10, 13, 25), (0, 10, 17, 13)]) 5 4 X t := by
  intro X t h
  unfold tgL_ofStar at h
  split at h
  · rename_i e
    subst e
    cases h
    exact ⟨(tableOf [(0, 10, 13, 25), (0, 10, 17, 13)]).take 0, (tableOf [(0, 10, 13, 25), (0, 10, 17, 13)])[0], (tableOf [(0, 10, 13, 25), (0, 10, 17, 13)]).drop 1, _, rfl, (fun z hz => by cases hz), by decide, by decide, cl_L_25, ca_25, Or.inl ⟨dL_ofStar_13, rfl⟩⟩
  · skip
    split at h
    · rename_i e
      subst e
      cases h
      exact ⟨(tableOf [(0, 10, 13, 25), (0, 10, 17, 13)]).take 1, (tableOf [(0, 10, 13, 25), (0, 10, 17, 13)])[1], (tableOf [(0, 10, 13, 25), (0, 10, 17, 13)]).drop 2, _, rfl, (fun z hz => by
          simp only [tableOf, List.map_cons, List.map_nil, List.take, List.mem_cons, List.not_mem_nil, or_false] at hz
          rcases hz with rfl
          · exact Or.inr ⟨by decide, _, cl_L_25, by decide +kernel⟩), by decide, by decide, cl_L_13, ca_13, Or.inl ⟨dL_ofStar_17, rfl⟩⟩
    · cases h
theorem hlvL_ofStar {x y : Int32} : aStu 4 [.ref 3, .int x, .int y, .ref 10, aU] [.ref 3, .int x, .int y, .ref 10, aU] := by
  intro i u h hk
  match i, h with
  | 0, h => cases h; exact ⟨by decide, rfl, fun _ z => by cases z⟩
  | 1, h => cases h; exact ⟨by decide, rfl, fun _ z => by cases z⟩
  | 2, h => cases h; exact ⟨by decide, rfl, fun _ z => by cases z⟩
  | 3, h => cases h; exact ⟨by decide, rfl, fun _ z => by cases z⟩
  | 4, h => cases h; cases hk
  | i + 5, h => simp at h
abbrev rmL_ofStar : Room := { frames := 8, cells := 2, slots := 12, locals := 134 }
set_option maxHeartbeats 4000000 in
set_option maxRecDepth 100000 in
theorem s_L_ofStar {l : Launch} {E : aE} {S : aS} {I : aI} {L : aL} {Rf : aR} {Kr : aK} (hst : l.stackTraces = false) {x y : Int32} (h3 : S 3 = some (.inr 3)) (h10 : S 10 = some (.inl (.long, 1))) (hX : ∀ (Kr' : aK) (Kx' : aX), (∀ (r : Int32) S' I' L' R', S' 10 = some (.inl (.long, 1)) → Kr (some (.int 0)) S' I' (au2 L' 10 0 r.toInt64) R' → Kr' (some (.int r)) S' I' L' R') → (∀ S' I' L' R', Kr (some (.int 1)) S' I' L' R' → Kx' eIO S' I' L' R') → (∀ S' I' L' R', Kr (some (.int 2)) S' I' L' R' → Kx' eIA S' I' L' R') → aMet l E yX3_ofStar cX3_ofStar 4 (some .int) rmX3_ofStar [.ref 3, .int x, .int y] S I L Rf Kr' Kx') : aMetW l E yL_ofStar cL_ofStar 5 (some .int) [(0, 10, 13, 25), (0, 10, 17, 13)] rmL_ofStar [.ref 3, .int x, .int y, .ref 10] S I L Rf Kr := by
  refine aMetW.of (lv0 := [.ref 3, .int x, .int y, .ref 10, aU]) (z := 1) (by decide +kernel) hst rfl (Nat.le_of_ble_eq_true rfl) ?_
  intro p e s m args below meth c io0 hx htb
  have hx : aCx p l s m args meth c RL cL_ofStar 5 (some .int) E := hx
  refine g_aloadG_n hx dL_ofStar_0 rfl (nx := 1) rfl rfl ?_
  refine g_iconst hx dL_ofStar_1 (nx := 2) rfl (v := 0) (by decide) ?_
  refine g_aloadG_n hx dL_ofStar_2 rfl (nx := 3) rfl rfl ?_
  refine g_iloadG_n hx dL_ofStar_3 rfl (nx := 4) rfl rfl ?_
  refine g_iloadG_n hx dL_ofStar_4 rfl (nx := 5) rfl rfl ?_
  refine g_callV_H hx [_, _] (k' := 2) (n' := 12) (lvh := [.ref 3, .int x, .int y, .ref 10, aU]) tgL_ofStar dL_ofStar_5 (nx := 8) rfl lk_L_59 h3 (by decide) rfl rfl (Nat.le_of_ble_eq_true rfl) (Nat.le_of_ble_eq_true rfl) (Nat.le_of_ble_eq_true rfl) (Nat.le_of_ble_eq_true rfl) (Nat.le_of_ble_eq_true rfl) (Nat.le_of_ble_eq_true rfl) (Nat.le_of_ble_eq_true rfl) htb (by decide) hlvL_ofStar htgL_ofStar (hX _ _ (fun r S' I' L' R' h10 hk => ?_) (fun S' I' L' R' hk => ⟨15, rfl, ?_⟩) (fun S' I' L' R' hk => ⟨19, rfl, ?_⟩))
  · refine g_i2l hx dL_ofStar_8 (nx := 9) rfl ?_
    refine g_lastore hx dL_ofStar_9 (nx := 10) rfl h10 (by decide) (vin (by decide)) ?_
    refine g_goto hx dL_ofStar_10 (tg := 21) (by decide) ?_
    refine g_iconst hx dL_ofStar_21 (nx := 22) rfl (v := 0) (by decide) ?_
    refine g_iret hx dL_ofStar_22 rfl rfl (Nat.le_of_ble_eq_true rfl) (Nat.le_of_ble_eq_true rfl) ?_
    first | exact hk
  · refine g_iconst hx dL_ofStar_15 (nx := 16) rfl (v := 1) (by decide) ?_
    refine g_iret hx dL_ofStar_16 rfl rfl (Nat.le_of_ble_eq_true rfl) (Nat.le_of_ble_eq_true rfl) ?_
    exact hk
  · refine g_iconst hx dL_ofStar_19 (nx := 20) rfl (v := 2) (by decide) ?_
    refine g_iret hx dL_ofStar_20 rfl rfl (Nat.le_of_ble_eq_true rfl) (Nat.le_of_ble_eq_true rfl) ?_
    exact hk
def tgL_crossingAnew (X : String) : Option Nat := if X = eIO then some 13 else none
theorem htgL_crossingAnew : ∀ X t, tgL_crossingAnew X = some t → aHd RL cL_crossingAnew (tableOf [(0, 9, 12, 25)]) 4 3 X t := by
  intro X t h
  unfold tgL_crossingAnew at h
  split at h
  · rename_i e
    subst e
    cases h
    exact ⟨(tableOf [(0, 9, 12, 25)]).take 0, (tableOf [(0, 9, 12, 25)])[0], (tableOf [(0, 9, 12, 25)]).drop 1, _, rfl, (fun z hz => by cases hz), by decide, by decide, cl_L_25, ca_25, Or.inr ⟨3, rfl, dL_crossingAnew_12, rfl⟩⟩
  · cases h
theorem hlvL_crossingAnew {x : Int32} : aStu 3 [.ref 3, .int x, .ref 10, aU] [.ref 3, .int x, .ref 10, aU] := by
  intro i u h hk
  match i, h with
  | 0, h => cases h; exact ⟨by decide, rfl, fun _ z => by cases z⟩
  | 1, h => cases h; exact ⟨by decide, rfl, fun _ z => by cases z⟩
  | 2, h => cases h; exact ⟨by decide, rfl, fun _ z => by cases z⟩
  | 3, h => cases h; cases hk
  | i + 4, h => simp at h
abbrev rmL_crossingAnew : Room := { frames := 8, cells := 1, slots := 6, locals := 132 }
set_option maxHeartbeats 4000000 in
set_option maxRecDepth 100000 in
theorem s_L_crossingAnew {l : Launch} {E : aE} {S : aS} {I : aI} {L : aL} {Rf : aR} {Kr : aK} (hst : l.stackTraces = false) {x : Int32} (h3 : S 3 = some (.inr 3)) (h10 : S 10 = some (.inl (.long, 1))) (hX : ∀ (Kr' : aK) (Kx' : aX), (∀ (r : Int32) S' I' L' R', S' 10 = some (.inl (.long, 1)) → Kr (some (.int 0)) S' I' (au2 L' 10 0 r.toInt64) R' → Kr' (some (.int r)) S' I' L' R') → (∀ S' I' L' R', Kr (some (.int 1)) S' I' L' R' → Kx' eIO S' I' L' R') → aMet l E yX3_crossingAnew cX3_crossingAnew 2 (some .int) rmX3_crossingAnew [.ref 3, .int x] S I L Rf Kr' Kx') : aMetW l E yL_crossingAnew cL_crossingAnew 4 (some .int) [(0, 9, 12, 25)] rmL_crossingAnew [.ref 3, .int x, .ref 10] S I L Rf Kr := by
  refine aMetW.of (lv0 := [.ref 3, .int x, .ref 10, aU]) (z := 1) (by decide +kernel) hst rfl (Nat.le_of_ble_eq_true rfl) ?_
  intro p e s m args below meth c io0 hx htb
  have hx : aCx p l s m args meth c RL cL_crossingAnew 4 (some .int) E := hx
  refine g_aloadG_n hx dL_crossingAnew_0 rfl (nx := 1) rfl rfl ?_
  refine g_iconst hx dL_crossingAnew_1 (nx := 2) rfl (v := 0) (by decide) ?_
  refine g_aloadG_n hx dL_crossingAnew_2 rfl (nx := 3) rfl rfl ?_
  refine g_iloadG_n hx dL_crossingAnew_3 rfl (nx := 4) rfl rfl ?_
  refine g_callV_H hx [_] (k' := 1) (n' := 6) (lvh := [.ref 3, .int x, .ref 10, aU]) tgL_crossingAnew dL_crossingAnew_4 (nx := 7) rfl lk_L_62 h3 (by decide) rfl rfl (Nat.le_of_ble_eq_true rfl) (Nat.le_of_ble_eq_true rfl) (Nat.le_of_ble_eq_true rfl) (Nat.le_of_ble_eq_true rfl) (Nat.le_of_ble_eq_true rfl) (Nat.le_of_ble_eq_true rfl) (Nat.le_of_ble_eq_true rfl) htb (by decide) hlvL_crossingAnew htgL_crossingAnew (hX _ _ (fun r S' I' L' R' h10 hk => ?_) (fun S' I' L' R' hk => ⟨13, rfl, ?_⟩))
  · refine g_i2l hx dL_crossingAnew_7 (nx := 8) rfl ?_
    refine g_lastore hx dL_crossingAnew_8 (nx := 9) rfl h10 (by decide) (vin (by decide)) ?_
    refine g_goto hx dL_crossingAnew_9 (tg := 15) (by decide) ?_
    refine g_iconst hx dL_crossingAnew_15 (nx := 16) rfl (v := 0) (by decide) ?_
    refine g_iret hx dL_crossingAnew_16 rfl rfl (Nat.le_of_ble_eq_true rfl) (Nat.le_of_ble_eq_true rfl) ?_
    first | exact hk
  · refine g_iconst hx dL_crossingAnew_13 (nx := 14) rfl (v := 1) (by decide) ?_
    refine g_iret hx dL_crossingAnew_14 rfl rfl (Nat.le_of_ble_eq_true rfl) (Nat.le_of_ble_eq_true rfl) ?_
    exact hk
def tgL_tone (X : String) : Option Nat := if X = eIO then some 19 else if X = eIA then some 23 else none
theorem htgL_tone : ∀ X t, tgL_tone X = some t → aHd RL cL_tone (tableOf [(0, 14, 17, 25), (0, 14, 21, 13)]) 9 6 X t := by
  intro X t h
  unfold tgL_tone at h
  split at h
  · rename_i e
    subst e
    cases h
    exact ⟨(tableOf [(0, 14, 17, 25), (0, 14, 21, 13)]).take 0, (tableOf [(0, 14, 17, 25), (0, 14, 21, 13)])[0], (tableOf [(0, 14, 17, 25), (0, 14, 21, 13)]).drop 1, _, rfl, (fun z hz => by cases hz), by decide, by decide, cl_L_25, ca_25, Or.inl ⟨dL_tone_17, rfl⟩⟩
  · skip
    split at h
    · rename_i e
      subst e
      cases h
      exact ⟨(tableOf [(0, 14, 17, 25), (0, 14, 21, 13)]).take 1, (tableOf [(0, 14, 17, 25), (0, 14, 21, 13)])[1], (tableOf [(0, 14, 17, 25), (0, 14, 21, 13)]).drop 2, _, rfl, (fun z hz => by
          simp only [tableOf, List.map_cons, List.map_nil, List.take, List.mem_cons, List.not_mem_nil, or_false] at hz
          rcases hz with rfl
          · exact Or.inr ⟨by decide, _, cl_L_25, by decide +kernel⟩), by decide, by decide, cl_L_13, ca_13, Or.inl ⟨dL_tone_21, rfl⟩⟩
    · cases h
theorem hlvL_tone {x y w v : Int32} : aStu 6 [.ref 3, .int x, .int y, .int w, .int v, .ref 10, aU] [.ref 3, .int x, .int y, .int w, .int v, .ref 10, aU] := by
  intro i u h hk
  match i, h with
  | 0, h => cases h; exact ⟨by decide, rfl, fun _ z => by cases z⟩
  | 1, h => cases h; exact ⟨by decide, rfl, fun _ z => by cases z⟩
  | 2, h => cases h; exact ⟨by decide, rfl, fun _ z => by cases z⟩
  | 3, h => cases h; exact ⟨by decide, rfl, fun _ z => by cases z⟩
  | 4, h => cases h; exact ⟨by decide, rfl, fun _ z => by cases z⟩
  | 5, h => cases h; exact ⟨by decide, rfl, fun _ z => by cases z⟩
  | 6, h => cases h; cases hk
  | i + 7, h => simp at h
abbrev rmL_tone : Room := { frames := 8, cells := 2, slots := 12, locals := 136 }
set_option maxHeartbeats 4000000 in
set_option maxRecDepth 100000 in
theorem s_L_tone {l : Launch} {E : aE} {S : aS} {I : aI} {L : aL} {Rf : aR} {Kr : aK} (hst : l.stackTraces = false) {x y w v : Int32} (h3 : S 3 = some (.inr 3)) (h10 : S 10 = some (.inl (.long, 1))) (hX : ∀ (Kr' : aK) (Kx' : aX), (∀ (r : Int32) S' I' L' R', S' 10 = some (.inl (.long, 1)) → Kr (some (.int 0)) S' I' (au2 L' 10 0 r.toInt64) R' → Kr' (some (.int r)) S' I' L' R') → (∀ S' I' L' R', Kr (some (.int 1)) S' I' L' R' → Kx' eIO S' I' L' R') → (∀ S' I' L' R', Kr (some (.int 2)) S' I' L' R' → Kx' eIA S' I' L' R') → aMet l E yX3_tone cX3_tone 6 (some .int) rmX3_tone [.ref 3, .int x, .int y, .int w, .int v] S I L Rf Kr' Kx') : aMetW l E yL_tone cL_tone 7 (some .int) [(0, 14, 17, 25), (0, 14, 21, 13)] rmL_tone [.ref 3, .int x, .int y, .int w, .int v, .ref 10] S I L Rf Kr := by
  refine aMetW.of (lv0 := [.ref 3, .int x, .int y, .int w, .int v, .ref 10, aU]) (z := 1) (by decide +kernel) hst rfl (Nat.le_of_ble_eq_true rfl) ?_
  intro p e s m args below meth c io0 hx htb
  have hx : aCx p l s m args meth c RL cL_tone 7 (some .int) E := hx
  refine g_aloadG hx dL_tone_0 (nx := 2) rfl rfl ?_
  refine g_iconst hx dL_tone_2 (nx := 3) rfl (v := 0) (by decide) ?_
  refine g_aloadG_n hx dL_tone_3 rfl (nx := 4) rfl rfl ?_
  refine g_iloadG_n hx dL_tone_4 rfl (nx := 5) rfl rfl ?_
  refine g_iloadG_n hx dL_tone_5 rfl (nx := 6) rfl rfl ?_
  refine g_iloadG_n hx dL_tone_6 rfl (nx := 7) rfl rfl ?_
  refine g_iloadG hx dL_tone_7 (nx := 9) rfl rfl ?_
  refine g_callV_H hx [_, _, _, _] (k' := 2) (n' := 12) (lvh := [.ref 3, .int x, .int y, .int w, .int v, .ref 10, aU]) tgL_tone dL_tone_9 (nx := 12) rfl lk_L_65 h3 (by decide) rfl rfl (Nat.le_of_ble_eq_true rfl) (Nat.le_of_ble_eq_true rfl) (Nat.le_of_ble_eq_true rfl) (Nat.le_of_ble_eq_true rfl) (Nat.le_of_ble_eq_true rfl) (Nat.le_of_ble_eq_true rfl) (Nat.le_of_ble_eq_true rfl) htb (by decide) hlvL_tone htgL_tone (hX _ _ (fun r S' I' L' R' h10 hk => ?_) (fun S' I' L' R' hk => ⟨19, rfl, ?_⟩) (fun S' I' L' R' hk => ⟨23, rfl, ?_⟩))
  · refine g_i2l hx dL_tone_12 (nx := 13) rfl ?_
    refine g_lastore hx dL_tone_13 (nx := 14) rfl h10 (by decide) (vin (by decide)) ?_
    refine g_goto hx dL_tone_14 (tg := 25) (by decide) ?_
    refine g_iconst hx dL_tone_25 (nx := 26) rfl (v := 0) (by decide) ?_
    refine g_iret hx dL_tone_26 rfl rfl (Nat.le_of_ble_eq_true rfl) (Nat.le_of_ble_eq_true rfl) ?_
    first | exact hk
  · refine g_iconst hx dL_tone_19 (nx := 20) rfl (v := 1) (by decide) ?_
    refine g_iret hx dL_tone_20 rfl rfl (Nat.le_of_ble_eq_true rfl) (Nat.le_of_ble_eq_true rfl) ?_
    exact hk
  · refine g_iconst hx dL_tone_23 (nx := 24) rfl (v := 2) (by decide) ?_
    refine g_iret hx dL_tone_24 rfl rfl (Nat.le_of_ble_eq_true rfl) (Nat.le_of_ble_eq_true rfl) ?_
    exact hk
def tgL_frames (X : String) : Option Nat := if X = eIO then some 13 else none
theorem htgL_frames : ∀ X t, tgL_frames X = some t → aHd RL cL_frames (tableOf [(0, 9, 12, 25)]) 4 3 X t := by
  intro X t h
  unfold tgL_frames at h
  split at h
  · rename_i e
    subst e
    cases h
    exact ⟨(tableOf [(0, 9, 12, 25)]).take 0, (tableOf [(0, 9, 12, 25)])[0], (tableOf [(0, 9, 12, 25)]).drop 1, _, rfl, (fun z hz => by cases hz), by decide, by decide, cl_L_25, ca_25, Or.inr ⟨3, rfl, dL_frames_12, rfl⟩⟩
  · cases h
theorem hlvL_frames {x : Int32} : aStu 3 [.ref 3, .int x, .ref 10, aU] [.ref 3, .int x, .ref 10, aU] := by
  intro i u h hk
  match i, h with
  | 0, h => cases h; exact ⟨by decide, rfl, fun _ z => by cases z⟩
  | 1, h => cases h; exact ⟨by decide, rfl, fun _ z => by cases z⟩
  | 2, h => cases h; exact ⟨by decide, rfl, fun _ z => by cases z⟩
  | 3, h => cases h; cases hk
  | i + 4, h => simp at h
abbrev rmL_frames : Room := { frames := 8, cells := 1, slots := 6, locals := 132 }
set_option maxHeartbeats 4000000 in
set_option maxRecDepth 100000 in
theorem s_L_frames {l : Launch} {E : aE} {S : aS} {I : aI} {L : aL} {Rf : aR} {Kr : aK} (hst : l.stackTraces = false) {x : Int32} (h3 : S 3 = some (.inr 3)) (h10 : S 10 = some (.inl (.long, 1))) (hX : ∀ (Kr' : aK) (Kx' : aX), (∀ (r : Int32) S' I' L' R', S' 10 = some (.inl (.long, 1)) → Kr (some (.int 0)) S' I' (au2 L' 10 0 r.toInt64) R' → Kr' (some (.int r)) S' I' L' R') → (∀ S' I' L' R', Kr (some (.int 1)) S' I' L' R' → Kx' eIO S' I' L' R') → aMet l E yX3_frames cX3_frames 2 (some .int) rmX3_frames [.ref 3, .int x] S I L Rf Kr' Kx') : aMetW l E yL_frames cL_frames 4 (some .int) [(0, 9, 12, 25)] rmL_frames [.ref 3, .int x, .ref 10] S I L Rf Kr := by
  refine aMetW.of (lv0 := [.ref 3, .int x, .ref 10, aU]) (z := 1) (by decide +kernel) hst rfl (Nat.le_of_ble_eq_true rfl) ?_
  intro p e s m args below meth c io0 hx htb
  have hx : aCx p l s m args meth c RL cL_frames 4 (some .int) E := hx
  refine g_aloadG_n hx dL_frames_0 rfl (nx := 1) rfl rfl ?_
  refine g_iconst hx dL_frames_1 (nx := 2) rfl (v := 0) (by decide) ?_
  refine g_aloadG_n hx dL_frames_2 rfl (nx := 3) rfl rfl ?_
  refine g_iloadG_n hx dL_frames_3 rfl (nx := 4) rfl rfl ?_
  refine g_callV_H hx [_] (k' := 1) (n' := 6) (lvh := [.ref 3, .int x, .ref 10, aU]) tgL_frames dL_frames_4 (nx := 7) rfl lk_L_68 h3 (by decide) rfl rfl (Nat.le_of_ble_eq_true rfl) (Nat.le_of_ble_eq_true rfl) (Nat.le_of_ble_eq_true rfl) (Nat.le_of_ble_eq_true rfl) (Nat.le_of_ble_eq_true rfl) (Nat.le_of_ble_eq_true rfl) (Nat.le_of_ble_eq_true rfl) htb (by decide) hlvL_frames htgL_frames (hX _ _ (fun r S' I' L' R' h10 hk => ?_) (fun S' I' L' R' hk => ⟨13, rfl, ?_⟩))
  · refine g_i2l hx dL_frames_7 (nx := 8) rfl ?_
    refine g_lastore hx dL_frames_8 (nx := 9) rfl h10 (by decide) (vin (by decide)) ?_
    refine g_goto hx dL_frames_9 (tg := 15) (by decide) ?_
    refine g_iconst hx dL_frames_15 (nx := 16) rfl (v := 0) (by decide) ?_
    refine g_iret hx dL_frames_16 rfl rfl (Nat.le_of_ble_eq_true rfl) (Nat.le_of_ble_eq_true rfl) ?_
    first | exact hk
  · refine g_iconst hx dL_frames_13 (nx := 14) rfl (v := 1) (by decide) ?_
    refine g_iret hx dL_frames_14 rfl rfl (Nat.le_of_ble_eq_true rfl) (Nat.le_of_ble_eq_true rfl) ?_
    exact hk
def tgL_value (X : String) : Option Nat := if X = eIO then some 17 else if X = eIA then some 21 else none
theorem htgL_value : ∀ X t, tgL_value X = some t → aHd RL cL_value (tableOf [(0, 12, 15, 25), (0, 12, 19, 13)]) 7 5 X t := by
  intro X t h
  unfold tgL_value at h
  split at h
  · rename_i e
    subst e
    cases h
    exact ⟨(tableOf [(0, 12, 15, 25), (0, 12, 19, 13)]).take 0, (tableOf [(0, 12, 15, 25), (0, 12, 19, 13)])[0], (tableOf [(0, 12, 15, 25), (0, 12, 19, 13)]).drop 1, _, rfl, (fun z hz => by cases hz), by decide, by decide, cl_L_25, ca_25, Or.inl ⟨dL_value_15, rfl⟩⟩
  · skip
    split at h
    · rename_i e
      subst e
      cases h
      exact ⟨(tableOf [(0, 12, 15, 25), (0, 12, 19, 13)]).take 1, (tableOf [(0, 12, 15, 25), (0, 12, 19, 13)])[1], (tableOf [(0, 12, 15, 25), (0, 12, 19, 13)]).drop 2, _, rfl, (fun z hz => by
          simp only [tableOf, List.map_cons, List.map_nil, List.take, List.mem_cons, List.not_mem_nil, or_false] at hz
          rcases hz with rfl
          · exact Or.inr ⟨by decide, _, cl_L_25, by decide +kernel⟩), by decide, by decide, cl_L_13, ca_13, Or.inl ⟨dL_value_19, rfl⟩⟩
    · cases h
theorem hlvL_value {x y w : Int32} : aStu 5 [.ref 3, .int x, .int y, .int w, .ref 10, aU] [.ref 3, .int x, .int y, .int w, .ref 10, aU] := by
  intro i u h hk
  match i, h with
  | 0, h => cases h; exact ⟨by decide, rfl, fun _ z => by cases z⟩
  | 1, h => cases h; exact ⟨by decide, rfl, fun _ z => by cases z⟩
  | 2, h => cases h; exact ⟨by decide, rfl, fun _ z => by cases z⟩
  | 3, h => cases h; exact ⟨by decide, rfl, fun _ z => by cases z⟩
  | 4, h => cases h; exact ⟨by decide, rfl, fun _ z => by cases z⟩
  | 5, h => cases h; cases hk
  | i + 6, h => simp at h
abbrev rmL_value : Room := { frames := 8, cells := 3, slots := 18, locals := 141 }
set_option maxHeartbeats 4000000 in
set_option maxRecDepth 100000 in
theorem s_L_value {l : Launch} {E : aE} {S : aS} {I : aI} {L : aL} {Rf : aR} {Kr : aK} (hst : l.stackTraces = false) {x y w : Int32} (h3 : S 3 = some (.inr 3)) (h10 : S 10 = some (.inl (.long, 1))) (hX : ∀ (Kr' : aK) (Kx' : aX), (∀ (r : Int32) S' I' L' R', S' 10 = some (.inl (.long, 1)) → Kr (some (.int 0)) S' I' (au2 L' 10 0 r.toInt64) R' → Kr' (some (.int r)) S' I' L' R') → (∀ S' I' L' R', Kr (some (.int 1)) S' I' L' R' → Kx' eIO S' I' L' R') → (∀ S' I' L' R', Kr (some (.int 2)) S' I' L' R' → Kx' eIA S' I' L' R') → aMet l E yX3_value cX3_value 5 (some .int) rmX3_value [.ref 3, .int x, .int y, .int w] S I L Rf Kr' Kx') : aMetW l E yL_value cL_value 6 (some .int) [(0, 12, 15, 25), (0, 12, 19, 13)] rmL_value [.ref 3, .int x, .int y, .int w, .ref 10] S I L Rf Kr := by
  refine aMetW.of (lv0 := [.ref 3, .int x, .int y, .int w, .ref 10, aU]) (z := 1) (by decide +kernel) hst rfl (Nat.le_of_ble_eq_true rfl) ?_
  intro p e s m args below meth c io0 hx htb
  have hx : aCx p l s m args meth c RL cL_value 6 (some .int) E := hx
  refine g_aloadG hx dL_value_0 (nx := 2) rfl rfl ?_
  refine g_iconst hx dL_value_2 (nx := 3) rfl (v := 0) (by decide) ?_
  refine g_aloadG_n hx dL_value_3 rfl (nx := 4) rfl rfl ?_
  refine g_iloadG_n hx dL_value_4 rfl (nx := 5) rfl rfl ?_
  refine g_iloadG_n hx dL_value_5 rfl (nx := 6) rfl rfl ?_
  refine g_iloadG_n hx dL_value_6 rfl (nx := 7) rfl rfl ?_
  refine g_callV_H hx [_, _, _] (k' := 3) (n' := 18) (lvh := [.ref 3, .int x, .int y, .int w, .ref 10, aU]) tgL_value dL_value_7 (nx := 10) rfl lk_L_71 h3 (by decide) rfl rfl (Nat.le_of_ble_eq_true rfl) (Nat.le_of_ble_eq_true rfl) (Nat.le_of_ble_eq_true rfl) (Nat.le_of_ble_eq_true rfl) (Nat.le_of_ble_eq_true rfl) (Nat.le_of_ble_eq_true rfl) (Nat.le_of_ble_eq_true rfl) htb (by decide) hlvL_value htgL_value (hX _ _ (fun r S' I' L' R' h10 hk => ?_) (fun S' I' L' R' hk => ⟨17, rfl, ?_⟩) (fun S' I' L' R' hk => ⟨21, rfl, ?_⟩))
  · refine g_i2l hx dL_value_10 (nx := 11) rfl ?_
    refine g_lastore hx dL_value_11 (nx := 12) rfl h10 (by decide) (vin (by decide)) ?_
    refine g_goto hx dL_value_12 (tg := 23) (by decide) ?_
    refine g_iconst hx dL_value_23 (nx := 24) rfl (v := 0) (by decide) ?_
    refine g_iret hx dL_value_24 rfl rfl (Nat.le_of_ble_eq_true rfl) (Nat.le_of_ble_eq_true rfl) ?_
    first | exact hk
  · refine g_iconst hx dL_value_17 (nx := 18) rfl (v := 1) (by decide) ?_
    refine g_iret hx dL_value_18 rfl rfl (Nat.le_of_ble_eq_true rfl) (Nat.le_of_ble_eq_true rfl) ?_
    exact hk
  · refine g_iconst hx dL_value_21 (nx := 22) rfl (v := 2) (by decide) ?_
    refine g_iret hx dL_value_22 rfl rfl (Nat.le_of_ble_eq_true rfl) (Nat.le_of_ble_eq_true rfl) ?_
    exact hk
def tgL_power (X : String) : Option Nat := if X = eIO then some 16 else if X = eIA then some 20 else none
theorem htgL_power : ∀ X t, tgL_power X = some t → aHd RL cL_power (tableOf [(0, 11, 14, 25), (0, 11, 18, 13)]) 7 5 X t := by
  intro X t h
  unfold tgL_power at h
  split at h
  · rename_i e
    subst e
    cases h
    exact ⟨(tableOf [(0, 11, 14, 25), (0, 11, 18, 13)]).take 0, (tableOf [(0, 11, 14, 25), (0, 11, 18, 13)])[0], (tableOf [(0, 11, 14, 25), (0, 11, 18, 13)]).drop 1, _, rfl, (fun z hz => by cases hz), by decide, by decide, cl_L_25, ca_25, Or.inl ⟨dL_power_14, rfl⟩⟩
  · skip
    split at h
    · rename_i e
      subst e
      cases h
      exact ⟨(tableOf [(0, 11, 14, 25), (0, 11, 18, 13)]).take 1, (tableOf [(0, 11, 14, 25), (0, 11, 18, 13)])[1], (tableOf [(0, 11, 14, 25), (0, 11, 18, 13)]).drop 2, _, rfl, (fun z hz => by
          simp only [tableOf, List.map_cons, List.map_nil, List.take, List.mem_cons, List.not_mem_nil, or_false] at hz
          rcases hz with rfl
          · exact Or.inr ⟨by decide, _, cl_L_25, by decide +kernel⟩), by decide, by decide, cl_L_13, ca_13, Or.inl ⟨dL_power_18, rfl⟩⟩
    · cases h
theorem hlvL_power {x y w : Int32} : aStu 5 [.ref 3, .int x, .int y, .int w, .ref 10, aU] [.ref 3, .int x, .int y, .int w, .ref 10, aU] := by
  intro i u h hk
  match i, h with
  | 0, h => cases h; exact ⟨by decide, rfl, fun _ z => by cases z⟩
  | 1, h => cases h; exact ⟨by decide, rfl, fun _ z => by cases z⟩
  | 2, h => cases h; exact ⟨by decide, rfl, fun _ z => by cases z⟩
  | 3, h => cases h; exact ⟨by decide, rfl, fun _ z => by cases z⟩
  | 4, h => cases h; exact ⟨by decide, rfl, fun _ z => by cases z⟩
  | 5, h => cases h; cases hk
  | i + 6, h => simp at h
abbrev rmL_power : Room := { frames := 8, cells := 3, slots := 18, locals := 141 }
set_option maxHeartbeats 4000000 in
set_option maxRecDepth 100000 in
theorem s_L_power {l : Launch} {E : aE} {S : aS} {I : aI} {L : aL} {Rf : aR} {Kr : aK} (hst : l.stackTraces = false) {x y w : Int32} (h3 : S 3 = some (.inr 3)) (h10 : S 10 = some (.inl (.long, 1))) (hX : ∀ (Kr' : aK) (Kx' : aX), (∀ (r : Int64) S' I' L' R', S' 10 = some (.inl (.long, 1)) → Kr (some (.int 0)) S' I' (au2 L' 10 0 r) R' → Kr' (some (.long r)) S' I' L' R') → (∀ S' I' L' R', Kr (some (.int 1)) S' I' L' R' → Kx' eIO S' I' L' R') → (∀ S' I' L' R', Kr (some (.int 2)) S' I' L' R' → Kx' eIA S' I' L' R') → aMet l E yX3_power cX3_power 5 (some .long) rmX3_power [.ref 3, .int x, .int y, .int w] S I L Rf Kr' Kx') : aMetW l E yL_power cL_power 6 (some .int) [(0, 11, 14, 25), (0, 11, 18, 13)] rmL_power [.ref 3, .int x, .int y, .int w, .ref 10] S I L Rf Kr := by
  refine aMetW.of (lv0 := [.ref 3, .int x, .int y, .int w, .ref 10, aU]) (z := 1) (by decide +kernel) hst rfl (Nat.le_of_ble_eq_true rfl) ?_
  intro p e s m args below meth c io0 hx htb
  have hx : aCx p l s m args meth c RL cL_power 6 (some .int) E := hx
  refine g_aloadG hx dL_power_0 (nx := 2) rfl rfl ?_
  refine g_iconst hx dL_power_2 (nx := 3) rfl (v := 0) (by decide) ?_
  refine g_aloadG_n hx dL_power_3 rfl (nx := 4) rfl rfl ?_
  refine g_iloadG_n hx dL_power_4 rfl (nx := 5) rfl rfl ?_
  refine g_iloadG_n hx dL_power_5 rfl (nx := 6) rfl rfl ?_
  refine g_iloadG_n hx dL_power_6 rfl (nx := 7) rfl rfl ?_
  refine g_callV_H hx [_, _, _] (k' := 3) (n' := 18) (lvh := [.ref 3, .int x, .int y, .int w, .ref 10, aU]) tgL_power dL_power_7 (nx := 10) rfl lk_L_74 h3 (by decide) rfl rfl (Nat.le_of_ble_eq_true rfl) (Nat.le_of_ble_eq_true rfl) (Nat.le_of_ble_eq_true rfl) (Nat.le_of_ble_eq_true rfl) (Nat.le_of_ble_eq_true rfl) (Nat.le_of_ble_eq_true rfl) (Nat.le_of_ble_eq_true rfl) htb (by decide) hlvL_power htgL_power (hX _ _ (fun r S' I' L' R' h10 hk => ?_) (fun S' I' L' R' hk => ⟨16, rfl, ?_⟩) (fun S' I' L' R' hk => ⟨20, rfl, ?_⟩))
  · refine g_lastore hx dL_power_10 (nx := 11) rfl h10 (by decide) (vin (by decide)) ?_
    refine g_goto hx dL_power_11 (tg := 22) (by decide) ?_
    refine g_iconst hx dL_power_22 (nx := 23) rfl (v := 0) (by decide) ?_
    refine g_iret hx dL_power_23 rfl rfl (Nat.le_of_ble_eq_true rfl) (Nat.le_of_ble_eq_true rfl) ?_
    first | exact hk
  · refine g_iconst hx dL_power_16 (nx := 17) rfl (v := 1) (by decide) ?_
    refine g_iret hx dL_power_17 rfl rfl (Nat.le_of_ble_eq_true rfl) (Nat.le_of_ble_eq_true rfl) ?_
    exact hk
  · refine g_iconst hx dL_power_20 (nx := 21) rfl (v := 2) (by decide) ?_
    refine g_iret hx dL_power_21 rfl rfl (Nat.le_of_ble_eq_true rfl) (Nat.le_of_ble_eq_true rfl) ?_
    exact hk
def tgL_window (X : String) : Option Nat := if X = eIO then some 14 else if X = eIA then some 18 else none
theorem htgL_window : ∀ X t, tgL_window X = some t → aHd RL cL_window (tableOf [(0, 9, 12, 25), (0, 9, 16, 13)]) 5 4 X t := by
  intro X t h
  unfold tgL_window at h
  split at h
  · rename_i e
    subst e
    cases h
    exact ⟨(tableOf [(0, 9, 12, 25), (0, 9, 16, 13)]).take 0, (tableOf [(0, 9, 12, 25), (0, 9, 16, 13)])[0], (tableOf [(0, 9, 12, 25), (0, 9, 16, 13)]).drop 1, _, rfl, (fun z hz => by cases hz), by decide, by decide, cl_L_25, ca_25, Or.inl ⟨dL_window_12, rfl⟩⟩
  · skip
    split at h
    · rename_i e
      subst e
      cases h
      exact ⟨(tableOf [(0, 9, 12, 25), (0, 9, 16, 13)]).take 1, (tableOf [(0, 9, 12, 25), (0, 9, 16, 13)])[1], (tableOf [(0, 9, 12, 25), (0, 9, 16, 13)]).drop 2, _, rfl, (fun z hz => by
          simp only [tableOf, List.map_cons, List.map_nil, List.take, List.mem_cons, List.not_mem_nil, or_false] at hz
          rcases hz with rfl
          · exact Or.inr ⟨by decide, _, cl_L_25, by decide +kernel⟩), by decide, by decide, cl_L_13, ca_13, Or.inl ⟨dL_window_16, rfl⟩⟩
    · cases h
theorem hlvL_window {x y : Int32} : aStu 4 [.ref 3, .int x, .int y, .ref 10, aU] [.ref 3, .int x, .int y, .ref 10, aU] := by
  intro i u h hk
  match i, h with
  | 0, h => cases h; exact ⟨by decide, rfl, fun _ z => by cases z⟩
  | 1, h => cases h; exact ⟨by decide, rfl, fun _ z => by cases z⟩
  | 2, h => cases h; exact ⟨by decide, rfl, fun _ z => by cases z⟩
  | 3, h => cases h; exact ⟨by decide, rfl, fun _ z => by cases z⟩
  | 4, h => cases h; cases hk
  | i + 5, h => simp at h
abbrev rmL_window : Room := { frames := 8, cells := 2, slots := 12, locals := 134 }
set_option maxHeartbeats 4000000 in
set_option maxRecDepth 100000 in
theorem s_L_window {l : Launch} {E : aE} {S : aS} {I : aI} {L : aL} {Rf : aR} {Kr : aK} (hst : l.stackTraces = false) {x y : Int32} (h3 : S 3 = some (.inr 3)) (h10 : S 10 = some (.inl (.long, 1))) (hX : ∀ (Kr' : aK) (Kx' : aX), (∀ (r : Int64) S' I' L' R', S' 10 = some (.inl (.long, 1)) → Kr (some (.int 0)) S' I' (au2 L' 10 0 r) R' → Kr' (some (.long r)) S' I' L' R') → (∀ S' I' L' R', Kr (some (.int 1)) S' I' L' R' → Kx' eIO S' I' L' R') → (∀ S' I' L' R', Kr (some (.int 2)) S' I' L' R' → Kx' eIA S' I' L' R') → aMet l E yX3_window cX3_window 4 (some .long) rmX3_window [.ref 3, .int x, .int y] S I L Rf Kr' Kx') : aMetW l E yL_window cL_window 5 (some .int) [(0, 9, 12, 25), (0, 9, 16, 13)] rmL_window [.ref 3, .int x, .int y, .ref 10] S I L Rf Kr := by
  refine aMetW.of (lv0 := [.ref 3, .int x, .int y, .ref 10, aU]) (z := 1) (by decide +kernel) hst rfl (Nat.le_of_ble_eq_true rfl) ?_
  intro p e s m args below meth c io0 hx htb
  have hx : aCx p l s m args meth c RL cL_window 5 (some .int) E := hx
  refine g_aloadG_n hx dL_window_0 rfl (nx := 1) rfl rfl ?_
  refine g_iconst hx dL_window_1 (nx := 2) rfl (v := 0) (by decide) ?_
  refine g_aloadG_n hx dL_window_2 rfl (nx := 3) rfl rfl ?_
  refine g_iloadG_n hx dL_window_3 rfl (nx := 4) rfl rfl ?_
  refine g_iloadG_n hx dL_window_4 rfl (nx := 5) rfl rfl ?_
  refine g_callV_H hx [_, _] (k' := 2) (n' := 12) (lvh := [.ref 3, .int x, .int y, .ref 10, aU]) tgL_window dL_window_5 (nx := 8) rfl lk_L_78 h3 (by decide) rfl rfl (Nat.le_of_ble_eq_true rfl) (Nat.le_of_ble_eq_true rfl) (Nat.le_of_ble_eq_true rfl) (Nat.le_of_ble_eq_true rfl) (Nat.le_of_ble_eq_true rfl) (Nat.le_of_ble_eq_true rfl) (Nat.le_of_ble_eq_true rfl) htb (by decide) hlvL_window htgL_window (hX _ _ (fun r S' I' L' R' h10 hk => ?_) (fun S' I' L' R' hk => ⟨14, rfl, ?_⟩) (fun S' I' L' R' hk => ⟨18, rfl, ?_⟩))
  · refine g_lastore hx dL_window_8 (nx := 9) rfl h10 (by decide) (vin (by decide)) ?_
    refine g_goto hx dL_window_9 (tg := 20) (by decide) ?_
    refine g_iconst hx dL_window_20 (nx := 21) rfl (v := 0) (by decide) ?_
    refine g_iret hx dL_window_21 rfl rfl (Nat.le_of_ble_eq_true rfl) (Nat.le_of_ble_eq_true rfl) ?_
    first | exact hk
  · refine g_iconst hx dL_window_14 (nx := 15) rfl (v := 1) (by decide) ?_
    refine g_iret hx dL_window_15 rfl rfl (Nat.le_of_ble_eq_true rfl) (Nat.le_of_ble_eq_true rfl) ?_
    exact hk
  · refine g_iconst hx dL_window_18 (nx := 19) rfl (v := 2) (by decide) ?_
    refine g_iret hx dL_window_19 rfl rfl (Nat.le_of_ble_eq_true rfl) (Nat.le_of_ble_eq_true rfl) ?_
    exact hk
def tgL_isPeak (X : String) : Option Nat := if X = eIO then some 24 else none
theorem htgL_isPeak : ∀ X t, tgL_isPeak X = some t → aHd RL cL_isPeak (tableOf [(0, 19, 22, 25)]) 7 5 X t := by
  intro X t h
  unfold tgL_isPeak at h
  split at h
  · rename_i e
    subst e
    cases h
    exact ⟨(tableOf [(0, 19, 22, 25)]).take 0, (tableOf [(0, 19, 22, 25)])[0], (tableOf [(0, 19, 22, 25)]).drop 1, _, rfl, (fun z hz => by cases hz), by decide, by decide, cl_L_25, ca_25, Or.inl ⟨dL_isPeak_22, rfl⟩⟩
  · cases h
theorem hlvL_isPeak {x y w : Int32} : aStu 5 [.ref 3, .int x, .int y, .int w, .ref 10, aU] [.ref 3, .int x, .int y, .int w, .ref 10, aU] := by
  intro i u h hk
  match i, h with
  | 0, h => cases h; exact ⟨by decide, rfl, fun _ z => by cases z⟩
  | 1, h => cases h; exact ⟨by decide, rfl, fun _ z => by cases z⟩
  | 2, h => cases h; exact ⟨by decide, rfl, fun _ z => by cases z⟩
  | 3, h => cases h; exact ⟨by decide, rfl, fun _ z => by cases z⟩
  | 4, h => cases h; exact ⟨by decide, rfl, fun _ z => by cases z⟩
  | 5, h => cases h; cases hk
  | i + 6, h => simp at h
abbrev rmL_isPeak : Room := { frames := 8, cells := 2, slots := 12, locals := 166 }
set_option maxHeartbeats 4000000 in
set_option maxRecDepth 100000 in
theorem s_L_isPeak {l : Launch} {E : aE} {S : aS} {I : aI} {L : aL} {Rf : aR} {Kr : aK} (hst : l.stackTraces = false) {x y w : Int32} (h3 : S 3 = some (.inr 3)) (h10 : S 10 = some (.inl (.long, 1))) (hX : ∀ (Kr' : aK) (Kx' : aX), (∀ r S' I' L' R', S' 10 = some (.inl (.long, 1)) → Kr (some (.int 0)) S' I' (au2 L' 10 0 (if r = 0 then 0 else 1)) R' → Kr' (some (.int r)) S' I' L' R') → (∀ S' I' L' R', Kr (some (.int 1)) S' I' L' R' → Kx' eIO S' I' L' R') → aMet l E yX3_isPeak cX3_isPeak 5 (some .boolean) rmX3_isPeak [.ref 3, .int x, .int y, .int w] S I L Rf Kr' Kx') : aMetW l E yL_isPeak cL_isPeak 6 (some .int) [(0, 19, 22, 25)] rmL_isPeak [.ref 3, .int x, .int y, .int w, .ref 10] S I L Rf Kr := by
  refine aMetW.of (lv0 := [.ref 3, .int x, .int y, .int w, .ref 10, aU]) (z := 1) (by decide +kernel) hst rfl (Nat.le_of_ble_eq_true rfl) ?_
  intro p e s m args below meth c io0 hx htb
  have hx : aCx p l s m args meth c RL cL_isPeak 6 (some .int) E := hx
  refine g_aloadG hx dL_isPeak_0 (nx := 2) rfl rfl ?_
  refine g_iconst hx dL_isPeak_2 (nx := 3) rfl (v := 0) (by decide) ?_
  refine g_aloadG_n hx dL_isPeak_3 rfl (nx := 4) rfl rfl ?_
  refine g_iloadG_n hx dL_isPeak_4 rfl (nx := 5) rfl rfl ?_
  refine g_iloadG_n hx dL_isPeak_5 rfl (nx := 6) rfl rfl ?_
  refine g_iloadG_n hx dL_isPeak_6 rfl (nx := 7) rfl rfl ?_
  refine g_callV_H hx [_, _, _] (k' := 2) (n' := 12) (lvh := [.ref 3, .int x, .int y, .int w, .ref 10, aU]) tgL_isPeak dL_isPeak_7 (nx := 10) rfl lk_L_82 h3 (by decide) rfl rfl (Nat.le_of_ble_eq_true rfl) (Nat.le_of_ble_eq_true rfl) (Nat.le_of_ble_eq_true rfl) (Nat.le_of_ble_eq_true rfl) (Nat.le_of_ble_eq_true rfl) (Nat.le_of_ble_eq_true rfl) (Nat.le_of_ble_eq_true rfl) htb (by decide) hlvL_isPeak htgL_isPeak (hX _ _ (fun r S' I' L' R' h10 hk => ?_) (fun S' I' L' R' hk => ⟨24, rfl, ?_⟩))
  · refine g_if_eq hx dL_isPeak_10 (tg := 17) (by decide) (nx := 13) rfl (fun c10 => ?_) (fun c10 => ?_)
    · refine g_lconst hx dL_isPeak_17 (nx := 18) rfl (v := 0) (by decide) ?_
      refine g_lastore hx dL_isPeak_18 (nx := 19) rfl h10 (by decide) (vin (by decide)) ?_
      refine g_goto hx dL_isPeak_19 (tg := 26) (by decide) ?_
      refine g_iconst hx dL_isPeak_26 (nx := 27) rfl (v := 0) (by decide) ?_
      refine g_iret hx dL_isPeak_27 rfl rfl (Nat.le_of_ble_eq_true rfl) (Nat.le_of_ble_eq_true rfl) ?_
      first | exact hk | (rw [if_pos c10] at hk; exact hk) | (rw [if_neg c10] at hk; exact hk)
    · refine g_lconst hx dL_isPeak_13 (nx := 14) rfl (v := 1) (by decide) ?_
      refine g_goto hx dL_isPeak_14 (tg := 18) (by decide) ?_
      refine g_lastore hx dL_isPeak_18 (nx := 19) rfl h10 (by decide) (vin (by decide)) ?_
      refine g_goto hx dL_isPeak_19 (tg := 26) (by decide) ?_
      refine g_iconst hx dL_isPeak_26 (nx := 27) rfl (v := 0) (by decide) ?_
      refine g_iret hx dL_isPeak_27 rfl rfl (Nat.le_of_ble_eq_true rfl) (Nat.le_of_ble_eq_true rfl) ?_
      first | exact hk | (rw [if_pos c10] at hk; exact hk) | (rw [if_neg c10] at hk; exact hk)
  · refine g_iconst hx dL_isPeak_24 (nx := 25) rfl (v := 1) (by decide) ?_
    refine g_iret hx dL_isPeak_25 rfl rfl (Nat.le_of_ble_eq_true rfl) (Nat.le_of_ble_eq_true rfl) ?_
    exact hk
def tgL_isSeenThrough (X : String) : Option Nat := if X = eIO then some 26 else if X = eIA then some 30 else none
theorem htgL_isSeenThrough : ∀ X t, tgL_isSeenThrough X = some t → aHd RL cL_isSeenThrough (tableOf [(0, 21, 24, 25), (0, 21, 28, 13)]) 9 6 X t := by
  intro X t h
  unfold tgL_isSeenThrough at h
  split at h
  · rename_i e
    subst e
    cases h
    exact ⟨(tableOf [(0, 21, 24, 25), (0, 21, 28, 13)]).take 0, (tableOf [(0, 21, 24, 25), (0, 21, 28, 13)])[0], (tableOf [(0, 21, 24, 25), (0, 21, 28, 13)]).drop 1, _, rfl, (fun z hz => by cases hz), by decide, by decide, cl_L_25, ca_25, Or.inl ⟨dL_isSeenThrough_24, rfl⟩⟩
  · skip
    split at h
    · rename_i e
      subst e
      cases h
      exact ⟨(tableOf [(0, 21, 24, 25), (0, 21, 28, 13)]).take 1, (tableOf [(0, 21, 24, 25), (0, 21, 28, 13)])[1], (tableOf [(0, 21, 24, 25), (0, 21, 28, 13)]).drop 2, _, rfl, (fun z hz => by
          simp only [tableOf, List.map_cons, List.map_nil, List.take, List.mem_cons, List.not_mem_nil, or_false] at hz
          rcases hz with rfl
          · exact Or.inr ⟨by decide, _, cl_L_25, by decide +kernel⟩), by decide, by decide, cl_L_13, ca_13, Or.inl ⟨dL_isSeenThrough_28, rfl⟩⟩
    · cases h
theorem hlvL_isSeenThrough {x y w v : Int32} : aStu 6 [.ref 3, .int x, .int y, .int w, .int v, .ref 10, aU] [.ref 3, .int x, .int y, .int w, .int v, .ref 10, aU] := by
  intro i u h hk
  match i, h with
  | 0, h => cases h; exact ⟨by decide, rfl, fun _ z => by cases z⟩
  | 1, h => cases h; exact ⟨by decide, rfl, fun _ z => by cases z⟩
  | 2, h => cases h; exact ⟨by decide, rfl, fun _ z => by cases z⟩
  | 3, h => cases h; exact ⟨by decide, rfl, fun _ z => by cases z⟩
  | 4, h => cases h; exact ⟨by decide, rfl, fun _ z => by cases z⟩
  | 5, h => cases h; exact ⟨by decide, rfl, fun _ z => by cases z⟩
  | 6, h => cases h; cases hk
  | i + 7, h => simp at h
abbrev rmL_isSeenThrough : Room := { frames := 8, cells := 5, slots := 30, locals := 144 }
set_option maxHeartbeats 4000000 in
set_option maxRecDepth 100000 in
theorem s_L_isSeenThrough {l : Launch} {E : aE} {S : aS} {I : aI} {L : aL} {Rf : aR} {Kr : aK} (hst : l.stackTraces = false) {x y w v : Int32} (h3 : S 3 = some (.inr 3)) (h10 : S 10 = some (.inl (.long, 1))) (hX : ∀ (Kr' : aK) (Kx' : aX), (∀ r S' I' L' R', S' 10 = some (.inl (.long, 1)) → Kr (some (.int 0)) S' I' (au2 L' 10 0 (if r = 0 then 0 else 1)) R' → Kr' (some (.int r)) S' I' L' R') → (∀ S' I' L' R', Kr (some (.int 1)) S' I' L' R' → Kx' eIO S' I' L' R') → (∀ S' I' L' R', Kr (some (.int 2)) S' I' L' R' → Kx' eIA S' I' L' R') → aMet l E yX3_isSeenThrough cX3_isSeenThrough 8 (some .boolean) rmX3_isSeenThrough [.ref 3, .int x, .int y, .int w, .int v] S I L Rf Kr' Kx') : aMetW l E yL_isSeenThrough cL_isSeenThrough 7 (some .int) [(0, 21, 24, 25), (0, 21, 28, 13)] rmL_isSeenThrough [.ref 3, .int x, .int y, .int w, .int v, .ref 10] S I L Rf Kr := by
  refine aMetW.of (lv0 := [.ref 3, .int x, .int y, .int w, .int v, .ref 10, aU]) (z := 1) (by decide +kernel) hst rfl (Nat.le_of_ble_eq_true rfl) ?_
  intro p e s m args below meth c io0 hx htb
  have hx : aCx p l s m args meth c RL cL_isSeenThrough 7 (some .int) E := hx
  refine g_aloadG hx dL_isSeenThrough_0 (nx := 2) rfl rfl ?_
  refine g_iconst hx dL_isSeenThrough_2 (nx := 3) rfl (v := 0) (by decide) ?_
  refine g_aloadG_n hx dL_isSeenThrough_3 rfl (nx := 4) rfl rfl ?_
  refine g_iloadG_n hx dL_isSeenThrough_4 rfl (nx := 5) rfl rfl ?_
  refine g_iloadG_n hx dL_isSeenThrough_5 rfl (nx := 6) rfl rfl ?_
  refine g_iloadG_n hx dL_isSeenThrough_6 rfl (nx := 7) rfl rfl ?_
  refine g_iloadG hx dL_isSeenThrough_7 (nx := 9) rfl rfl ?_
  refine g_callV_H hx [_, _, _, _] (k' := 5) (n' := 30) (lvh := [.ref 3, .int x, .int y, .int w, .int v, .ref 10, aU]) tgL_isSeenThrough dL_isSeenThrough_9 (nx := 12) rfl lk_L_86 h3 (by decide) rfl rfl (Nat.le_of_ble_eq_true rfl) (Nat.le_of_ble_eq_true rfl) (Nat.le_of_ble_eq_true rfl) (Nat.le_of_ble_eq_true rfl) (Nat.le_of_ble_eq_true rfl) (Nat.le_of_ble_eq_true rfl) (Nat.le_of_ble_eq_true rfl) htb (by decide) hlvL_isSeenThrough htgL_isSeenThrough (hX _ _ (fun r S' I' L' R' h10 hk => ?_) (fun S' I' L' R' hk => ⟨26, rfl, ?_⟩) (fun S' I' L' R' hk => ⟨30, rfl, ?_⟩))
  · refine g_if_eq hx dL_isSeenThrough_12 (tg := 19) (by decide) (nx := 15) rfl (fun c12 => ?_) (fun c12 => ?_)
    · refine g_lconst hx dL_isSeenThrough_19 (nx := 20) rfl (v := 0) (by decide) ?_
      refine g_lastore hx dL_isSeenThrough_20 (nx := 21) rfl h10 (by decide) (vin (by decide)) ?_
      refine g_goto hx dL_isSeenThrough_21 (tg := 32) (by decide) ?_
      refine g_iconst hx dL_isSeenThrough_32 (nx := 33) rfl (v := 0) (by decide) ?_
      refine g_iret hx dL_isSeenThrough_33 rfl rfl (Nat.le_of_ble_eq_true rfl) (Nat.le_of_ble_eq_true rfl) ?_
      first | exact hk | (rw [if_pos c12] at hk; exact hk) | (rw [if_neg c12] at hk; exact hk)
    · refine g_lconst hx dL_isSeenThrough_15 (nx := 16) rfl (v := 1) (by decide) ?_
      refine g_goto hx dL_isSeenThrough_16 (tg := 20) (by decide) ?_
      refine g_lastore hx dL_isSeenThrough_20 (nx := 21) rfl h10 (by decide) (vin (by decide)) ?_
      refine g_goto hx dL_isSeenThrough_21 (tg := 32) (by decide) ?_
      refine g_iconst hx dL_isSeenThrough_32 (nx := 33) rfl (v := 0) (by decide) ?_
      refine g_iret hx dL_isSeenThrough_33 rfl rfl (Nat.le_of_ble_eq_true rfl) (Nat.le_of_ble_eq_true rfl) ?_
      first | exact hk | (rw [if_pos c12] at hk; exact hk) | (rw [if_neg c12] at hk; exact hk)
  · refine g_iconst hx dL_isSeenThrough_26 (nx := 27) rfl (v := 1) (by decide) ?_
    refine g_iret hx dL_isSeenThrough_27 rfl rfl (Nat.le_of_ble_eq_true rfl) (Nat.le_of_ble_eq_true rfl) ?_
    exact hk
  · refine g_iconst hx dL_isSeenThrough_30 (nx := 31) rfl (v := 2) (by decide) ?_
    refine g_iret hx dL_isSeenThrough_31 rfl rfl (Nat.le_of_ble_eq_true rfl) (Nat.le_of_ble_eq_true rfl) ?_
    exact hk
def tgL_ofClaim (X : String) : Option Nat := if X = eIO then some 15 else if X = eIA then some 19 else none
theorem htgL_ofClaim : ∀ X t, tgL_ofClaim X = some t → aHd RL cL_ofClaim (tableOf [(0, 10, 13, 25), (0, 10, 17, 13)]) 5 4 X t := by
  intro X t h
  unfold tgL_ofClaim at h
  split at h
  · rename_i e
    subst e
    cases h
    exact ⟨(tableOf [(0, 10, 13, 25), (0, 10, 17, 13)]).take 0, (tableOf [(0, 10, 13, 25), (0, 10, 17, 13)])[0], (tableOf [(0, 10, 13, 25), (0, 10, 17, 13)]).drop 1, _, rfl, (fun z hz => by cases hz), by decide, by decide, cl_L_25, ca_25, Or.inl ⟨dL_ofClaim_13, rfl⟩⟩
  · skip
    split at h
    · rename_i e
      subst e
      cases h
      exact ⟨(tableOf [(0, 10, 13, 25), (0, 10, 17, 13)]).take 1, (tableOf [(0, 10, 13, 25), (0, 10, 17, 13)])[1], (tableOf [(0, 10, 13, 25), (0, 10, 17, 13)]).drop 2, _, rfl, (fun z hz => by
          simp only [tableOf, List.map_cons, List.map_nil, List.take, List.mem_cons, List.not_mem_nil, or_false] at hz
          rcases hz with rfl
          · exact Or.inr ⟨by decide, _, cl_L_25, by decide +kernel⟩), by decide, by decide, cl_L_13, ca_13, Or.inl ⟨dL_ofClaim_17, rfl⟩⟩
    · cases h
theorem hlvL_ofClaim {x y : Int32} : aStu 4 [.ref 3, .int x, .int y, .ref 10, aU] [.ref 3, .int x, .int y, .ref 10, aU] := by
  intro i u h hk
  match i, h with
  | 0, h => cases h; exact ⟨by decide, rfl, fun _ z => by cases z⟩
  | 1, h => cases h; exact ⟨by decide, rfl, fun _ z => by cases z⟩
  | 2, h => cases h; exact ⟨by decide, rfl, fun _ z => by cases z⟩
  | 3, h => cases h; exact ⟨by decide, rfl, fun _ z => by cases z⟩
  | 4, h => cases h; cases hk
  | i + 5, h => simp at h
abbrev rmL_ofClaim : Room := { frames := 8, cells := 2, slots := 12, locals := 134 }
set_option maxHeartbeats 4000000 in
set_option maxRecDepth 100000 in
theorem s_L_ofClaim {l : Launch} {E : aE} {S : aS} {I : aI} {L : aL} {Rf : aR} {Kr : aK} (hst : l.stackTraces = false) {x y : Int32} (h3 : S 3 = some (.inr 3)) (h10 : S 10 = some (.inl (.long, 1))) (hX : ∀ (Kr' : aK) (Kx' : aX), (∀ (r : Int32) S' I' L' R', S' 10 = some (.inl (.long, 1)) → Kr (some (.int 0)) S' I' (au2 L' 10 0 r.toInt64) R' → Kr' (some (.int r)) S' I' L' R') → (∀ S' I' L' R', Kr (some (.int 1)) S' I' L' R' → Kx' eIO S' I' L' R') → (∀ S' I' L' R', Kr (some (.int 2)) S' I' L' R' → Kx' eIA S' I' L' R') → aMet l E yX3_ofClaim cX3_ofClaim 4 (some .int) rmX3_ofClaim [.ref 3, .int x, .int y] S I L Rf Kr' Kx') : aMetW l E yL_ofClaim cL_ofClaim 5 (some .int) [(0, 10, 13, 25), (0, 10, 17, 13)] rmL_ofClaim [.ref 3, .int x, .int y, .ref 10] S I L Rf Kr := by
  refine aMetW.of (lv0 := [.ref 3, .int x, .int y, .ref 10, aU]) (z := 1) (by decide +kernel) hst rfl (Nat.le_of_ble_eq_true rfl) ?_
  intro p e s m args below meth c io0 hx htb
  have hx : aCx p l s m args meth c RL cL_ofClaim 5 (some .int) E := hx
  refine g_aloadG_n hx dL_ofClaim_0 rfl (nx := 1) rfl rfl ?_
  refine g_iconst hx dL_ofClaim_1 (nx := 2) rfl (v := 0) (by decide) ?_
  refine g_aloadG_n hx dL_ofClaim_2 rfl (nx := 3) rfl rfl ?_
  refine g_iloadG_n hx dL_ofClaim_3 rfl (nx := 4) rfl rfl ?_
  refine g_iloadG_n hx dL_ofClaim_4 rfl (nx := 5) rfl rfl ?_
  refine g_callV_H hx [_, _] (k' := 2) (n' := 12) (lvh := [.ref 3, .int x, .int y, .ref 10, aU]) tgL_ofClaim dL_ofClaim_5 (nx := 8) rfl lk_L_90 h3 (by decide) rfl rfl (Nat.le_of_ble_eq_true rfl) (Nat.le_of_ble_eq_true rfl) (Nat.le_of_ble_eq_true rfl) (Nat.le_of_ble_eq_true rfl) (Nat.le_of_ble_eq_true rfl) (Nat.le_of_ble_eq_true rfl) (Nat.le_of_ble_eq_true rfl) htb (by decide) hlvL_ofClaim htgL_ofClaim (hX _ _ (fun r S' I' L' R' h10 hk => ?_) (fun S' I' L' R' hk => ⟨15, rfl, ?_⟩) (fun S' I' L' R' hk => ⟨19, rfl, ?_⟩))
  · refine g_i2l hx dL_ofClaim_8 (nx := 9) rfl ?_
    refine g_lastore hx dL_ofClaim_9 (nx := 10) rfl h10 (by decide) (vin (by decide)) ?_
    refine g_goto hx dL_ofClaim_10 (tg := 21) (by decide) ?_
    refine g_iconst hx dL_ofClaim_21 (nx := 22) rfl (v := 0) (by decide) ?_
    refine g_iret hx dL_ofClaim_22 rfl rfl (Nat.le_of_ble_eq_true rfl) (Nat.le_of_ble_eq_true rfl) ?_
    first | exact hk
  · refine g_iconst hx dL_ofClaim_15 (nx := 16) rfl (v := 1) (by decide) ?_
    refine g_iret hx dL_ofClaim_16 rfl rfl (Nat.le_of_ble_eq_true rfl) (Nat.le_of_ble_eq_true rfl) ?_
    exact hk
  · refine g_iconst hx dL_ofClaim_19 (nx := 20) rfl (v := 2) (by decide) ?_
    refine g_iret hx dL_ofClaim_20 rfl rfl (Nat.le_of_ble_eq_true rfl) (Nat.le_of_ble_eq_true rfl) ?_
    exact hk
def tgL_isSound (X : String) : Option Nat := if X = eIO then some 20 else none
theorem htgL_isSound : ∀ X t, tgL_isSound X = some t → aHd RL cL_isSound (tableOf [(0, 16, 19, 25)]) 4 3 X t := by
  intro X t h
  unfold tgL_isSound at h
  split at h
  · rename_i e
    subst e
    cases h
    exact ⟨(tableOf [(0, 16, 19, 25)]).take 0, (tableOf [(0, 16, 19, 25)])[0], (tableOf [(0, 16, 19, 25)]).drop 1, _, rfl, (fun z hz => by cases hz), by decide, by decide, cl_L_25, ca_25, Or.inr ⟨3, rfl, dL_isSound_19, rfl⟩⟩
  · cases h
theorem hlvL_isSound {x : Int32} : aStu 3 [.ref 3, .int x, .ref 10, aU] [.ref 3, .int x, .ref 10, aU] := by
  intro i u h hk
  match i, h with
  | 0, h => cases h; exact ⟨by decide, rfl, fun _ z => by cases z⟩
  | 1, h => cases h; exact ⟨by decide, rfl, fun _ z => by cases z⟩
  | 2, h => cases h; exact ⟨by decide, rfl, fun _ z => by cases z⟩
  | 3, h => cases h; cases hk
  | i + 4, h => simp at h
abbrev rmL_isSound : Room := { frames := 8, cells := 1, slots := 6, locals := 160 }
set_option maxHeartbeats 4000000 in
set_option maxRecDepth 100000 in
theorem s_L_isSound {l : Launch} {E : aE} {S : aS} {I : aI} {L : aL} {Rf : aR} {Kr : aK} (hst : l.stackTraces = false) {x : Int32} (h3 : S 3 = some (.inr 3)) (h10 : S 10 = some (.inl (.long, 1))) (hX : ∀ (Kr' : aK) (Kx' : aX), (∀ r S' I' L' R', S' 10 = some (.inl (.long, 1)) → Kr (some (.int 0)) S' I' (au2 L' 10 0 (if r = 0 then 0 else 1)) R' → Kr' (some (.int r)) S' I' L' R') → (∀ S' I' L' R', Kr (some (.int 1)) S' I' L' R' → Kx' eIO S' I' L' R') → aMet l E yX3_isSound cX3_isSound 2 (some .boolean) rmX3_isSound [.ref 3, .int x] S I L Rf Kr' Kx') : aMetW l E yL_isSound cL_isSound 4 (some .int) [(0, 16, 19, 25)] rmL_isSound [.ref 3, .int x, .ref 10] S I L Rf Kr := by
  refine aMetW.of (lv0 := [.ref 3, .int x, .ref 10, aU]) (z := 1) (by decide +kernel) hst rfl (Nat.le_of_ble_eq_true rfl) ?_
  intro p e s m args below meth c io0 hx htb
  have hx : aCx p l s m args meth c RL cL_isSound 4 (some .int) E := hx
  refine g_aloadG_n hx dL_isSound_0 rfl (nx := 1) rfl rfl ?_
  refine g_iconst hx dL_isSound_1 (nx := 2) rfl (v := 0) (by decide) ?_
  refine g_aloadG_n hx dL_isSound_2 rfl (nx := 3) rfl rfl ?_
  refine g_iloadG_n hx dL_isSound_3 rfl (nx := 4) rfl rfl ?_
  refine g_callV_H hx [_] (k' := 1) (n' := 6) (lvh := [.ref 3, .int x, .ref 10, aU]) tgL_isSound dL_isSound_4 (nx := 7) rfl lk_L_93 h3 (by decide) rfl rfl (Nat.le_of_ble_eq_true rfl) (Nat.le_of_ble_eq_true rfl) (Nat.le_of_ble_eq_true rfl) (Nat.le_of_ble_eq_true rfl) (Nat.le_of_ble_eq_true rfl) (Nat.le_of_ble_eq_true rfl) (Nat.le_of_ble_eq_true rfl) htb (by decide) hlvL_isSound htgL_isSound (hX _ _ (fun r S' I' L' R' h10 hk => ?_) (fun S' I' L' R' hk => ⟨20, rfl, ?_⟩))
  · refine g_if_eq hx dL_isSound_7 (tg := 14) (by decide) (nx := 10) rfl (fun c7 => ?_) (fun c7 => ?_)
    · refine g_lconst hx dL_isSound_14 (nx := 15) rfl (v := 0) (by decide) ?_
      refine g_lastore hx dL_isSound_15 (nx := 16) rfl h10 (by decide) (vin (by decide)) ?_
      refine g_goto hx dL_isSound_16 (tg := 22) (by decide) ?_
      refine g_iconst hx dL_isSound_22 (nx := 23) rfl (v := 0) (by decide) ?_
      refine g_iret hx dL_isSound_23 rfl rfl (Nat.le_of_ble_eq_true rfl) (Nat.le_of_ble_eq_true rfl) ?_
      first | exact hk | (rw [if_pos c7] at hk; exact hk) | (rw [if_neg c7] at hk; exact hk)
    · refine g_lconst hx dL_isSound_10 (nx := 11) rfl (v := 1) (by decide) ?_
      refine g_goto hx dL_isSound_11 (tg := 15) (by decide) ?_
      refine g_lastore hx dL_isSound_15 (nx := 16) rfl h10 (by decide) (vin (by decide)) ?_
      refine g_goto hx dL_isSound_16 (tg := 22) (by decide) ?_
      refine g_iconst hx dL_isSound_22 (nx := 23) rfl (v := 0) (by decide) ?_
      refine g_iret hx dL_isSound_23 rfl rfl (Nat.le_of_ble_eq_true rfl) (Nat.le_of_ble_eq_true rfl) ?_
      first | exact hk | (rw [if_pos c7] at hk; exact hk) | (rw [if_neg c7] at hk; exact hk)
  · refine g_iconst hx dL_isSound_20 (nx := 21) rfl (v := 1) (by decide) ?_
    refine g_iret hx dL_isSound_21 rfl rfl (Nat.le_of_ble_eq_true rfl) (Nat.le_of_ble_eq_true rfl) ?_
    exact hk
