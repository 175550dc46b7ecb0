/-! the law: what is drawn, what is asked -/
section AR2
variable {p : Program} {l : Launch} {e : Env} {R : Room} {s : State} {m : MethodId} {args : Array Value} {below : List Frame} {meth : Method} {c : Code} {E : aE} {io0 : aM} {S0 : aS} {nL : Nat} {Q : State → Prop}
variable {own : String} {cc : ByteArray} {ret : Option FieldType} {pc nx : Nat} {lv st : List Value} {S : aS} {I : aI} {L : aL} {Rf : aR} {k n : Nat}
theorem g_and31 (hx : aCx p l s m args meth c own cc nL ret E) {x : Int32} (d : decode cc pc = .ok (.iand, 1)) (hn : pc + 1 = nx) (kk : ∀ v, v < 2 ^ 31 → aG p l e R s m args below meth c E io0 S0 nL Q nx lv (.int (nI v) :: st) S I L Rf k n) : aG p l e R s m args below meth c E io0 S0 nL Q pc lv (.int (nI 2147483647) :: .int x :: st) S I L Rf k n := by
  obtain ⟨v, hv, e9⟩ := pk_andE x (m := nI 2147483647) 31 (by decide)
  refine g_iand hx d hn ?_
  rw [e9]
  exact kk v hv
end AR2
abbrev rmL_draw : Room := { frames := 0, cells := 0, slots := 0, locals := 0 }
set_option maxHeartbeats 4000000 in
set_option maxRecDepth 100000 in
theorem s_L_draw {l : Launch} {E : aE} {S : aS} {I : aI} {L : aL} {Rf : aR} {Kr : aK} {Kx : aX} (hst : l.stackTraces = false) {a mm : Nat} (ha : a < 100000) (hm0 : 0 < mm) (hm : mm < 2 ^ 31) (hN : aSn E < 2 ^ 31) (hk : ∀ v, v < mm → Kr (some (.int (nI v))) S I L Rf) : aMet l E yL_draw cL_draw 4 (some .int) rmL_draw [.ref 1, .int (nI a), .int (nI mm)] S I L Rf Kr Kx := by
  refine aMet.of (lv0 := [.ref 1, .int (nI a), .int (nI mm), aU]) (z := 1) (by decide +kernel) hst rfl (Nat.le_of_ble_eq_true rfl) ?_
  intro p e s m args below meth c io0 hx hin hno
  have hx : aCx p l s m args meth c RL cL_draw 4 (some .int) E := hx
  refine g_iloadG_n hx dL_draw_0 rfl (nx := 1) rfl rfl ?_
  refine g_aloadG_n hx dL_draw_1 rfl (nx := 2) rfl rfl ?_
  refine g_slen hx dL_draw_2 (nx := 3) rfl ?_
  refine g_icmp_geN hx dL_draw_3 (tg := 12) (by decide) (nx := 6) rfl (by omega) (by omega) (fun c3 => ?_) (fun c3 => ?_)
  · refine g_ldc hx dL_draw_12 (nx := 14) rfl (v := nI 1070327761) kc_L_7 ?_
    refine g_iloadG_n hx dL_draw_14 rfl (nx := 15) rfl rfl ?_
    refine g_sipush hx dL_draw_15 (nx := 18) rfl (v := nI 1091) (by decide) ?_
    refine g_iaddN hx dL_draw_18 (nx := 19) rfl  ?_
    refine g_imulN hx dL_draw_19 (nx := 20) rfl  ?_
    refine g_ldc hx dL_draw_20 (nx := 22) rfl (v := nI 799519197) kc_L_8 ?_
    refine g_iaddN hx dL_draw_22 (nx := 23) rfl  ?_
    refine g_istore_3 hx dL_draw_23 (nx := 24) rfl (by decide) rfl ?_
    refine g_iloadG_n hx dL_draw_24 rfl (nx := 25) rfl rfl ?_
    refine g_ldc hx dL_draw_25 (nx := 27) rfl (v := nI 2147483647) kc_L_9 ?_
    refine g_and31 hx dL_draw_27 (nx := 28) rfl (fun v hv => ?_)
    refine g_iloadG_n hx dL_draw_28 rfl (nx := 29) rfl rfl ?_
    refine g_iremN hx dL_draw_29 (nx := 30) rfl (by omega) (by omega) (by omega) ?_
    refine g_iret hx dL_draw_30 rfl (by first | rfl | decide) (Nat.le_of_ble_eq_true rfl) (Nat.le_of_ble_eq_true rfl) ?_
    exact hk _ (Nat.mod_lt _ hm0)
  · refine g_aloadG_n hx dL_draw_6 rfl (nx := 7) rfl rfl ?_
    refine g_iloadG_n hx dL_draw_7 rfl (nx := 8) rfl rfl ?_
    refine g_scr hx dL_draw_8 (nx := 9) rfl (vp_in_nI c3 hN) ?_
    refine g_goto hx dL_draw_9 (tg := 23) (by decide) ?_
    refine g_istore_3 hx dL_draw_23 (nx := 24) rfl (by decide) rfl ?_
    refine g_iloadG_n hx dL_draw_24 rfl (nx := 25) rfl rfl ?_
    refine g_ldc hx dL_draw_25 (nx := 27) rfl (v := nI 2147483647) kc_L_9 ?_
    refine g_and31 hx dL_draw_27 (nx := 28) rfl (fun v hv => ?_)
    refine g_iloadG_n hx dL_draw_28 rfl (nx := 29) rfl rfl ?_
    refine g_iremN hx dL_draw_29 (nx := 30) rfl (by omega) (by omega) (by omega) ?_
    refine g_iret hx dL_draw_30 rfl (by first | rfl | decide) (Nat.le_of_ble_eq_true rfl) (Nat.le_of_ble_eq_true rfl) ?_
    exact hk _ (Nat.mod_lt _ hm0)

set_option maxRecDepth 100000 in
set_option maxHeartbeats 4000000 in
theorem cl_L_42 : Cond.classLink RL 42 "java/lang/IndexOutOfBoundsException" ∈ aBIG := (abm 341 rfl rfl)
set_option maxRecDepth 100000 in
set_option maxHeartbeats 4000000 in
theorem ca_42 : Cond.castable "java/lang/IndexOutOfBoundsException" "java/lang/IndexOutOfBoundsException" ∈ lw_tbl := (List.mem_of_getElem? (i := 312) rfl)
set_option maxRecDepth 100000 in
set_option maxHeartbeats 4000000 in
theorem cl_L_46 : Cond.classLink RL 46 "java/lang/IllegalArgumentException" ∈ aBIG := (abm 342 rfl rfl)
set_option maxRecDepth 100000 in
set_option maxHeartbeats 4000000 in
theorem ca_46 : Cond.castable "java/lang/IllegalArgumentException" "java/lang/IllegalArgumentException" ∈ lw_tbl := (List.mem_of_getElem? (i := 190) rfl)
set_option maxRecDepth 100000 in
set_option maxHeartbeats 4000000 in
theorem cl_L_50 : Cond.classLink RL 50 "java/lang/IllegalStateException" ∈ aBIG := (abm 343 rfl rfl)
set_option maxRecDepth 100000 in
set_option maxHeartbeats 4000000 in
theorem ca_50 : Cond.castable "java/lang/IllegalStateException" "java/lang/IllegalStateException" ∈ lw_tbl := (List.mem_of_getElem? (i := 258) rfl)
def tgA (X : String) : Option Nat := if X = eIO then some 131 else if X = eIA then some 137 else if X = eIS then some 143 else none
theorem htgA_7 : ∀ X t, tgA X = some t → aHd RL cL_asks (tableOf [(0, 128, 129, 42), (0, 128, 135, 46), (0, 128, 141, 50)]) 7 5 X t := by
  intro X t h
  unfold tgA at h
  split at h
  · rename_i e
    subst e
    cases h
    exact ⟨(tableOf [(0, 128, 129, 42), (0, 128, 135, 46), (0, 128, 141, 50)]).take 0, (tableOf [(0, 128, 129, 42), (0, 128, 135, 46), (0, 128, 141, 50)])[0], (tableOf [(0, 128, 129, 42), (0, 128, 135, 46), (0, 128, 141, 50)]).drop 1, _, rfl, (fun z hz => by cases hz), by decide, by decide, cl_L_42, ca_42, Or.inl ⟨dL_asks_129, rfl⟩⟩
  · skip
    split at h
    · rename_i e
      subst e
      cases h
      exact ⟨(tableOf [(0, 128, 129, 42), (0, 128, 135, 46), (0, 128, 141, 50)]).take 1, (tableOf [(0, 128, 129, 42), (0, 128, 135, 46), (0, 128, 141, 50)])[1], (tableOf [(0, 128, 129, 42), (0, 128, 135, 46), (0, 128, 141, 50)]).drop 2, _, rfl, (fun z hz => by
          simp only [tableOf, List.map_cons, List.map_nil, List.take, List.mem_cons, List.not_mem_nil, or_false] at hz
          rcases hz with rfl
          · exact Or.inr ⟨by decide, _, cl_L_42, by decide +kernel⟩), by decide, by decide, cl_L_46, ca_46, Or.inl ⟨dL_asks_135, rfl⟩⟩
    · skip
      split at h
      · rename_i e
        subst e
        cases h
        exact ⟨(tableOf [(0, 128, 129, 42), (0, 128, 135, 46), (0, 128, 141, 50)]).take 2, (tableOf [(0, 128, 129, 42), (0, 128, 135, 46), (0, 128, 141, 50)])[2], (tableOf [(0, 128, 129, 42), (0, 128, 135, 46), (0, 128, 141, 50)]).drop 3, _, rfl, (fun z hz => by
            simp only [tableOf, List.map_cons, List.map_nil, List.take, List.mem_cons, List.not_mem_nil, or_false] at hz
            rcases hz with rfl | rfl
            · exact Or.inr ⟨by decide, _, cl_L_42, by decide +kernel⟩
            · exact Or.inr ⟨by decide, _, cl_L_46, by decide +kernel⟩), by decide, by decide, cl_L_50, ca_50, Or.inl ⟨dL_asks_141, rfl⟩⟩
      · cases h
theorem hlvA_0 {x y z : Int32} : aStu 5 [.ref 3, .int (nI 0), .int x, .int y, .int z, aU] [.ref 3, .int (nI 0), .int x, .int y, .int z, aU] := by
  intro i u h hk
  match i, h with
  | 0, h => cases h; exact ⟨by decide, rfl, fun _ z => by cases z⟩
  | 1, h => cases h; exact ⟨by decide, rfl, fun _ z => by cases z⟩
  | 2, h => cases h; exact ⟨by decide, rfl, fun _ z => by cases z⟩
  | 3, h => cases h; exact ⟨by decide, rfl, fun _ z => by cases z⟩
  | 4, h => cases h; exact ⟨by decide, rfl, fun _ z => by cases z⟩
  | 5, h => cases h; cases hk
  | i + 6, h => simp at h
abbrev rmL_asks : Room := { frames := 8, cells := 7, slots := 45, locals := 167 }
set_option maxHeartbeats 4000000 in
set_option maxRecDepth 100000 in
theorem s_L_asks0 {l : Launch} {E : aE} {S : aS} {I : aI} {L : aL} {Rf : aR} {Kr : aK} (hst : l.stackTraces = false) {x y z : Int32} (h3 : S 3 = some (.inr 3)) (hX : ∀ (Kr' : aK) (Kx' : aX), (∀ (r : Int32) S' I' L' R', Kr (some (.long r.toInt64)) S' I' L' R' → Kr' (some (.int r)) S' I' L' R') → (∀ S' I' L' R', Kr (some (.long (-70007))) S' I' L' R' → Kx' eIO S' I' L' R') → (∀ S' I' L' R', Kr (some (.long (-70009))) S' I' L' R' → Kx' eIA S' I' L' R') → (∀ S' I' L' R', Kr (some (.long (-70008))) S' I' L' R' → Kx' eIS S' I' L' R') → aMet l E yX3_drop cX3_drop 5 (some .int) rmX3_drop [.ref 3, .int x, .int y] S I L Rf Kr' Kx') : aMetW l E yL_asks cL_asks 6 (some .long) [(0, 128, 129, 42), (0, 128, 135, 46), (0, 128, 141, 50)] rmL_asks [.ref 3, .int (nI 0), .int x, .int y, .int z] S I L Rf Kr := by
  refine aMetW.of (lv0 := [.ref 3, .int (nI 0), .int x, .int y, .int z, aU]) (z := 1) (by decide +kernel) hst rfl (Nat.le_of_ble_eq_true rfl) ?_
  intro p e s m args below meth c io0 hx htb
  have hx : aCx p l s m args meth c RL cL_asks 6 (some .long) E := hx
  refine g_iloadG_n hx dL_asks_0 rfl (nx := 1) rfl rfl ?_
  refine g_if_neN hx dL_asks_1 (tg := 14) (by decide) (nx := 4) rfl (by omega) (fun c1 => ?_) (fun c1 => ?_)
  · exact absurd c1 (by decide)
  · refine g_aloadG_n hx dL_asks_4 rfl (nx := 5) rfl rfl ?_
    refine g_iloadG_n hx dL_asks_5 rfl (nx := 6) rfl rfl ?_
    refine g_iloadG_n hx dL_asks_6 rfl (nx := 7) rfl rfl ?_
    refine g_callV_H hx [_, _] (k' := 3) (n' := 18) (lvh := [.ref 3, .int (nI 0), .int x, .int y, .int z, aU]) tgA dL_asks_7 (nx := 10) rfl lk_L_10 h3 (by decide) rfl rfl (Nat.le_of_ble_eq_true rfl) (Nat.le_of_ble_eq_true rfl) (Nat.le_of_ble_eq_true rfl) (Nat.le_of_ble_eq_true rfl) (Nat.le_of_ble_eq_true rfl) (Nat.le_of_ble_eq_true rfl) (Nat.le_of_ble_eq_true rfl) htb (by decide) hlvA_0 htgA_7 (hX _ _ (fun r S' I' L' R' hk => ?_) (fun S' I' L' R' hk => ⟨131, rfl, ?_⟩) (fun S' I' L' R' hk => ⟨137, rfl, ?_⟩) (fun S' I' L' R' hk => ⟨143, rfl, ?_⟩))
    · refine g_i2l hx dL_asks_10 (nx := 11) rfl ?_
      refine g_goto hx dL_asks_11 (tg := 128) (by decide) ?_
      refine g_lret hx dL_asks_128 rfl (Nat.le_of_ble_eq_true rfl) (Nat.le_of_ble_eq_true rfl) ?_
      exact hk
    · refine g_ldc2 hx dL_asks_131 (nx := 134) rfl kl_L_44 ?_
      refine g_lret hx dL_asks_134 rfl (Nat.le_of_ble_eq_true rfl) (Nat.le_of_ble_eq_true rfl) ?_
      exact hk
    · refine g_ldc2 hx dL_asks_137 (nx := 140) rfl kl_L_48 ?_
      refine g_lret hx dL_asks_140 rfl (Nat.le_of_ble_eq_true rfl) (Nat.le_of_ble_eq_true rfl) ?_
      exact hk
    · refine g_ldc2 hx dL_asks_143 (nx := 146) rfl kl_L_52 ?_
      refine g_lret hx dL_asks_146 rfl (Nat.le_of_ble_eq_true rfl) (Nat.le_of_ble_eq_true rfl) ?_
      exact hk

theorem htgA_22 : ∀ X t, tgA X = some t → aHd RL cL_asks (tableOf [(0, 128, 129, 42), (0, 128, 135, 46), (0, 128, 141, 50)]) 22 5 X t := by
  intro X t h
  unfold tgA at h
  split at h
  · rename_i e
    subst e
    cases h
    exact ⟨(tableOf [(0, 128, 129, 42), (0, 128, 135, 46), (0, 128, 141, 50)]).take 0, (tableOf [(0, 128, 129, 42), (0, 128, 135, 46), (0, 128, 141, 50)])[0], (tableOf [(0, 128, 129, 42), (0, 128, 135, 46), (0, 128, 141, 50)]).drop 1, _, rfl, (fun z hz => by cases hz), by decide, by decide, cl_L_42, ca_42, Or.inl ⟨dL_asks_129, rfl⟩⟩
  · skip
    split at h
    · rename_i e
      subst e
      cases h
      exact ⟨(tableOf [(0, 128, 129, 42), (0, 128, 135, 46), (0, 128, 141, 50)]).take 1, (tableOf [(0, 128, 129, 42), (0, 128, 135, 46), (0, 128, 141, 50)])[1], (tableOf [(0, 128, 129, 42), (0, 128, 135, 46), (0, 128, 141, 50)]).drop 2, _, rfl, (fun z hz => by
          simp only [tableOf, List.map_cons, List.map_nil, List.take, List.mem_cons, List.not_mem_nil, or_false] at hz
          rcases hz with rfl
          · exact Or.inr ⟨by decide, _, cl_L_42, by decide +kernel⟩), by decide, by decide, cl_L_46, ca_46, Or.inl ⟨dL_asks_135, rfl⟩⟩
    · skip
      split at h
      · rename_i e
        subst e
        cases h
        exact ⟨(tableOf [(0, 128, 129, 42), (0, 128, 135, 46), (0, 128, 141, 50)]).take 2, (tableOf [(0, 128, 129, 42), (0, 128, 135, 46), (0, 128, 141, 50)])[2], (tableOf [(0, 128, 129, 42), (0, 128, 135, 46), (0, 128, 141, 50)]).drop 3, _, rfl, (fun z hz => by
            simp only [tableOf, List.map_cons, List.map_nil, List.take, List.mem_cons, List.not_mem_nil, or_false] at hz
            rcases hz with rfl | rfl
            · exact Or.inr ⟨by decide, _, cl_L_42, by decide +kernel⟩
            · exact Or.inr ⟨by decide, _, cl_L_46, by decide +kernel⟩), by decide, by decide, cl_L_50, ca_50, Or.inl ⟨dL_asks_141, rfl⟩⟩
      · cases h
theorem hlvA_1 {x y z : Int32} : aStu 5 [.ref 3, .int (nI 1), .int x, .int y, .int z, aU] [.ref 3, .int (nI 1), .int x, .int y, .int z, aU] := by
  intro i u h hk
  match i, h with
  | 0, h => cases h; exact ⟨by decide, rfl, fun _ z => by cases z⟩
  | 1, h => cases h; exact ⟨by decide, rfl, fun _ z => by cases z⟩
  | 2, h => cases h; exact ⟨by decide, rfl, fun _ z => by cases z⟩
  | 3, h => cases h; exact ⟨by decide, rfl, fun _ z => by cases z⟩
  | 4, h => cases h; exact ⟨by decide, rfl, fun _ z => by cases z⟩
  | 5, h => cases h; cases hk
  | i + 6, h => simp at h
set_option maxHeartbeats 4000000 in
set_option maxRecDepth 100000 in
theorem s_L_asks1 {l : Launch} {E : aE} {S : aS} {I : aI} {L : aL} {Rf : aR} {Kr : aK} (hst : l.stackTraces = false) {x y z : Int32} (h3 : S 3 = some (.inr 3)) (hX : ∀ (Kr' : aK) (Kx' : aX), (∀ (r : Int32) S' I' L' R', Kr (some (.long r.toInt64)) S' I' L' R' → Kr' (some (.int r)) S' I' L' R') → (∀ S' I' L' R', Kr (some (.long (-70007))) S' I' L' R' → Kx' eIO S' I' L' R') → (∀ S' I' L' R', Kr (some (.long (-70009))) S' I' L' R' → Kx' eIA S' I' L' R') → (∀ S' I' L' R', Kr (some (.long (-70008))) S' I' L' R' → Kx' eIS S' I' L' R') → aMet l E yX3_takeOut cX3_takeOut 4 (some .int) rmX3_takeOut [.ref 3, .int x, .int y] S I L Rf Kr' Kx') : aMetW l E yL_asks cL_asks 6 (some .long) [(0, 128, 129, 42), (0, 128, 135, 46), (0, 128, 141, 50)] rmL_asks [.ref 3, .int (nI 1), .int x, .int y, .int z] S I L Rf Kr := by
  refine aMetW.of (lv0 := [.ref 3, .int (nI 1), .int x, .int y, .int z, aU]) (z := 1) (by decide +kernel) hst rfl (Nat.le_of_ble_eq_true rfl) ?_
  intro p e s m args below meth c io0 hx htb
  have hx : aCx p l s m args meth c RL cL_asks 6 (some .long) E := hx
  refine g_iloadG_n hx dL_asks_0 rfl (nx := 1) rfl rfl ?_
  refine g_if_neN hx dL_asks_1 (tg := 14) (by decide) (nx := 4) rfl (by omega) (fun c1 => ?_) (fun c1 => ?_)
  · refine g_iloadG_n hx dL_asks_14 rfl (nx := 15) rfl rfl ?_
    refine g_iconst hx dL_asks_15 (nx := 16) rfl (v := nI 1) (by decide) ?_
    refine g_icmp_neN hx dL_asks_16 (tg := 29) (by decide) (nx := 19) rfl (by omega) (by omega) (fun c16 => ?_) (fun c16 => ?_)
    · exact absurd c16 (by decide)
    · refine g_aloadG_n hx dL_asks_19 rfl (nx := 20) rfl rfl ?_
      refine g_iloadG_n hx dL_asks_20 rfl (nx := 21) rfl rfl ?_
      refine g_iloadG_n hx dL_asks_21 rfl (nx := 22) rfl rfl ?_
      refine g_callV_H hx [_, _] (k' := 3) (n' := 18) (lvh := [.ref 3, .int (nI 1), .int x, .int y, .int z, aU]) tgA dL_asks_22 (nx := 25) rfl lk_L_16 h3 (by decide) rfl rfl (Nat.le_of_ble_eq_true rfl) (Nat.le_of_ble_eq_true rfl) (Nat.le_of_ble_eq_true rfl) (Nat.le_of_ble_eq_true rfl) (Nat.le_of_ble_eq_true rfl) (Nat.le_of_ble_eq_true rfl) (Nat.le_of_ble_eq_true rfl) htb (by decide) hlvA_1 htgA_22 (hX _ _ (fun r S' I' L' R' hk => ?_) (fun S' I' L' R' hk => ⟨131, rfl, ?_⟩) (fun S' I' L' R' hk => ⟨137, rfl, ?_⟩) (fun S' I' L' R' hk => ⟨143, rfl, ?_⟩))
      · refine g_i2l hx dL_asks_25 (nx := 26) rfl ?_
        refine g_goto hx dL_asks_26 (tg := 128) (by decide) ?_
        refine g_lret hx dL_asks_128 rfl (Nat.le_of_ble_eq_true rfl) (Nat.le_of_ble_eq_true rfl) ?_
        exact hk
      · refine g_ldc2 hx dL_asks_131 (nx := 134) rfl kl_L_44 ?_
        refine g_lret hx dL_asks_134 rfl (Nat.le_of_ble_eq_true rfl) (Nat.le_of_ble_eq_true rfl) ?_
        exact hk
      · refine g_ldc2 hx dL_asks_137 (nx := 140) rfl kl_L_48 ?_
        refine g_lret hx dL_asks_140 rfl (Nat.le_of_ble_eq_true rfl) (Nat.le_of_ble_eq_true rfl) ?_
        exact hk
      · refine g_ldc2 hx dL_asks_143 (nx := 146) rfl kl_L_52 ?_
        refine g_lret hx dL_asks_146 rfl (Nat.le_of_ble_eq_true rfl) (Nat.le_of_ble_eq_true rfl) ?_
        exact hk
  · exact absurd c1 (by decide)

theorem htgA_39 : ∀ X t, tgA X = some t → aHd RL cL_asks (tableOf [(0, 128, 129, 42), (0, 128, 135, 46), (0, 128, 141, 50)]) 39 5 X t := by
  intro X t h
  unfold tgA at h
  split at h
  · rename_i e
    subst e
    cases h
    exact ⟨(tableOf [(0, 128, 129, 42), (0, 128, 135, 46), (0, 128, 141, 50)]).take 0, (tableOf [(0, 128, 129, 42), (0, 128, 135, 46), (0, 128, 141, 50)])[0], (tableOf [(0, 128, 129, 42), (0, 128, 135, 46), (0, 128, 141, 50)]).drop 1, _, rfl, (fun z hz => by cases hz), by decide, by decide, cl_L_42, ca_42, Or.inl ⟨dL_asks_129, rfl⟩⟩
  · skip
    split at h
    · rename_i e
      subst e
      cases h
      exact ⟨(tableOf [(0, 128, 129, 42), (0, 128, 135, 46), (0, 128, 141, 50)]).take 1, (tableOf [(0, 128, 129, 42), (0, 128, 135, 46), (0, 128, 141, 50)])[1], (tableOf [(0, 128, 129, 42), (0, 128, 135, 46), (0, 128, 141, 50)]).drop 2, _, rfl, (fun z hz => by
          simp only [tableOf, List.map_cons, List.map_nil, List.take, List.mem_cons, List.not_mem_nil, or_false] at hz
          rcases hz with rfl
          · exact Or.inr ⟨by decide, _, cl_L_42, by decide +kernel⟩), by decide, by decide, cl_L_46, ca_46, Or.inl ⟨dL_asks_135, rfl⟩⟩
    · skip
      split at h
      · rename_i e
        subst e
        cases h
        exact ⟨(tableOf [(0, 128, 129, 42), (0, 128, 135, 46), (0, 128, 141, 50)]).take 2, (tableOf [(0, 128, 129, 42), (0, 128, 135, 46), (0, 128, 141, 50)])[2], (tableOf [(0, 128, 129, 42), (0, 128, 135, 46), (0, 128, 141, 50)]).drop 3, _, rfl, (fun z hz => by
            simp only [tableOf, List.map_cons, List.map_nil, List.take, List.mem_cons, List.not_mem_nil, or_false] at hz
            rcases hz with rfl | rfl
            · exact Or.inr ⟨by decide, _, cl_L_42, by decide +kernel⟩
            · exact Or.inr ⟨by decide, _, cl_L_46, by decide +kernel⟩), by decide, by decide, cl_L_50, ca_50, Or.inl ⟨dL_asks_141, rfl⟩⟩
      · cases h
theorem hlvA_2 {x y z : Int32} : aStu 5 [.ref 3, .int (nI 2), .int x, .int y, .int z, aU] [.ref 3, .int (nI 2), .int x, .int y, .int z, aU] := by
  intro i u h hk
  match i, h with
  | 0, h => cases h; exact ⟨by decide, rfl, fun _ z => by cases z⟩
  | 1, h => cases h; exact ⟨by decide, rfl, fun _ z => by cases z⟩
  | 2, h => cases h; exact ⟨by decide, rfl, fun _ z => by cases z⟩
  | 3, h => cases h; exact ⟨by decide, rfl, fun _ z => by cases z⟩
  | 4, h => cases h; exact ⟨by decide, rfl, fun _ z => by cases z⟩
  | 5, h => cases h; cases hk
  | i + 6, h => simp at h
set_option maxHeartbeats 4000000 in
set_option maxRecDepth 100000 in
theorem s_L_asks2 {l : Launch} {E : aE} {S : aS} {I : aI} {L : aL} {Rf : aR} {Kr : aK} (hst : l.stackTraces = false) {x y z : Int32} (h3 : S 3 = some (.inr 3)) (hX : ∀ (Kr' : aK) (Kx' : aX), (∀ (r : Int32) S' I' L' R', Kr (some (.long r.toInt64)) S' I' L' R' → Kr' (some (.int r)) S' I' L' R') → (∀ S' I' L' R', Kr (some (.long (-70007))) S' I' L' R' → Kx' eIO S' I' L' R') → (∀ S' I' L' R', Kr (some (.long (-70009))) S' I' L' R' → Kx' eIA S' I' L' R') → (∀ S' I' L' R', Kr (some (.long (-70008))) S' I' L' R' → Kx' eIS S' I' L' R') → aMet l E yX3_claimTone cX3_claimTone 6 (some .int) rmX3_claimTone [.ref 3, .int x, .int y, .int z] S I L Rf Kr' Kx') : aMetW l E yL_asks cL_asks 6 (some .long) [(0, 128, 129, 42), (0, 128, 135, 46), (0, 128, 141, 50)] rmL_asks [.ref 3, .int (nI 2), .int x, .int y, .int z] S I L Rf Kr := by
  refine aMetW.of (lv0 := [.ref 3, .int (nI 2), .int x, .int y, .int z, aU]) (z := 1) (by decide +kernel) hst rfl (Nat.le_of_ble_eq_true rfl) ?_
  intro p e s m args below meth c io0 hx htb
  have hx : aCx p l s m args meth c RL cL_asks 6 (some .long) E := hx
  refine g_iloadG_n hx dL_asks_0 rfl (nx := 1) rfl rfl ?_
  refine g_if_neN hx dL_asks_1 (tg := 14) (by decide) (nx := 4) rfl (by omega) (fun c1 => ?_) (fun c1 => ?_)
  · refine g_iloadG_n hx dL_asks_14 rfl (nx := 15) rfl rfl ?_
    refine g_iconst hx dL_asks_15 (nx := 16) rfl (v := nI 1) (by decide) ?_
    refine g_icmp_neN hx dL_asks_16 (tg := 29) (by decide) (nx := 19) rfl (by omega) (by omega) (fun c16 => ?_) (fun c16 => ?_)
    · refine g_iloadG_n hx dL_asks_29 rfl (nx := 30) rfl rfl ?_
      refine g_iconst hx dL_asks_30 (nx := 31) rfl (v := nI 2) (by decide) ?_
      refine g_icmp_neN hx dL_asks_31 (tg := 46) (by decide) (nx := 34) rfl (by omega) (by omega) (fun c31 => ?_) (fun c31 => ?_)
      · exact absurd c31 (by decide)
      · refine g_aloadG_n hx dL_asks_34 rfl (nx := 35) rfl rfl ?_
        refine g_iloadG_n hx dL_asks_35 rfl (nx := 36) rfl rfl ?_
        refine g_iloadG_n hx dL_asks_36 rfl (nx := 37) rfl rfl ?_
        refine g_iloadG hx dL_asks_37 (nx := 39) rfl rfl ?_
        refine g_callV_H hx [_, _, _] (k' := 5) (n' := 33) (lvh := [.ref 3, .int (nI 2), .int x, .int y, .int z, aU]) tgA dL_asks_39 (nx := 42) rfl lk_L_19 h3 (by decide) rfl rfl (Nat.le_of_ble_eq_true rfl) (Nat.le_of_ble_eq_true rfl) (Nat.le_of_ble_eq_true rfl) (Nat.le_of_ble_eq_true rfl) (Nat.le_of_ble_eq_true rfl) (Nat.le_of_ble_eq_true rfl) (Nat.le_of_ble_eq_true rfl) htb (by decide) hlvA_2 htgA_39 (hX _ _ (fun r S' I' L' R' hk => ?_) (fun S' I' L' R' hk => ⟨131, rfl, ?_⟩) (fun S' I' L' R' hk => ⟨137, rfl, ?_⟩) (fun S' I' L' R' hk => ⟨143, rfl, ?_⟩))
        · refine g_i2l hx dL_asks_42 (nx := 43) rfl ?_
          refine g_goto hx dL_asks_43 (tg := 128) (by decide) ?_
          refine g_lret hx dL_asks_128 rfl (Nat.le_of_ble_eq_true rfl) (Nat.le_of_ble_eq_true rfl) ?_
          exact hk
        · refine g_ldc2 hx dL_asks_131 (nx := 134) rfl kl_L_44 ?_
          refine g_lret hx dL_asks_134 rfl (Nat.le_of_ble_eq_true rfl) (Nat.le_of_ble_eq_true rfl) ?_
          exact hk
        · refine g_ldc2 hx dL_asks_137 (nx := 140) rfl kl_L_48 ?_
          refine g_lret hx dL_asks_140 rfl (Nat.le_of_ble_eq_true rfl) (Nat.le_of_ble_eq_true rfl) ?_
          exact hk
        · refine g_ldc2 hx dL_asks_143 (nx := 146) rfl kl_L_52 ?_
          refine g_lret hx dL_asks_146 rfl (Nat.le_of_ble_eq_true rfl) (Nat.le_of_ble_eq_true rfl) ?_
          exact hk
    · exact absurd c16 (by decide)
  · exact absurd c1 (by decide)

theorem htgA_54 : ∀ X t, tgA X = some t → aHd RL cL_asks (tableOf [(0, 128, 129, 42), (0, 128, 135, 46), (0, 128, 141, 50)]) 54 5 X t := by
  intro X t h
  unfold tgA at h
  split at h
  · rename_i e
    subst e
    cases h
    exact ⟨(tableOf [(0, 128, 129, 42), (0, 128, 135, 46), (0, 128, 141, 50)]).take 0, (tableOf [(0, 128, 129, 42), (0, 128, 135, 46), (0, 128, 141, 50)])[0], (tableOf [(0, 128, 129, 42), (0, 128, 135, 46), (0, 128, 141, 50)]).drop 1, _, rfl, (fun z hz => by cases hz), by decide, by decide, cl_L_42, ca_42, Or.inl ⟨dL_asks_129, rfl⟩⟩
  · skip
    split at h
    · rename_i e
      subst e
      cases h
      exact ⟨(tableOf [(0, 128, 129, 42), (0, 128, 135, 46), (0, 128, 141, 50)]).take 1, (tableOf [(0, 128, 129, 42), (0, 128, 135, 46), (0, 128, 141, 50)])[1], (tableOf [(0, 128, 129, 42), (0, 128, 135, 46), (0, 128, 141, 50)]).drop 2, _, rfl, (fun z hz => by
          simp only [tableOf, List.map_cons, List.map_nil, List.take, List.mem_cons, List.not_mem_nil, or_false] at hz
          rcases hz with rfl
          · exact Or.inr ⟨by decide, _, cl_L_42, by decide +kernel⟩), by decide, by decide, cl_L_46, ca_46, Or.inl ⟨dL_asks_135, rfl⟩⟩
    · skip
      split at h
      · rename_i e
        subst e
        cases h
        exact ⟨(tableOf [(0, 128, 129, 42), (0, 128, 135, 46), (0, 128, 141, 50)]).take 2, (tableOf [(0, 128, 129, 42), (0, 128, 135, 46), (0, 128, 141, 50)])[2], (tableOf [(0, 128, 129, 42), (0, 128, 135, 46), (0, 128, 141, 50)]).drop 3, _, rfl, (fun z hz => by
            simp only [tableOf, List.map_cons, List.map_nil, List.take, List.mem_cons, List.not_mem_nil, or_false] at hz
            rcases hz with rfl | rfl
            · exact Or.inr ⟨by decide, _, cl_L_42, by decide +kernel⟩
            · exact Or.inr ⟨by decide, _, cl_L_46, by decide +kernel⟩), by decide, by decide, cl_L_50, ca_50, Or.inl ⟨dL_asks_141, rfl⟩⟩
      · cases h
theorem hlvA_3 {x y z : Int32} : aStu 5 [.ref 3, .int (nI 3), .int x, .int y, .int z, aU] [.ref 3, .int (nI 3), .int x, .int y, .int z, aU] := by
  intro i u h hk
  match i, h with
  | 0, h => cases h; exact ⟨by decide, rfl, fun _ z => by cases z⟩
  | 1, h => cases h; exact ⟨by decide, rfl, fun _ z => by cases z⟩
  | 2, h => cases h; exact ⟨by decide, rfl, fun _ z => by cases z⟩
  | 3, h => cases h; exact ⟨by decide, rfl, fun _ z => by cases z⟩
  | 4, h => cases h; exact ⟨by decide, rfl, fun _ z => by cases z⟩
  | 5, h => cases h; cases hk
  | i + 6, h => simp at h
set_option maxHeartbeats 4000000 in
set_option maxRecDepth 100000 in
theorem s_L_asks3 {l : Launch} {E : aE} {S : aS} {I : aI} {L : aL} {Rf : aR} {Kr : aK} (hst : l.stackTraces = false) {x y z : Int32} (h3 : S 3 = some (.inr 3)) (hX : ∀ (Kr' : aK) (Kx' : aX), (∀ (r : Int32) S' I' L' R', Kr (some (.long r.toInt64)) S' I' L' R' → Kr' (some (.int r)) S' I' L' R') → (∀ S' I' L' R', Kr (some (.long (-70007))) S' I' L' R' → Kx' eIO S' I' L' R') → (∀ S' I' L' R', Kr (some (.long (-70009))) S' I' L' R' → Kx' eIA S' I' L' R') → (∀ S' I' L' R', Kr (some (.long (-70008))) S' I' L' R' → Kx' eIS S' I' L' R') → aMet l E yX3_claimAge cX3_claimAge 6 (some .int) rmX3_claimAge [.ref 3, .int x, .int y] S I L Rf Kr' Kx') : aMetW l E yL_asks cL_asks 6 (some .long) [(0, 128, 129, 42), (0, 128, 135, 46), (0, 128, 141, 50)] rmL_asks [.ref 3, .int (nI 3), .int x, .int y, .int z] S I L Rf Kr := by
  refine aMetW.of (lv0 := [.ref 3, .int (nI 3), .int x, .int y, .int z, aU]) (z := 1) (by decide +kernel) hst rfl (Nat.le_of_ble_eq_true rfl) ?_
  intro p e s m args below meth c io0 hx htb
  have hx : aCx p l s m args meth c RL cL_asks 6 (some .long) E := hx
  refine g_iloadG_n hx dL_asks_0 rfl (nx := 1) rfl rfl ?_
  refine g_if_neN hx dL_asks_1 (tg := 14) (by decide) (nx := 4) rfl (by omega) (fun c1 => ?_) (fun c1 => ?_)
  · refine g_iloadG_n hx dL_asks_14 rfl (nx := 15) rfl rfl ?_
    refine g_iconst hx dL_asks_15 (nx := 16) rfl (v := nI 1) (by decide) ?_
    refine g_icmp_neN hx dL_asks_16 (tg := 29) (by decide) (nx := 19) rfl (by omega) (by omega) (fun c16 => ?_) (fun c16 => ?_)
    · refine g_iloadG_n hx dL_asks_29 rfl (nx := 30) rfl rfl ?_
      refine g_iconst hx dL_asks_30 (nx := 31) rfl (v := nI 2) (by decide) ?_
      refine g_icmp_neN hx dL_asks_31 (tg := 46) (by decide) (nx := 34) rfl (by omega) (by omega) (fun c31 => ?_) (fun c31 => ?_)
      · refine g_iloadG_n hx dL_asks_46 rfl (nx := 47) rfl rfl ?_
        refine g_iconst hx dL_asks_47 (nx := 48) rfl (v := nI 3) (by decide) ?_
        refine g_icmp_neN hx dL_asks_48 (tg := 61) (by decide) (nx := 51) rfl (by omega) (by omega) (fun c48 => ?_) (fun c48 => ?_)
        · exact absurd c48 (by decide)
        · refine g_aloadG_n hx dL_asks_51 rfl (nx := 52) rfl rfl ?_
          refine g_iloadG_n hx dL_asks_52 rfl (nx := 53) rfl rfl ?_
          refine g_iloadG_n hx dL_asks_53 rfl (nx := 54) rfl rfl ?_
          refine g_callV_H hx [_, _] (k' := 7) (n' := 45) (lvh := [.ref 3, .int (nI 3), .int x, .int y, .int z, aU]) tgA dL_asks_54 (nx := 57) rfl lk_L_23 h3 (by decide) rfl rfl (Nat.le_of_ble_eq_true rfl) (Nat.le_of_ble_eq_true rfl) (Nat.le_of_ble_eq_true rfl) (Nat.le_of_ble_eq_true rfl) (Nat.le_of_ble_eq_true rfl) (Nat.le_of_ble_eq_true rfl) (Nat.le_of_ble_eq_true rfl) htb (by decide) hlvA_3 htgA_54 (hX _ _ (fun r S' I' L' R' hk => ?_) (fun S' I' L' R' hk => ⟨131, rfl, ?_⟩) (fun S' I' L' R' hk => ⟨137, rfl, ?_⟩) (fun S' I' L' R' hk => ⟨143, rfl, ?_⟩))
          · refine g_i2l hx dL_asks_57 (nx := 58) rfl ?_
            refine g_goto hx dL_asks_58 (tg := 128) (by decide) ?_
            refine g_lret hx dL_asks_128 rfl (Nat.le_of_ble_eq_true rfl) (Nat.le_of_ble_eq_true rfl) ?_
            exact hk
          · refine g_ldc2 hx dL_asks_131 (nx := 134) rfl kl_L_44 ?_
            refine g_lret hx dL_asks_134 rfl (Nat.le_of_ble_eq_true rfl) (Nat.le_of_ble_eq_true rfl) ?_
            exact hk
          · refine g_ldc2 hx dL_asks_137 (nx := 140) rfl kl_L_48 ?_
            refine g_lret hx dL_asks_140 rfl (Nat.le_of_ble_eq_true rfl) (Nat.le_of_ble_eq_true rfl) ?_
            exact hk
          · refine g_ldc2 hx dL_asks_143 (nx := 146) rfl kl_L_52 ?_
            refine g_lret hx dL_asks_146 rfl (Nat.le_of_ble_eq_true rfl) (Nat.le_of_ble_eq_true rfl) ?_
            exact hk
      · exact absurd c31 (by decide)
    · exact absurd c16 (by decide)
  · exact absurd c1 (by decide)

theorem htgA_68 : ∀ X t, tgA X = some t → aHd RL cL_asks (tableOf [(0, 128, 129, 42), (0, 128, 135, 46), (0, 128, 141, 50)]) 68 5 X t := by
  intro X t h
  unfold tgA at h
  split at h
  · rename_i e
    subst e
    cases h
    exact ⟨(tableOf [(0, 128, 129, 42), (0, 128, 135, 46), (0, 128, 141, 50)]).take 0, (tableOf [(0, 128, 129, 42), (0, 128, 135, 46), (0, 128, 141, 50)])[0], (tableOf [(0, 128, 129, 42), (0, 128, 135, 46), (0, 128, 141, 50)]).drop 1, _, rfl, (fun z hz => by cases hz), by decide, by decide, cl_L_42, ca_42, Or.inl ⟨dL_asks_129, rfl⟩⟩
  · skip
    split at h
    · rename_i e
      subst e
      cases h
      exact ⟨(tableOf [(0, 128, 129, 42), (0, 128, 135, 46), (0, 128, 141, 50)]).take 1, (tableOf [(0, 128, 129, 42), (0, 128, 135, 46), (0, 128, 141, 50)])[1], (tableOf [(0, 128, 129, 42), (0, 128, 135, 46), (0, 128, 141, 50)]).drop 2, _, rfl, (fun z hz => by
          simp only [tableOf, List.map_cons, List.map_nil, List.take, List.mem_cons, List.not_mem_nil, or_false] at hz
          rcases hz with rfl
          · exact Or.inr ⟨by decide, _, cl_L_42, by decide +kernel⟩), by decide, by decide, cl_L_46, ca_46, Or.inl ⟨dL_asks_135, rfl⟩⟩
    · skip
      split at h
      · rename_i e
        subst e
        cases h
        exact ⟨(tableOf [(0, 128, 129, 42), (0, 128, 135, 46), (0, 128, 141, 50)]).take 2, (tableOf [(0, 128, 129, 42), (0, 128, 135, 46), (0, 128, 141, 50)])[2], (tableOf [(0, 128, 129, 42), (0, 128, 135, 46), (0, 128, 141, 50)]).drop 3, _, rfl, (fun z hz => by
            simp only [tableOf, List.map_cons, List.map_nil, List.take, List.mem_cons, List.not_mem_nil, or_false] at hz
            rcases hz with rfl | rfl
            · exact Or.inr ⟨by decide, _, cl_L_42, by decide +kernel⟩
            · exact Or.inr ⟨by decide, _, cl_L_46, by decide +kernel⟩), by decide, by decide, cl_L_50, ca_50, Or.inl ⟨dL_asks_141, rfl⟩⟩
      · cases h
theorem hlvA_4 {x y z : Int32} : aStu 5 [.ref 3, .int (nI 4), .int x, .int y, .int z, aU] [.ref 3, .int (nI 4), .int x, .int y, .int z, aU] := by
  intro i u h hk
  match i, h with
  | 0, h => cases h; exact ⟨by decide, rfl, fun _ z => by cases z⟩
  | 1, h => cases h; exact ⟨by decide, rfl, fun _ z => by cases z⟩
  | 2, h => cases h; exact ⟨by decide, rfl, fun _ z => by cases z⟩
  | 3, h => cases h; exact ⟨by decide, rfl, fun _ z => by cases z⟩
  | 4, h => cases h; exact ⟨by decide, rfl, fun _ z => by cases z⟩
  | 5, h => cases h; cases hk
  | i + 6, h => simp at h
set_option maxHeartbeats 4000000 in
set_option maxRecDepth 100000 in
theorem s_L_asks4 {l : Launch} {E : aE} {S : aS} {I : aI} {L : aL} {Rf : aR} {Kr : aK} (hst : l.stackTraces = false) {x y z : Int32} (h3 : S 3 = some (.inr 3)) (hX : ∀ (Kr' : aK) (Kx' : aX), (∀ (r : Int32) S' I' L' R', Kr (some (.long r.toInt64)) S' I' L' R' → Kr' (some (.int r)) S' I' L' R') → (∀ S' I' L' R', Kr (some (.long (-70007))) S' I' L' R' → Kx' eIO S' I' L' R') → (∀ S' I' L' R', Kr (some (.long (-70009))) S' I' L' R' → Kx' eIA S' I' L' R') → (∀ S' I' L' R', Kr (some (.long (-70008))) S' I' L' R' → Kx' eIS S' I' L' R') → aMet l E yX3_claimPlanet cX3_claimPlanet 4 (some .int) rmX3_claimPlanet [.ref 3, .int x] S I L Rf Kr' Kx') : aMetW l E yL_asks cL_asks 6 (some .long) [(0, 128, 129, 42), (0, 128, 135, 46), (0, 128, 141, 50)] rmL_asks [.ref 3, .int (nI 4), .int x, .int y, .int z] S I L Rf Kr := by
  refine aMetW.of (lv0 := [.ref 3, .int (nI 4), .int x, .int y, .int z, aU]) (z := 1) (by decide +kernel) hst rfl (Nat.le_of_ble_eq_true rfl) ?_
  intro p e s m args below meth c io0 hx htb
  have hx : aCx p l s m args meth c RL cL_asks 6 (some .long) E := hx
  refine g_iloadG_n hx dL_asks_0 rfl (nx := 1) rfl rfl ?_
  refine g_if_neN hx dL_asks_1 (tg := 14) (by decide) (nx := 4) rfl (by omega) (fun c1 => ?_) (fun c1 => ?_)
  · refine g_iloadG_n hx dL_asks_14 rfl (nx := 15) rfl rfl ?_
    refine g_iconst hx dL_asks_15 (nx := 16) rfl (v := nI 1) (by decide) ?_
    refine g_icmp_neN hx dL_asks_16 (tg := 29) (by decide) (nx := 19) rfl (by omega) (by omega) (fun c16 => ?_) (fun c16 => ?_)
    · refine g_iloadG_n hx dL_asks_29 rfl (nx := 30) rfl rfl ?_
      refine g_iconst hx dL_asks_30 (nx := 31) rfl (v := nI 2) (by decide) ?_
      refine g_icmp_neN hx dL_asks_31 (tg := 46) (by decide) (nx := 34) rfl (by omega) (by omega) (fun c31 => ?_) (fun c31 => ?_)
      · refine g_iloadG_n hx dL_asks_46 rfl (nx := 47) rfl rfl ?_
        refine g_iconst hx dL_asks_47 (nx := 48) rfl (v := nI 3) (by decide) ?_
        refine g_icmp_neN hx dL_asks_48 (tg := 61) (by decide) (nx := 51) rfl (by omega) (by omega) (fun c48 => ?_) (fun c48 => ?_)
        · refine g_iloadG_n hx dL_asks_61 rfl (nx := 62) rfl rfl ?_
          refine g_iconst hx dL_asks_62 (nx := 63) rfl (v := nI 4) (by decide) ?_
          refine g_icmp_neN hx dL_asks_63 (tg := 75) (by decide) (nx := 66) rfl (by omega) (by omega) (fun c63 => ?_) (fun c63 => ?_)
          · exact absurd c63 (by decide)
          · refine g_aloadG_n hx dL_asks_66 rfl (nx := 67) rfl rfl ?_
            refine g_iloadG_n hx dL_asks_67 rfl (nx := 68) rfl rfl ?_
            refine g_callV_H hx [_] (k' := 5) (n' := 33) (lvh := [.ref 3, .int (nI 4), .int x, .int y, .int z, aU]) tgA dL_asks_68 (nx := 71) rfl lk_L_26 h3 (by decide) rfl rfl (Nat.le_of_ble_eq_true rfl) (Nat.le_of_ble_eq_true rfl) (Nat.le_of_ble_eq_true rfl) (Nat.le_of_ble_eq_true rfl) (Nat.le_of_ble_eq_true rfl) (Nat.le_of_ble_eq_true rfl) (Nat.le_of_ble_eq_true rfl) htb (by decide) hlvA_4 htgA_68 (hX _ _ (fun r S' I' L' R' hk => ?_) (fun S' I' L' R' hk => ⟨131, rfl, ?_⟩) (fun S' I' L' R' hk => ⟨137, rfl, ?_⟩) (fun S' I' L' R' hk => ⟨143, rfl, ?_⟩))
            · refine g_i2l hx dL_asks_71 (nx := 72) rfl ?_
              refine g_goto hx dL_asks_72 (tg := 128) (by decide) ?_
              refine g_lret hx dL_asks_128 rfl (Nat.le_of_ble_eq_true rfl) (Nat.le_of_ble_eq_true rfl) ?_
              exact hk
            · refine g_ldc2 hx dL_asks_131 (nx := 134) rfl kl_L_44 ?_
              refine g_lret hx dL_asks_134 rfl (Nat.le_of_ble_eq_true rfl) (Nat.le_of_ble_eq_true rfl) ?_
              exact hk
            · refine g_ldc2 hx dL_asks_137 (nx := 140) rfl kl_L_48 ?_
              refine g_lret hx dL_asks_140 rfl (Nat.le_of_ble_eq_true rfl) (Nat.le_of_ble_eq_true rfl) ?_
              exact hk
            · refine g_ldc2 hx dL_asks_143 (nx := 146) rfl kl_L_52 ?_
              refine g_lret hx dL_asks_146 rfl (Nat.le_of_ble_eq_true rfl) (Nat.le_of_ble_eq_true rfl) ?_
              exact hk
        · exact absurd c48 (by decide)
      · exact absurd c31 (by decide)
    · exact absurd c16 (by decide)
  · exact absurd c1 (by decide)

theorem htgA_83 : ∀ X t, tgA X = some t → aHd RL cL_asks (tableOf [(0, 128, 129, 42), (0, 128, 135, 46), (0, 128, 141, 50)]) 83 5 X t := by
  intro X t h
  unfold tgA at h
  split at h
  · rename_i e
    subst e
    cases h
    exact ⟨(tableOf [(0, 128, 129, 42), (0, 128, 135, 46), (0, 128, 141, 50)]).take 0, (tableOf [(0, 128, 129, 42), (0, 128, 135, 46), (0, 128, 141, 50)])[0], (tableOf [(0, 128, 129, 42), (0, 128, 135, 46), (0, 128, 141, 50)]).drop 1, _, rfl, (fun z hz => by cases hz), by decide, by decide, cl_L_42, ca_42, Or.inl ⟨dL_asks_129, rfl⟩⟩
  · skip
    split at h
    · rename_i e
      subst e
      cases h
      exact ⟨(tableOf [(0, 128, 129, 42), (0, 128, 135, 46), (0, 128, 141, 50)]).take 1, (tableOf [(0, 128, 129, 42), (0, 128, 135, 46), (0, 128, 141, 50)])[1], (tableOf [(0, 128, 129, 42), (0, 128, 135, 46), (0, 128, 141, 50)]).drop 2, _, rfl, (fun z hz => by
          simp only [tableOf, List.map_cons, List.map_nil, List.take, List.mem_cons, List.not_mem_nil, or_false] at hz
          rcases hz with rfl
          · exact Or.inr ⟨by decide, _, cl_L_42, by decide +kernel⟩), by decide, by decide, cl_L_46, ca_46, Or.inl ⟨dL_asks_135, rfl⟩⟩
    · skip
      split at h
      · rename_i e
        subst e
        cases h
        exact ⟨(tableOf [(0, 128, 129, 42), (0, 128, 135, 46), (0, 128, 141, 50)]).take 2, (tableOf [(0, 128, 129, 42), (0, 128, 135, 46), (0, 128, 141, 50)])[2], (tableOf [(0, 128, 129, 42), (0, 128, 135, 46), (0, 128, 141, 50)]).drop 3, _, rfl, (fun z hz => by
            simp only [tableOf, List.map_cons, List.map_nil, List.take, List.mem_cons, List.not_mem_nil, or_false] at hz
            rcases hz with rfl | rfl
            · exact Or.inr ⟨by decide, _, cl_L_42, by decide +kernel⟩
            · exact Or.inr ⟨by decide, _, cl_L_46, by decide +kernel⟩), by decide, by decide, cl_L_50, ca_50, Or.inl ⟨dL_asks_141, rfl⟩⟩
      · cases h
theorem hlvA_5 {x y z : Int32} : aStu 5 [.ref 3, .int (nI 5), .int x, .int y, .int z, aU] [.ref 3, .int (nI 5), .int x, .int y, .int z, aU] := by
  intro i u h hk
  match i, h with
  | 0, h => cases h; exact ⟨by decide, rfl, fun _ z => by cases z⟩
  | 1, h => cases h; exact ⟨by decide, rfl, fun _ z => by cases z⟩
  | 2, h => cases h; exact ⟨by decide, rfl, fun _ z => by cases z⟩
  | 3, h => cases h; exact ⟨by decide, rfl, fun _ z => by cases z⟩
  | 4, h => cases h; exact ⟨by decide, rfl, fun _ z => by cases z⟩
  | 5, h => cases h; cases hk
  | i + 6, h => simp at h
set_option maxHeartbeats 4000000 in
set_option maxRecDepth 100000 in
theorem s_L_asks5 {l : Launch} {E : aE} {S : aS} {I : aI} {L : aL} {Rf : aR} {Kr : aK} (hst : l.stackTraces = false) {x y z : Int32} (h3 : S 3 = some (.inr 3)) (hX : ∀ (Kr' : aK) (Kx' : aX), (∀ (r : Int32) S' I' L' R', Kr (some (.long r.toInt64)) S' I' L' R' → Kr' (some (.int r)) S' I' L' R') → (∀ S' I' L' R', Kr (some (.long (-70007))) S' I' L' R' → Kx' eIO S' I' L' R') → (∀ S' I' L' R', Kr (some (.long (-70009))) S' I' L' R' → Kx' eIA S' I' L' R') → (∀ S' I' L' R', Kr (some (.long (-70008))) S' I' L' R' → Kx' eIS S' I' L' R') → aMet l E yX3_cite cX3_cite 5 (some .int) rmX3_cite [.ref 3, .int x, .int y] S I L Rf Kr' Kx') : aMetW l E yL_asks cL_asks 6 (some .long) [(0, 128, 129, 42), (0, 128, 135, 46), (0, 128, 141, 50)] rmL_asks [.ref 3, .int (nI 5), .int x, .int y, .int z] S I L Rf Kr := by
  refine aMetW.of (lv0 := [.ref 3, .int (nI 5), .int x, .int y, .int z, aU]) (z := 1) (by decide +kernel) hst rfl (Nat.le_of_ble_eq_true rfl) ?_
  intro p e s m args below meth c io0 hx htb
  have hx : aCx p l s m args meth c RL cL_asks 6 (some .long) E := hx
  refine g_iloadG_n hx dL_asks_0 rfl (nx := 1) rfl rfl ?_
  refine g_if_neN hx dL_asks_1 (tg := 14) (by decide) (nx := 4) rfl (by omega) (fun c1 => ?_) (fun c1 => ?_)
  · refine g_iloadG_n hx dL_asks_14 rfl (nx := 15) rfl rfl ?_
    refine g_iconst hx dL_asks_15 (nx := 16) rfl (v := nI 1) (by decide) ?_
    refine g_icmp_neN hx dL_asks_16 (tg := 29) (by decide) (nx := 19) rfl (by omega) (by omega) (fun c16 => ?_) (fun c16 => ?_)
    · refine g_iloadG_n hx dL_asks_29 rfl (nx := 30) rfl rfl ?_
      refine g_iconst hx dL_asks_30 (nx := 31) rfl (v := nI 2) (by decide) ?_
      refine g_icmp_neN hx dL_asks_31 (tg := 46) (by decide) (nx := 34) rfl (by omega) (by omega) (fun c31 => ?_) (fun c31 => ?_)
      · refine g_iloadG_n hx dL_asks_46 rfl (nx := 47) rfl rfl ?_
        refine g_iconst hx dL_asks_47 (nx := 48) rfl (v := nI 3) (by decide) ?_
        refine g_icmp_neN hx dL_asks_48 (tg := 61) (by decide) (nx := 51) rfl (by omega) (by omega) (fun c48 => ?_) (fun c48 => ?_)
        · refine g_iloadG_n hx dL_asks_61 rfl (nx := 62) rfl rfl ?_
          refine g_iconst hx dL_asks_62 (nx := 63) rfl (v := nI 4) (by decide) ?_
          refine g_icmp_neN hx dL_asks_63 (tg := 75) (by decide) (nx := 66) rfl (by omega) (by omega) (fun c63 => ?_) (fun c63 => ?_)
          · refine g_iloadG_n hx dL_asks_75 rfl (nx := 76) rfl rfl ?_
            refine g_iconst hx dL_asks_76 (nx := 77) rfl (v := nI 5) (by decide) ?_
            refine g_icmp_neN hx dL_asks_77 (tg := 90) (by decide) (nx := 80) rfl (by omega) (by omega) (fun c77 => ?_) (fun c77 => ?_)
            · exact absurd c77 (by decide)
            · refine g_aloadG_n hx dL_asks_80 rfl (nx := 81) rfl rfl ?_
              refine g_iloadG_n hx dL_asks_81 rfl (nx := 82) rfl rfl ?_
              refine g_iloadG_n hx dL_asks_82 rfl (nx := 83) rfl rfl ?_
              refine g_callV_H hx [_, _] (k' := 4) (n' := 24) (lvh := [.ref 3, .int (nI 5), .int x, .int y, .int z, aU]) tgA dL_asks_83 (nx := 86) rfl lk_L_30 h3 (by decide) rfl rfl (Nat.le_of_ble_eq_true rfl) (Nat.le_of_ble_eq_true rfl) (Nat.le_of_ble_eq_true rfl) (Nat.le_of_ble_eq_true rfl) (Nat.le_of_ble_eq_true rfl) (Nat.le_of_ble_eq_true rfl) (Nat.le_of_ble_eq_true rfl) htb (by decide) hlvA_5 htgA_83 (hX _ _ (fun r S' I' L' R' hk => ?_) (fun S' I' L' R' hk => ⟨131, rfl, ?_⟩) (fun S' I' L' R' hk => ⟨137, rfl, ?_⟩) (fun S' I' L' R' hk => ⟨143, rfl, ?_⟩))
              · refine g_i2l hx dL_asks_86 (nx := 87) rfl ?_
                refine g_goto hx dL_asks_87 (tg := 128) (by decide) ?_
                refine g_lret hx dL_asks_128 rfl (Nat.le_of_ble_eq_true rfl) (Nat.le_of_ble_eq_true rfl) ?_
                exact hk
              · refine g_ldc2 hx dL_asks_131 (nx := 134) rfl kl_L_44 ?_
                refine g_lret hx dL_asks_134 rfl (Nat.le_of_ble_eq_true rfl) (Nat.le_of_ble_eq_true rfl) ?_
                exact hk
              · refine g_ldc2 hx dL_asks_137 (nx := 140) rfl kl_L_48 ?_
                refine g_lret hx dL_asks_140 rfl (Nat.le_of_ble_eq_true rfl) (Nat.le_of_ble_eq_true rfl) ?_
                exact hk
              · refine g_ldc2 hx dL_asks_143 (nx := 146) rfl kl_L_52 ?_
                refine g_lret hx dL_asks_146 rfl (Nat.le_of_ble_eq_true rfl) (Nat.le_of_ble_eq_true rfl) ?_
                exact hk
          · exact absurd c63 (by decide)
        · exact absurd c48 (by decide)
      · exact absurd c31 (by decide)
    · exact absurd c16 (by decide)
  · exact absurd c1 (by decide)

theorem htgA_98 : ∀ X t, tgA X = some t → aHd RL cL_asks (tableOf [(0, 128, 129, 42), (0, 128, 135, 46), (0, 128, 141, 50)]) 98 5 X t := by
  intro X t h
  unfold tgA at h
  split at h
  · rename_i e
    subst e
    cases h
    exact ⟨(tableOf [(0, 128, 129, 42), (0, 128, 135, 46), (0, 128, 141, 50)]).take 0, (tableOf [(0, 128, 129, 42), (0, 128, 135, 46), (0, 128, 141, 50)])[0], (tableOf [(0, 128, 129, 42), (0, 128, 135, 46), (0, 128, 141, 50)]).drop 1, _, rfl, (fun z hz => by cases hz), by decide, by decide, cl_L_42, ca_42, Or.inl ⟨dL_asks_129, rfl⟩⟩
  · skip
    split at h
    · rename_i e
      subst e
      cases h
      exact ⟨(tableOf [(0, 128, 129, 42), (0, 128, 135, 46), (0, 128, 141, 50)]).take 1, (tableOf [(0, 128, 129, 42), (0, 128, 135, 46), (0, 128, 141, 50)])[1], (tableOf [(0, 128, 129, 42), (0, 128, 135, 46), (0, 128, 141, 50)]).drop 2, _, rfl, (fun z hz => by
          simp only [tableOf, List.map_cons, List.map_nil, List.take, List.mem_cons, List.not_mem_nil, or_false] at hz
          rcases hz with rfl
          · exact Or.inr ⟨by decide, _, cl_L_42, by decide +kernel⟩), by decide, by decide, cl_L_46, ca_46, Or.inl ⟨dL_asks_135, rfl⟩⟩
    · skip
      split at h
      · rename_i e
        subst e
        cases h
        exact ⟨(tableOf [(0, 128, 129, 42), (0, 128, 135, 46), (0, 128, 141, 50)]).take 2, (tableOf [(0, 128, 129, 42), (0, 128, 135, 46), (0, 128, 141, 50)])[2], (tableOf [(0, 128, 129, 42), (0, 128, 135, 46), (0, 128, 141, 50)]).drop 3, _, rfl, (fun z hz => by
            simp only [tableOf, List.map_cons, List.map_nil, List.take, List.mem_cons, List.not_mem_nil, or_false] at hz
            rcases hz with rfl | rfl
            · exact Or.inr ⟨by decide, _, cl_L_42, by decide +kernel⟩
            · exact Or.inr ⟨by decide, _, cl_L_46, by decide +kernel⟩), by decide, by decide, cl_L_50, ca_50, Or.inl ⟨dL_asks_141, rfl⟩⟩
      · cases h
theorem hlvA_6 {x y z : Int32} : aStu 5 [.ref 3, .int (nI 6), .int x, .int y, .int z, aU] [.ref 3, .int (nI 6), .int x, .int y, .int z, aU] := by
  intro i u h hk
  match i, h with
  | 0, h => cases h; exact ⟨by decide, rfl, fun _ z => by cases z⟩
  | 1, h => cases h; exact ⟨by decide, rfl, fun _ z => by cases z⟩
  | 2, h => cases h; exact ⟨by decide, rfl, fun _ z => by cases z⟩
  | 3, h => cases h; exact ⟨by decide, rfl, fun _ z => by cases z⟩
  | 4, h => cases h; exact ⟨by decide, rfl, fun _ z => by cases z⟩
  | 5, h => cases h; cases hk
  | i + 6, h => simp at h
set_option maxHeartbeats 4000000 in
set_option maxRecDepth 100000 in
theorem s_L_asks6 {l : Launch} {E : aE} {S : aS} {I : aI} {L : aL} {Rf : aR} {Kr : aK} (hst : l.stackTraces = false) {x y z : Int32} (h3 : S 3 = some (.inr 3)) (hX : ∀ (Kr' : aK) (Kx' : aX), (∀ (r : Int32) S' I' L' R', Kr (some (.long r.toInt64)) S' I' L' R' → Kr' (some (.int r)) S' I' L' R') → (∀ S' I' L' R', Kr (some (.long (-70007))) S' I' L' R' → Kx' eIO S' I' L' R') → (∀ S' I' L' R', Kr (some (.long (-70009))) S' I' L' R' → Kx' eIA S' I' L' R') → (∀ S' I' L' R', Kr (some (.long (-70008))) S' I' L' R' → Kx' eIS S' I' L' R') → aMet l E yX3_withdraw cX3_withdraw 2 (some .int) rmX3_withdraw [.ref 3, .int x] S I L Rf Kr' Kx') : aMetW l E yL_asks cL_asks 6 (some .long) [(0, 128, 129, 42), (0, 128, 135, 46), (0, 128, 141, 50)] rmL_asks [.ref 3, .int (nI 6), .int x, .int y, .int z] S I L Rf Kr := by
  refine aMetW.of (lv0 := [.ref 3, .int (nI 6), .int x, .int y, .int z, aU]) (z := 1) (by decide +kernel) hst rfl (Nat.le_of_ble_eq_true rfl) ?_
  intro p e s m args below meth c io0 hx htb
  have hx : aCx p l s m args meth c RL cL_asks 6 (some .long) E := hx
  refine g_iloadG_n hx dL_asks_0 rfl (nx := 1) rfl rfl ?_
  refine g_if_neN hx dL_asks_1 (tg := 14) (by decide) (nx := 4) rfl (by omega) (fun c1 => ?_) (fun c1 => ?_)
  · refine g_iloadG_n hx dL_asks_14 rfl (nx := 15) rfl rfl ?_
    refine g_iconst hx dL_asks_15 (nx := 16) rfl (v := nI 1) (by decide) ?_
    refine g_icmp_neN hx dL_asks_16 (tg := 29) (by decide) (nx := 19) rfl (by omega) (by omega) (fun c16 => ?_) (fun c16 => ?_)
    · refine g_iloadG_n hx dL_asks_29 rfl (nx := 30) rfl rfl ?_
      refine g_iconst hx dL_asks_30 (nx := 31) rfl (v := nI 2) (by decide) ?_
      refine g_icmp_neN hx dL_asks_31 (tg := 46) (by decide) (nx := 34) rfl (by omega) (by omega) (fun c31 => ?_) (fun c31 => ?_)
      · refine g_iloadG_n hx dL_asks_46 rfl (nx := 47) rfl rfl ?_
        refine g_iconst hx dL_asks_47 (nx := 48) rfl (v := nI 3) (by decide) ?_
        refine g_icmp_neN hx dL_asks_48 (tg := 61) (by decide) (nx := 51) rfl (by omega) (by omega) (fun c48 => ?_) (fun c48 => ?_)
        · refine g_iloadG_n hx dL_asks_61 rfl (nx := 62) rfl rfl ?_
          refine g_iconst hx dL_asks_62 (nx := 63) rfl (v := nI 4) (by decide) ?_
          refine g_icmp_neN hx dL_asks_63 (tg := 75) (by decide) (nx := 66) rfl (by omega) (by omega) (fun c63 => ?_) (fun c63 => ?_)
          · refine g_iloadG_n hx dL_asks_75 rfl (nx := 76) rfl rfl ?_
            refine g_iconst hx dL_asks_76 (nx := 77) rfl (v := nI 5) (by decide) ?_
            refine g_icmp_neN hx dL_asks_77 (tg := 90) (by decide) (nx := 80) rfl (by omega) (by omega) (fun c77 => ?_) (fun c77 => ?_)
            · refine g_iloadG_n hx dL_asks_90 rfl (nx := 91) rfl rfl ?_
              refine g_bipush hx dL_asks_91 (nx := 93) rfl (v := nI 6) (by decide) ?_
              refine g_icmp_neN hx dL_asks_93 (tg := 105) (by decide) (nx := 96) rfl (by omega) (by omega) (fun c93 => ?_) (fun c93 => ?_)
              · exact absurd c93 (by decide)
              · refine g_aloadG_n hx dL_asks_96 rfl (nx := 97) rfl rfl ?_
                refine g_iloadG_n hx dL_asks_97 rfl (nx := 98) rfl rfl ?_
                refine g_callV_H hx [_] (k' := 2) (n' := 12) (lvh := [.ref 3, .int (nI 6), .int x, .int y, .int z, aU]) tgA dL_asks_98 (nx := 101) rfl lk_L_33 h3 (by decide) rfl rfl (Nat.le_of_ble_eq_true rfl) (Nat.le_of_ble_eq_true rfl) (Nat.le_of_ble_eq_true rfl) (Nat.le_of_ble_eq_true rfl) (Nat.le_of_ble_eq_true rfl) (Nat.le_of_ble_eq_true rfl) (Nat.le_of_ble_eq_true rfl) htb (by decide) hlvA_6 htgA_98 (hX _ _ (fun r S' I' L' R' hk => ?_) (fun S' I' L' R' hk => ⟨131, rfl, ?_⟩) (fun S' I' L' R' hk => ⟨137, rfl, ?_⟩) (fun S' I' L' R' hk => ⟨143, rfl, ?_⟩))
                · refine g_i2l hx dL_asks_101 (nx := 102) rfl ?_
                  refine g_goto hx dL_asks_102 (tg := 128) (by decide) ?_
                  refine g_lret hx dL_asks_128 rfl (Nat.le_of_ble_eq_true rfl) (Nat.le_of_ble_eq_true rfl) ?_
                  exact hk
                · refine g_ldc2 hx dL_asks_131 (nx := 134) rfl kl_L_44 ?_
                  refine g_lret hx dL_asks_134 rfl (Nat.le_of_ble_eq_true rfl) (Nat.le_of_ble_eq_true rfl) ?_
                  exact hk
                · refine g_ldc2 hx dL_asks_137 (nx := 140) rfl kl_L_48 ?_
                  refine g_lret hx dL_asks_140 rfl (Nat.le_of_ble_eq_true rfl) (Nat.le_of_ble_eq_true rfl) ?_
                  exact hk
                · refine g_ldc2 hx dL_asks_143 (nx := 146) rfl kl_L_52 ?_
                  refine g_lret hx dL_asks_146 rfl (Nat.le_of_ble_eq_true rfl) (Nat.le_of_ble_eq_true rfl) ?_
                  exact hk
            · exact absurd c77 (by decide)
          · exact absurd c63 (by decide)
        · exact absurd c48 (by decide)
      · exact absurd c31 (by decide)
    · exact absurd c16 (by decide)
  · exact absurd c1 (by decide)

theorem htgA_114 : ∀ X t, tgA X = some t → aHd RL cL_asks (tableOf [(0, 128, 129, 42), (0, 128, 135, 46), (0, 128, 141, 50)]) 114 5 X t := by
  intro X t h
  unfold tgA at h
  split at h
  · rename_i e
    subst e
    cases h
    exact ⟨(tableOf [(0, 128, 129, 42), (0, 128, 135, 46), (0, 128, 141, 50)]).take 0, (tableOf [(0, 128, 129, 42), (0, 128, 135, 46), (0, 128, 141, 50)])[0], (tableOf [(0, 128, 129, 42), (0, 128, 135, 46), (0, 128, 141, 50)]).drop 1, _, rfl, (fun z hz => by cases hz), by decide, by decide, cl_L_42, ca_42, Or.inl ⟨dL_asks_129, rfl⟩⟩
  · skip
    split at h
    · rename_i e
      subst e
      cases h
      exact ⟨(tableOf [(0, 128, 129, 42), (0, 128, 135, 46), (0, 128, 141, 50)]).take 1, (tableOf [(0, 128, 129, 42), (0, 128, 135, 46), (0, 128, 141, 50)])[1], (tableOf [(0, 128, 129, 42), (0, 128, 135, 46), (0, 128, 141, 50)]).drop 2, _, rfl, (fun z hz => by
          simp only [tableOf, List.map_cons, List.map_nil, List.take, List.mem_cons, List.not_mem_nil, or_false] at hz
          rcases hz with rfl
          · exact Or.inr ⟨by decide, _, cl_L_42, by decide +kernel⟩), by decide, by decide, cl_L_46, ca_46, Or.inl ⟨dL_asks_135, rfl⟩⟩
    · skip
      split at h
      · rename_i e
        subst e
        cases h
        exact ⟨(tableOf [(0, 128, 129, 42), (0, 128, 135, 46), (0, 128, 141, 50)]).take 2, (tableOf [(0, 128, 129, 42), (0, 128, 135, 46), (0, 128, 141, 50)])[2], (tableOf [(0, 128, 129, 42), (0, 128, 135, 46), (0, 128, 141, 50)]).drop 3, _, rfl, (fun z hz => by
            simp only [tableOf, List.map_cons, List.map_nil, List.take, List.mem_cons, List.not_mem_nil, or_false] at hz
            rcases hz with rfl | rfl
            · exact Or.inr ⟨by decide, _, cl_L_42, by decide +kernel⟩
            · exact Or.inr ⟨by decide, _, cl_L_46, by decide +kernel⟩), by decide, by decide, cl_L_50, ca_50, Or.inl ⟨dL_asks_141, rfl⟩⟩
      · cases h
theorem hlvA_7 {x y z : Int32} : aStu 5 [.ref 3, .int (nI 7), .int x, .int y, .int z, aU] [.ref 3, .int (nI 7), .int x, .int y, .int z, aU] := by
  intro i u h hk
  match i, h with
  | 0, h => cases h; exact ⟨by decide, rfl, fun _ z => by cases z⟩
  | 1, h => cases h; exact ⟨by decide, rfl, fun _ z => by cases z⟩
  | 2, h => cases h; exact ⟨by decide, rfl, fun _ z => by cases z⟩
  | 3, h => cases h; exact ⟨by decide, rfl, fun _ z => by cases z⟩
  | 4, h => cases h; exact ⟨by decide, rfl, fun _ z => by cases z⟩
  | 5, h => cases h; cases hk
  | i + 6, h => simp at h
set_option maxHeartbeats 4000000 in
set_option maxRecDepth 100000 in
theorem s_L_asks7 {l : Launch} {E : aE} {S : aS} {I : aI} {L : aL} {Rf : aR} {Kr : aK} (hst : l.stackTraces = false) {x y z : Int32} (h3 : S 3 = some (.inr 3)) (hX : ∀ (Kr' : aK) (Kx' : aX), (∀ (r : Int32) S' I' L' R', Kr (some (.long r.toInt64)) S' I' L' R' → Kr' (some (.int r)) S' I' L' R') → (∀ S' I' L' R', Kr (some (.long (-70007))) S' I' L' R' → Kx' eIO S' I' L' R') → (∀ S' I' L' R', Kr (some (.long (-70009))) S' I' L' R' → Kx' eIA S' I' L' R') → (∀ S' I' L' R', Kr (some (.long (-70008))) S' I' L' R' → Kx' eIS S' I' L' R') → aMet l E yX3_ofClaim cX3_ofClaim 4 (some .int) rmX3_ofClaim [.ref 3, .int x, .int y] S I L Rf Kr' Kx') : aMetW l E yL_asks cL_asks 6 (some .long) [(0, 128, 129, 42), (0, 128, 135, 46), (0, 128, 141, 50)] rmL_asks [.ref 3, .int (nI 7), .int x, .int y, .int z] S I L Rf Kr := by
  refine aMetW.of (lv0 := [.ref 3, .int (nI 7), .int x, .int y, .int z, aU]) (z := 1) (by decide +kernel) hst rfl (Nat.le_of_ble_eq_true rfl) ?_
  intro p e s m args below meth c io0 hx htb
  have hx : aCx p l s m args meth c RL cL_asks 6 (some .long) E := hx
  refine g_iloadG_n hx dL_asks_0 rfl (nx := 1) rfl rfl ?_
  refine g_if_neN hx dL_asks_1 (tg := 14) (by decide) (nx := 4) rfl (by omega) (fun c1 => ?_) (fun c1 => ?_)
  · refine g_iloadG_n hx dL_asks_14 rfl (nx := 15) rfl rfl ?_
    refine g_iconst hx dL_asks_15 (nx := 16) rfl (v := nI 1) (by decide) ?_
    refine g_icmp_neN hx dL_asks_16 (tg := 29) (by decide) (nx := 19) rfl (by omega) (by omega) (fun c16 => ?_) (fun c16 => ?_)
    · refine g_iloadG_n hx dL_asks_29 rfl (nx := 30) rfl rfl ?_
      refine g_iconst hx dL_asks_30 (nx := 31) rfl (v := nI 2) (by decide) ?_
      refine g_icmp_neN hx dL_asks_31 (tg := 46) (by decide) (nx := 34) rfl (by omega) (by omega) (fun c31 => ?_) (fun c31 => ?_)
      · refine g_iloadG_n hx dL_asks_46 rfl (nx := 47) rfl rfl ?_
        refine g_iconst hx dL_asks_47 (nx := 48) rfl (v := nI 3) (by decide) ?_
        refine g_icmp_neN hx dL_asks_48 (tg := 61) (by decide) (nx := 51) rfl (by omega) (by omega) (fun c48 => ?_) (fun c48 => ?_)
        · refine g_iloadG_n hx dL_asks_61 rfl (nx := 62) rfl rfl ?_
          refine g_iconst hx dL_asks_62 (nx := 63) rfl (v := nI 4) (by decide) ?_
          refine g_icmp_neN hx dL_asks_63 (tg := 75) (by decide) (nx := 66) rfl (by omega) (by omega) (fun c63 => ?_) (fun c63 => ?_)
          · refine g_iloadG_n hx dL_asks_75 rfl (nx := 76) rfl rfl ?_
            refine g_iconst hx dL_asks_76 (nx := 77) rfl (v := nI 5) (by decide) ?_
            refine g_icmp_neN hx dL_asks_77 (tg := 90) (by decide) (nx := 80) rfl (by omega) (by omega) (fun c77 => ?_) (fun c77 => ?_)
            · refine g_iloadG_n hx dL_asks_90 rfl (nx := 91) rfl rfl ?_
              refine g_bipush hx dL_asks_91 (nx := 93) rfl (v := nI 6) (by decide) ?_
              refine g_icmp_neN hx dL_asks_93 (tg := 105) (by decide) (nx := 96) rfl (by omega) (by omega) (fun c93 => ?_) (fun c93 => ?_)
              · refine g_iloadG_n hx dL_asks_105 rfl (nx := 106) rfl rfl ?_
                refine g_bipush hx dL_asks_106 (nx := 108) rfl (v := nI 7) (by decide) ?_
                refine g_icmp_neN hx dL_asks_108 (tg := 121) (by decide) (nx := 111) rfl (by omega) (by omega) (fun c108 => ?_) (fun c108 => ?_)
                · exact absurd c108 (by decide)
                · refine g_aloadG_n hx dL_asks_111 rfl (nx := 112) rfl rfl ?_
                  refine g_iloadG_n hx dL_asks_112 rfl (nx := 113) rfl rfl ?_
                  refine g_iloadG_n hx dL_asks_113 rfl (nx := 114) rfl rfl ?_
                  refine g_callV_H hx [_, _] (k' := 2) (n' := 12) (lvh := [.ref 3, .int (nI 7), .int x, .int y, .int z, aU]) tgA dL_asks_114 (nx := 117) rfl lk_L_36 h3 (by decide) rfl rfl (Nat.le_of_ble_eq_true rfl) (Nat.le_of_ble_eq_true rfl) (Nat.le_of_ble_eq_true rfl) (Nat.le_of_ble_eq_true rfl) (Nat.le_of_ble_eq_true rfl) (Nat.le_of_ble_eq_true rfl) (Nat.le_of_ble_eq_true rfl) htb (by decide) hlvA_7 htgA_114 (hX _ _ (fun r S' I' L' R' hk => ?_) (fun S' I' L' R' hk => ⟨131, rfl, ?_⟩) (fun S' I' L' R' hk => ⟨137, rfl, ?_⟩) (fun S' I' L' R' hk => ⟨143, rfl, ?_⟩))
                  · refine g_i2l hx dL_asks_117 (nx := 118) rfl ?_
                    refine g_goto hx dL_asks_118 (tg := 128) (by decide) ?_
                    refine g_lret hx dL_asks_128 rfl (Nat.le_of_ble_eq_true rfl) (Nat.le_of_ble_eq_true rfl) ?_
                    exact hk
                  · refine g_ldc2 hx dL_asks_131 (nx := 134) rfl kl_L_44 ?_
                    refine g_lret hx dL_asks_134 rfl (Nat.le_of_ble_eq_true rfl) (Nat.le_of_ble_eq_true rfl) ?_
                    exact hk
                  · refine g_ldc2 hx dL_asks_137 (nx := 140) rfl kl_L_48 ?_
                    refine g_lret hx dL_asks_140 rfl (Nat.le_of_ble_eq_true rfl) (Nat.le_of_ble_eq_true rfl) ?_
                    exact hk
                  · refine g_ldc2 hx dL_asks_143 (nx := 146) rfl kl_L_52 ?_
                    refine g_lret hx dL_asks_146 rfl (Nat.le_of_ble_eq_true rfl) (Nat.le_of_ble_eq_true rfl) ?_
                    exact hk
              · exact absurd c93 (by decide)
            · exact absurd c77 (by decide)
          · exact absurd c63 (by decide)
        · exact absurd c48 (by decide)
      · exact absurd c31 (by decide)
    · exact absurd c16 (by decide)
  · exact absurd c1 (by decide)

