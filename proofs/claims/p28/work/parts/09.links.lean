/-! the words that the instructions name -/
theorem abm {w : Cond} (i : Nat) (h : lw_tbl[i]? = some w) (g : goodWord w = true) : w ∈ aBIG := List.mem_filter.mpr ⟨List.mem_of_getElem? h, g⟩
theorem tw_49 : ∀ w ∈ vx_atS RX3 49 "java/lang/IllegalArgumentException" aXn, w ∈ aBIG ∨ (w ∈ lw_tbl ∧ aNk w = true) := by
  intro w hw
  have h1 : w ∈ lw_tbl := (by decide +kernel : ∀ w ∈ vx_atS RX3 49 "java/lang/IllegalArgumentException" aXn, w ∈ lw_tbl) w hw
  have h2 : (goodWord w || aNk w) = true := (by decide +kernel : ∀ w ∈ vx_atS RX3 49 "java/lang/IllegalArgumentException" aXn, (goodWord w || aNk w) = true) w hw
  rcases Bool.or_eq_true _ _ ▸ h2 with h | h
  · exact Or.inl (List.mem_filter.mpr ⟨h1, h⟩)
  · exact Or.inr ⟨h1, h⟩
theorem to_49 : ∀ w ∈ Cond.classLink RX3 45 "java/lang/IllegalArgumentException" :: Cond.initialized "java/lang/IllegalArgumentException" :: vx_atS RX3 49 "java/lang/IllegalArgumentException" aXn, vx_ot w = true := by decide +kernel
theorem tf_49 : Bundle.fit "java/lang/IllegalArgumentException" = true ∧ (∀ n ∈ aXn, Bundle.fit n = true) ∧ Cond.classLink RX3 45 "java/lang/IllegalArgumentException" ∈ aBIG ∧ Cond.initialized "java/lang/IllegalArgumentException" ∈ aBIG := ⟨by decide +kernel, by decide +kernel, (abm 188 rfl rfl), (abm 35 rfl rfl)⟩
theorem tw_59 : ∀ w ∈ vx_atS RX3 59 "java/lang/IllegalStateException" aXn, w ∈ aBIG ∨ (w ∈ lw_tbl ∧ aNk w = true) := by
  intro w hw
  have h1 : w ∈ lw_tbl := (by decide +kernel : ∀ w ∈ vx_atS RX3 59 "java/lang/IllegalStateException" aXn, w ∈ lw_tbl) w hw
  have h2 : (goodWord w || aNk w) = true := (by decide +kernel : ∀ w ∈ vx_atS RX3 59 "java/lang/IllegalStateException" aXn, (goodWord w || aNk w) = true) w hw
  rcases Bool.or_eq_true _ _ ▸ h2 with h | h
  · exact Or.inl (List.mem_filter.mpr ⟨h1, h⟩)
  · exact Or.inr ⟨h1, h⟩
theorem to_59 : ∀ w ∈ Cond.classLink RX3 55 "java/lang/IllegalStateException" :: Cond.initialized "java/lang/IllegalStateException" :: vx_atS RX3 59 "java/lang/IllegalStateException" aXn, vx_ot w = true := by decide +kernel
theorem tf_59 : Bundle.fit "java/lang/IllegalStateException" = true ∧ (∀ n ∈ aXn, Bundle.fit n = true) ∧ Cond.classLink RX3 55 "java/lang/IllegalStateException" ∈ aBIG ∧ Cond.initialized "java/lang/IllegalStateException" ∈ aBIG := ⟨by decide +kernel, by decide +kernel, (abm 256 rfl rfl), (abm 36 rfl rfl)⟩
theorem tw_261 : ∀ w ∈ vx_atS RX3 261 "java/lang/IndexOutOfBoundsException" aXn, w ∈ aBIG ∨ (w ∈ lw_tbl ∧ aNk w = true) := by
  intro w hw
  have h1 : w ∈ lw_tbl := (by decide +kernel : ∀ w ∈ vx_atS RX3 261 "java/lang/IndexOutOfBoundsException" aXn, w ∈ lw_tbl) w hw
  have h2 : (goodWord w || aNk w) = true := (by decide +kernel : ∀ w ∈ vx_atS RX3 261 "java/lang/IndexOutOfBoundsException" aXn, (goodWord w || aNk w) = true) w hw
  rcases Bool.or_eq_true _ _ ▸ h2 with h | h
  · exact Or.inl (List.mem_filter.mpr ⟨h1, h⟩)
  · exact Or.inr ⟨h1, h⟩
theorem to_261 : ∀ w ∈ Cond.classLink RX3 257 "java/lang/IndexOutOfBoundsException" :: Cond.initialized "java/lang/IndexOutOfBoundsException" :: vx_atS RX3 261 "java/lang/IndexOutOfBoundsException" aXn, vx_ot w = true := by decide +kernel
theorem tf_261 : Bundle.fit "java/lang/IndexOutOfBoundsException" = true ∧ (∀ n ∈ aXn, Bundle.fit n = true) ∧ Cond.classLink RX3 257 "java/lang/IndexOutOfBoundsException" ∈ aBIG ∧ Cond.initialized "java/lang/IndexOutOfBoundsException" ∈ aBIG := ⟨by decide +kernel, by decide +kernel, (abm 310 rfl rfl), (abm 38 rfl rfl)⟩
set_option maxRecDepth 100000 in
set_option maxHeartbeats 4000000 in
theorem fa_X0_9 : aFo RX0 9 0 6 := ⟨_, rfl, by decide, (abm 430 rfl rfl)⟩
set_option maxRecDepth 100000 in
set_option maxHeartbeats 4000000 in
theorem fa_X0_15 : aFo RX0 15 0 8 := ⟨_, rfl, by decide, (abm 433 rfl rfl)⟩
set_option maxRecDepth 100000 in
set_option maxHeartbeats 4000000 in
theorem fa_X0_19 : aFo RX0 19 0 0 := ⟨_, rfl, by decide, (abm 421 rfl rfl)⟩
set_option maxRecDepth 100000 in
set_option maxHeartbeats 4000000 in
theorem fa_X0_22 : aFo RX0 22 0 1 := ⟨_, rfl, by decide, (abm 423 rfl rfl)⟩
set_option maxRecDepth 100000 in
set_option maxHeartbeats 4000000 in
theorem fa_X0_25 : aFo RX0 25 0 2 := ⟨_, rfl, by decide, (abm 425 rfl rfl)⟩
set_option maxRecDepth 100000 in
set_option maxHeartbeats 4000000 in
theorem fa_X1_9 : aFo RX1 9 1 0 := ⟨_, rfl, by decide, (abm 127 rfl rfl)⟩
set_option maxRecDepth 100000 in
set_option maxHeartbeats 4000000 in
theorem fa_X1_15 : aFo RX1 15 1 1 := ⟨_, rfl, by decide, (abm 128 rfl rfl)⟩
set_option maxRecDepth 100000 in
set_option maxHeartbeats 4000000 in
theorem lk_X1_19 : aLV RX1 19 yX1_gather cX1_gather 5 none 2 := ⟨(abm 380 rfl rfl), (abm 333 rfl rfl), (abm 7 rfl rfl), (abm 31 rfl rfl), (abm 334 rfl rfl), by decide +kernel, by decide +kernel, by decide +kernel⟩
set_option maxRecDepth 100000 in
set_option maxHeartbeats 4000000 in
theorem lk_X1_23 : aLV RX1 23 yX1_lessMean cX1_lessMean 6 none 0 := ⟨(abm 381 rfl rfl), (abm 383 rfl rfl), (abm 11 rfl rfl), (abm 31 rfl rfl), (abm 384 rfl rfl), by decide +kernel, by decide +kernel, by decide +kernel⟩
set_option maxRecDepth 100000 in
set_option maxHeartbeats 4000000 in
theorem lk_X1_26 : aLV RX1 26 yX1_lessDrift cX1_lessDrift 10 none 0 := ⟨(abm 388 rfl rfl), (abm 390 rfl rfl), (abm 12 rfl rfl), (abm 31 rfl rfl), (abm 391 rfl rfl), by decide +kernel, by decide +kernel, by decide +kernel⟩
set_option maxRecDepth 100000 in
set_option maxHeartbeats 4000000 in
theorem fa_X1_29 : aFn RX1 29 2 12 := ⟨_, "AsteroTone", rfl, by decide, (List.mem_of_getElem? (i := 86) rfl)⟩
set_option maxRecDepth 100000 in
set_option maxHeartbeats 4000000 in
theorem lk_X1_34 : aLV RX1 34 yX1_lessLine cX1_lessLine 10 none 1 := ⟨(abm 392 rfl rfl), (abm 394 rfl rfl), (abm 13 rfl rfl), (abm 31 rfl rfl), (abm 395 rfl rfl), by decide +kernel, by decide +kernel, by decide +kernel⟩
set_option maxRecDepth 100000 in
set_option maxHeartbeats 4000000 in
theorem fa_X1_38 : aFo RX1 38 1 2 := ⟨_, rfl, by decide, (abm 129 rfl rfl)⟩
set_option maxRecDepth 100000 in
set_option maxHeartbeats 4000000 in
theorem fa_X1_42 : aFn RX1 42 2 11 := ⟨_, "AsteroTone", rfl, by decide, (List.mem_of_getElem? (i := 83) rfl)⟩
set_option maxRecDepth 100000 in
set_option maxHeartbeats 4000000 in
theorem fa_X1_45 : aFn RX1 45 2 10 := ⟨_, "AsteroTone", rfl, by decide, (List.mem_of_getElem? (i := 80) rfl)⟩
set_option maxRecDepth 100000 in
set_option maxHeartbeats 4000000 in
theorem lk_X1_48 : aLS RX1 48 yJ7_fill_d0a16 cJ7_fill_d0a16 5 none 2 := ⟨(abm 638 rfl rfl), (abm 639 rfl rfl), (abm 30 rfl rfl), (abm 640 rfl rfl), by decide +kernel, by decide +kernel, by decide +kernel⟩
set_option maxRecDepth 100000 in
set_option maxHeartbeats 4000000 in
theorem lk_X1_54 : aLS RX1 54 yJ9_floorDiv_f86c9 cJ9_floorDiv_f86c9 6 (some .long) 2 := ⟨(abm 385 rfl rfl), (abm 386 rfl rfl), (abm 37 rfl rfl), (abm 387 rfl rfl), by decide +kernel, by decide +kernel, by decide +kernel⟩
set_option maxRecDepth 100000 in
set_option maxHeartbeats 4000000 in
theorem lk_X1_60 : aLV RX1 60 yX1_sumUp cX1_sumUp 4 none 1 := ⟨(abm 396 rfl rfl), (abm 398 rfl rfl), (abm 14 rfl rfl), (abm 31 rfl rfl), (abm 399 rfl rfl), by decide +kernel, by decide +kernel, by decide +kernel⟩
set_option maxRecDepth 100000 in
set_option maxHeartbeats 4000000 in
theorem kl_X1_63 : Cond.constantLong RX1 63 (1000) ∈ aBIG := (abm 409 rfl rfl)
set_option maxRecDepth 100000 in
set_option maxHeartbeats 4000000 in
theorem kl_X1_65 : Cond.constantLong RX1 65 (2) ∈ aBIG := (abm 410 rfl rfl)
set_option maxRecDepth 100000 in
set_option maxHeartbeats 4000000 in
theorem fa_X1_67 : aFo RX1 67 1 3 := ⟨_, rfl, by decide, (abm 131 rfl rfl)⟩
set_option maxRecDepth 100000 in
set_option maxHeartbeats 4000000 in
theorem fa_X1_71 : aFo RX1 71 1 4 := ⟨_, rfl, by decide, (abm 132 rfl rfl)⟩
set_option maxRecDepth 100000 in
set_option maxHeartbeats 4000000 in
theorem lk_X1_74 : aNS RX1 74 yX3_cosine cX3_cosine 1 (some .int) 1 := ⟨⟨"AsteroTone", (List.mem_of_getElem? (i := 400) rfl)⟩, (abm 401 rfl rfl), (abm 28 rfl rfl), (abm 402 rfl rfl), by decide +kernel, by decide +kernel, by decide +kernel⟩
set_option maxRecDepth 100000 in
set_option maxHeartbeats 4000000 in
theorem lk_X1_78 : aNS RX1 78 yX3_sine cX3_sine 1 (some .int) 1 := ⟨⟨"AsteroTone", (List.mem_of_getElem? (i := 405) rfl)⟩, (abm 406 rfl rfl), (abm 28 rfl rfl), (abm 407 rfl rfl), by decide +kernel, by decide +kernel, by decide +kernel⟩
set_option maxRecDepth 100000 in
set_option maxHeartbeats 4000000 in
theorem fa_X2_9 : aFo RX2 9 2 0 := ⟨_, rfl, by decide, (abm 62 rfl rfl)⟩
set_option maxRecDepth 100000 in
set_option maxHeartbeats 4000000 in
theorem fa_X2_15 : aFo RX2 15 2 1 := ⟨_, rfl, by decide, (abm 63 rfl rfl)⟩
set_option maxRecDepth 100000 in
set_option maxHeartbeats 4000000 in
theorem fa_X2_18 : aFo RX2 18 2 2 := ⟨_, rfl, by decide, (abm 64 rfl rfl)⟩
set_option maxRecDepth 100000 in
set_option maxHeartbeats 4000000 in
theorem fa_X2_21 : aFo RX2 21 2 10 := ⟨_, rfl, by decide, (abm 79 rfl rfl)⟩
set_option maxRecDepth 100000 in
set_option maxHeartbeats 4000000 in
theorem fa_X2_24 : aFo RX2 24 2 11 := ⟨_, rfl, by decide, (abm 82 rfl rfl)⟩
set_option maxRecDepth 100000 in
set_option maxHeartbeats 4000000 in
theorem fa_X2_27 : aFo RX2 27 2 12 := ⟨_, rfl, by decide, (abm 85 rfl rfl)⟩
set_option maxRecDepth 100000 in
set_option maxHeartbeats 4000000 in
theorem lk_X2_30 : aLS RX2 30 yJ7_fill_53178 cJ7_fill_53178 4 none 2 := ⟨(abm 59 rfl rfl), (abm 60 rfl rfl), (abm 30 rfl rfl), (abm 61 rfl rfl), by decide +kernel, by decide +kernel, by decide +kernel⟩
set_option maxRecDepth 100000 in
set_option maxHeartbeats 4000000 in
theorem fa_X2_36 : aFo RX2 36 2 3 := ⟨_, rfl, by decide, (abm 65 rfl rfl)⟩
set_option maxRecDepth 100000 in
set_option maxHeartbeats 4000000 in
theorem fa_X2_40 : aFo RX2 40 2 4 := ⟨_, rfl, by decide, (abm 67 rfl rfl)⟩
set_option maxRecDepth 100000 in
set_option maxHeartbeats 4000000 in
theorem lk_X2_43 : aLV RX2 43 yX2_crossed cX2_crossed 3 (some .int) 0 := ⟨(abm 286 rfl rfl), (abm 288 rfl rfl), (abm 3 rfl rfl), (abm 29 rfl rfl), (abm 289 rfl rfl), by decide +kernel, by decide +kernel, by decide +kernel⟩
set_option maxRecDepth 100000 in
set_option maxHeartbeats 4000000 in
theorem fa_X2_47 : aFo RX2 47 2 5 := ⟨_, rfl, by decide, (abm 69 rfl rfl)⟩
set_option maxRecDepth 100000 in
set_option maxHeartbeats 4000000 in
theorem kc_X2_50 : Cond.constant RX2 50 (10000000) ∈ aBIG := (abm 290 rfl rfl)
set_option maxRecDepth 100000 in
set_option maxHeartbeats 4000000 in
theorem fa_X2_51 : aFo RX2 51 2 6 := ⟨_, rfl, by decide, (abm 71 rfl rfl)⟩
set_option maxRecDepth 100000 in
set_option maxHeartbeats 4000000 in
theorem lk_X2_54 : aLV RX2 54 yX2_slowed cX2_slowed 3 (some .int) 0 := ⟨(abm 291 rfl rfl), (abm 293 rfl rfl), (abm 4 rfl rfl), (abm 29 rfl rfl), (abm 294 rfl rfl), by decide +kernel, by decide +kernel, by decide +kernel⟩
set_option maxRecDepth 100000 in
set_option maxHeartbeats 4000000 in
theorem fa_X2_57 : aFo RX2 57 2 7 := ⟨_, rfl, by decide, (abm 73 rfl rfl)⟩
set_option maxRecDepth 100000 in
set_option maxHeartbeats 4000000 in
theorem lk_X2_60 : aLV RX2 60 yX2_turned cX2_turned 4 (some .int) 0 := ⟨(abm 298 rfl rfl), (abm 300 rfl rfl), (abm 5 rfl rfl), (abm 29 rfl rfl), (abm 301 rfl rfl), by decide +kernel, by decide +kernel, by decide +kernel⟩
set_option maxRecDepth 100000 in
set_option maxHeartbeats 4000000 in
theorem fa_X2_63 : aFo RX2 63 2 8 := ⟨_, rfl, by decide, (abm 75 rfl rfl)⟩
set_option maxRecDepth 100000 in
set_option maxHeartbeats 4000000 in
theorem fa_X2_66 : aFo RX2 66 2 9 := ⟨_, rfl, by decide, (abm 77 rfl rfl)⟩
set_option maxRecDepth 100000 in
set_option maxHeartbeats 4000000 in
theorem lk_X2_69 : aLS RX2 69 yJ9_max_7cf53 cJ9_max_7cf53 2 (some .int) 2 := ⟨(abm 295 rfl rfl), (abm 296 rfl rfl), (abm 37 rfl rfl), (abm 297 rfl rfl), by decide +kernel, by decide +kernel, by decide +kernel⟩
set_option maxRecDepth 100000 in
set_option maxHeartbeats 4000000 in
theorem lk_X2_75 : aLS RX2 75 yJ9_abs_0f7a4 cJ9_abs_0f7a4 1 (some .int) 1 := ⟨(abm 482 rfl rfl), (abm 472 rfl rfl), (abm 37 rfl rfl), (abm 473 rfl rfl), by decide +kernel, by decide +kernel, by decide +kernel⟩
set_option maxRecDepth 100000 in
set_option maxHeartbeats 4000000 in
theorem lk_X2_79 : aLS RX2 79 yJ9_floorDiv_7cf53 cJ9_floorDiv_7cf53 3 (some .int) 2 := ⟨(abm 574 rfl rfl), (abm 575 rfl rfl), (abm 37 rfl rfl), (abm 576 rfl rfl), by decide +kernel, by decide +kernel, by decide +kernel⟩
set_option maxRecDepth 100000 in
set_option maxHeartbeats 4000000 in
theorem lk_X2_82 : aLV RX2 82 yX2_ring cX2_ring 7 (some .int) 3 := ⟨(abm 570 rfl rfl), (abm 572 rfl rfl), (abm 23 rfl rfl), (abm 29 rfl rfl), (abm 573 rfl rfl), by decide +kernel, by decide +kernel, by decide +kernel⟩
set_option maxRecDepth 100000 in
set_option maxHeartbeats 4000000 in
theorem an_X3_9 : Cond.classLink RX3 9 "AsteroTone$Star" ∈ aBIG := (abm 52 rfl rfl)
set_option maxRecDepth 100000 in
set_option maxHeartbeats 4000000 in
theorem fa_X3_11 : aFo RX3 11 3 0 := ⟨_, rfl, by decide, (abm 146 rfl rfl)⟩
set_option maxRecDepth 100000 in
set_option maxHeartbeats 4000000 in
theorem nw_X3_9 : Cond.classLink RX3 9 RX2 ∈ aBIG ∧ Cond.instantiable RX2 14 ∈ aBIG ∧ Cond.initialized RX2 ∈ aBIG ∧ ∀ b, b < 14 → (match atyT 2 b with | .float => false | .double => false | _ => true) = true := ⟨(abm 52 rfl rfl), (abm 54 rfl rfl), (abm 29 rfl rfl), by decide +kernel⟩
set_option maxRecDepth 100000 in
set_option maxHeartbeats 4000000 in
theorem lk_X3_15 : aNI RX3 15 yX2_init cX2_init 1 0 := ⟨⟨"AsteroTone", (List.mem_of_getElem? (i := 55) rfl)⟩, (abm 56 rfl rfl), (abm 29 rfl rfl), (abm 57 rfl rfl), rfl, by decide +kernel, by decide +kernel, by decide +kernel⟩
set_option maxRecDepth 100000 in
set_option maxHeartbeats 4000000 in
theorem fa_X3_16 : aFo RX3 16 3 2 := ⟨_, rfl, by decide, (abm 148 rfl rfl)⟩
set_option maxRecDepth 100000 in
set_option maxHeartbeats 4000000 in
theorem fa_X3_20 : aFo RX3 20 3 3 := ⟨_, rfl, by decide, (abm 149 rfl rfl)⟩
set_option maxRecDepth 100000 in
set_option maxHeartbeats 4000000 in
theorem fa_X3_24 : aFo RX3 24 3 4 := ⟨_, rfl, by decide, (abm 150 rfl rfl)⟩
set_option maxRecDepth 100000 in
set_option maxHeartbeats 4000000 in
theorem an_X3_28 : Cond.classLink RX3 28 "AsteroTone$Claim" ∈ aBIG := (abm 119 rfl rfl)
set_option maxRecDepth 100000 in
set_option maxHeartbeats 4000000 in
theorem fa_X3_30 : aFo RX3 30 3 5 := ⟨_, rfl, by decide, (abm 151 rfl rfl)⟩
set_option maxRecDepth 100000 in
set_option maxHeartbeats 4000000 in
theorem nw_X3_34 : Cond.classLink RX3 34 RX1 ∈ aBIG ∧ Cond.instantiable RX1 5 ∈ aBIG ∧ Cond.initialized RX1 ∈ aBIG ∧ ∀ b, b < 5 → (match atyT 1 b with | .float => false | .double => false | _ => true) = true := ⟨(abm 121 rfl rfl), (abm 122 rfl rfl), (abm 31 rfl rfl), by decide +kernel⟩
set_option maxRecDepth 100000 in
set_option maxHeartbeats 4000000 in
theorem lk_X3_36 : aNI RX3 36 yX1_init cX1_init 1 0 := ⟨⟨"AsteroTone", (List.mem_of_getElem? (i := 123) rfl)⟩, (abm 124 rfl rfl), (abm 31 rfl rfl), (abm 125 rfl rfl), rfl, by decide +kernel, by decide +kernel, by decide +kernel⟩
set_option maxRecDepth 100000 in
set_option maxHeartbeats 4000000 in
theorem fa_X3_37 : aFo RX3 37 3 7 := ⟨_, rfl, by decide, (abm 153 rfl rfl)⟩
set_option maxRecDepth 100000 in
set_option maxHeartbeats 4000000 in
theorem lk_X3_41 : aLS RX3 41 yX3_isOutside cX3_isOutside 3 (some .boolean) 3 := ⟨(abm 185 rfl rfl), (abm 186 rfl rfl), (abm 28 rfl rfl), (abm 187 rfl rfl), by decide +kernel, by decide +kernel, by decide +kernel⟩
set_option maxRecDepth 100000 in
set_option maxHeartbeats 4000000 in
theorem th_X3_45_47_49 : aTh RX3 45 47 49 "java/lang/IllegalArgumentException" "thick, speed or spin is out of range" := ⟨tf_49.1, tf_49.2.1, tf_49.2.2.1, tf_49.2.2.2, (List.mem_of_getElem? (i := 229) rfl), tw_49, to_49⟩
set_option maxRecDepth 100000 in
set_option maxHeartbeats 4000000 in
theorem fa_X3_52 : aFn RX3 52 2 3 := ⟨_, "AsteroTone", rfl, by decide, (List.mem_of_getElem? (i := 66) rfl)⟩
set_option maxRecDepth 100000 in
set_option maxHeartbeats 4000000 in
theorem th_X3_55_57_59 : aTh RX3 55 57 59 "java/lang/IllegalStateException" "the star has 8 shells" := ⟨tf_59.1, tf_59.2.1, tf_59.2.2.1, tf_59.2.2.2, (List.mem_of_getElem? (i := 265) rfl), tw_59, to_59⟩
set_option maxRecDepth 100000 in
set_option maxHeartbeats 4000000 in
theorem lk_X3_60 : aNV RX3 60 yX2_addShell cX2_addShell 4 none 3 := ⟨⟨"AsteroTone", (List.mem_of_getElem? (i := 272) rfl)⟩, (abm 274 rfl rfl), (abm 1 rfl rfl), (abm 29 rfl rfl), (abm 275 rfl rfl), by decide +kernel, by decide +kernel, by decide +kernel⟩
set_option maxRecDepth 100000 in
set_option maxHeartbeats 4000000 in
theorem th_X3_45_64_49 : aTh RX3 45 64 49 "java/lang/IllegalArgumentException" "the age is out of range" := ⟨tf_49.1, tf_49.2.1, tf_49.2.2.1, tf_49.2.2.2, (List.mem_of_getElem? (i := 280) rfl), tw_49, to_49⟩
set_option maxRecDepth 100000 in
set_option maxHeartbeats 4000000 in
theorem fa_X3_66 : aFo RX3 66 3 1 := ⟨_, rfl, by decide, (abm 147 rfl rfl)⟩
set_option maxRecDepth 100000 in
set_option maxHeartbeats 4000000 in
theorem th_X3_55_69_59 : aTh RX3 55 69 59 "java/lang/IllegalStateException" "the star has no shell, or there are 6 stars" := ⟨tf_59.1, tf_59.2.1, tf_59.2.2.1, tf_59.2.2.2, (List.mem_of_getElem? (i := 281) rfl), tw_59, to_59⟩
set_option maxRecDepth 100000 in
set_option maxHeartbeats 4000000 in
theorem lk_X3_71 : aNV RX3 71 yX2_settle cX2_settle 2 none 1 := ⟨⟨"AsteroTone", (List.mem_of_getElem? (i := 282) rfl)⟩, (abm 284 rfl rfl), (abm 2 rfl rfl), (abm 29 rfl rfl), (abm 285 rfl rfl), by decide +kernel, by decide +kernel, by decide +kernel⟩
set_option maxRecDepth 100000 in
set_option maxHeartbeats 4000000 in
theorem lk_X3_75 : aLV RX3 75 yX3_starAt cX3_starAt 2 (some (.object "AsteroTone$Star")) 1 := ⟨(abm 306 rfl rfl), (abm 308 rfl rfl), (abm 6 rfl rfl), (abm 28 rfl rfl), (abm 309 rfl rfl), by decide +kernel, by decide +kernel, by decide +kernel⟩
set_option maxRecDepth 100000 in
set_option maxHeartbeats 4000000 in
theorem lk_X3_79 : aLS RX3 79 yX3_lookForSite cX3_lookForSite 1 none 1 := ⟨(abm 523 rfl rfl), (abm 524 rfl rfl), (abm 28 rfl rfl), (abm 525 rfl rfl), by decide +kernel, by decide +kernel, by decide +kernel⟩
set_option maxRecDepth 100000 in
set_option maxHeartbeats 4000000 in
theorem lk_X3_82 : aLS RX3 82 yX3_lookAtTime cX3_lookAtTime 1 none 1 := ⟨(abm 348 rfl rfl), (abm 349 rfl rfl), (abm 28 rfl rfl), (abm 350 rfl rfl), by decide +kernel, by decide +kernel, by decide +kernel⟩
set_option maxRecDepth 100000 in
set_option maxHeartbeats 4000000 in
theorem th_X3_45_85_49 : aTh RX3 45 85 49 "java/lang/IllegalArgumentException" "the count is out of range" := ⟨tf_49.1, tf_49.2.1, tf_49.2.2.1, tf_49.2.2.2, (List.mem_of_getElem? (i := 527) rfl), tw_49, to_49⟩
set_option maxRecDepth 100000 in
set_option maxHeartbeats 4000000 in
theorem fa_X3_87 : aFn RX3 87 2 10 := ⟨_, "AsteroTone", rfl, by decide, (List.mem_of_getElem? (i := 81) rfl)⟩
set_option maxRecDepth 100000 in
set_option maxHeartbeats 4000000 in
theorem fa_X3_91 : aFn RX3 91 2 11 := ⟨_, "AsteroTone", rfl, by decide, (List.mem_of_getElem? (i := 84) rfl)⟩
set_option maxRecDepth 100000 in
set_option maxHeartbeats 4000000 in
theorem th_X3_55_94_59 : aTh RX3 55 94 59 "java/lang/IllegalStateException" "there is no frame of that time" := ⟨tf_59.1, tf_59.2.1, tf_59.2.2.1, tf_59.2.2.2, (List.mem_of_getElem? (i := 352) rfl), tw_59, to_59⟩
set_option maxRecDepth 100000 in
set_option maxHeartbeats 4000000 in
theorem kc_X3_96 : Cond.constant RX3 96 (1000000000) ∈ aBIG := (abm 537 rfl rfl)
set_option maxRecDepth 100000 in
set_option maxHeartbeats 4000000 in
theorem th_X3_45_97_49 : aTh RX3 45 97 49 "java/lang/IllegalArgumentException" "the power is out of range" := ⟨tf_49.1, tf_49.2.1, tf_49.2.2.1, tf_49.2.2.2, (List.mem_of_getElem? (i := 538) rfl), tw_49, to_49⟩
set_option maxRecDepth 100000 in
set_option maxHeartbeats 4000000 in
theorem th_X3_45_99_49 : aTh RX3 45 99 49 "java/lang/IllegalArgumentException" "the line is out of range" := ⟨tf_49.1, tf_49.2.1, tf_49.2.2.1, tf_49.2.2.2, (List.mem_of_getElem? (i := 357) rfl), tw_49, to_49⟩
set_option maxRecDepth 100000 in
set_option maxHeartbeats 4000000 in
theorem fa_X3_101 : aFn RX3 101 2 13 := ⟨_, "AsteroTone", rfl, by decide, (List.mem_of_getElem? (i := 88) rfl)⟩
set_option maxRecDepth 100000 in
set_option maxHeartbeats 4000000 in
theorem th_X3_55_104_59 : aTh RX3 55 104 59 "java/lang/IllegalStateException" "6 lines are taken out" := ⟨tf_59.1, tf_59.2.1, tf_59.2.2.1, tf_59.2.2.2, (List.mem_of_getElem? (i := 358) rfl), tw_59, to_59⟩
set_option maxRecDepth 100000 in
set_option maxHeartbeats 4000000 in
theorem fa_X3_106 : aFn RX3 106 2 12 := ⟨_, "AsteroTone", rfl, by decide, (List.mem_of_getElem? (i := 87) rfl)⟩
set_option maxRecDepth 100000 in
set_option maxHeartbeats 4000000 in
theorem lk_X3_109 : aLS RX3 109 yX3_lookForFilter cX3_lookForFilter 1 none 1 := ⟨(abm 363 rfl rfl), (abm 364 rfl rfl), (abm 28 rfl rfl), (abm 365 rfl rfl), by decide +kernel, by decide +kernel, by decide +kernel⟩
set_option maxRecDepth 100000 in
set_option maxHeartbeats 4000000 in
theorem lk_X3_112 : aLV RX3 112 yX3_lookForRoom cX3_lookForRoom 1 none 0 := ⟨(abm 367 rfl rfl), (abm 369 rfl rfl), (abm 8 rfl rfl), (abm 28 rfl rfl), (abm 370 rfl rfl), by decide +kernel, by decide +kernel, by decide +kernel⟩
set_option maxRecDepth 100000 in
set_option maxHeartbeats 4000000 in
theorem lk_X3_115 : aLV RX3 115 yX3_standsOut cX3_standsOut 6 (some .boolean) 3 := ⟨(abm 372 rfl rfl), (abm 374 rfl rfl), (abm 9 rfl rfl), (abm 28 rfl rfl), (abm 375 rfl rfl), by decide +kernel, by decide +kernel, by decide +kernel⟩
set_option maxRecDepth 100000 in
set_option maxHeartbeats 4000000 in
theorem th_X3_55_119_59 : aTh RX3 55 119 59 "java/lang/IllegalStateException" "the line is no peak" := ⟨tf_59.1, tf_59.2.1, tf_59.2.2.1, tf_59.2.2.2, (List.mem_of_getElem? (i := 415) rfl), tw_59, to_59⟩
set_option maxRecDepth 100000 in
set_option maxHeartbeats 4000000 in
theorem nw_X3_28 : Cond.classLink RX3 28 RX0 ∈ aBIG ∧ Cond.instantiable RX0 9 ∈ aBIG ∧ Cond.initialized RX0 ∈ aBIG ∧ ∀ b, b < 9 → (match atyT 0 b with | .float => false | .double => false | _ => true) = true := ⟨(abm 119 rfl rfl), (abm 416 rfl rfl), (abm 39 rfl rfl), by decide +kernel⟩
set_option maxRecDepth 100000 in
set_option maxHeartbeats 4000000 in
theorem lk_X3_121 : aNI RX3 121 yX0_init cX0_init 4 3 := ⟨⟨"AsteroTone", (List.mem_of_getElem? (i := 417) rfl)⟩, (abm 418 rfl rfl), (abm 39 rfl rfl), (abm 419 rfl rfl), rfl, by decide +kernel, by decide +kernel, by decide +kernel⟩
set_option maxRecDepth 100000 in
set_option maxHeartbeats 4000000 in
theorem fa_X3_123 : aFn RX3 123 0 3 := ⟨_, "AsteroTone", rfl, by decide, (List.mem_of_getElem? (i := 427) rfl)⟩
set_option maxRecDepth 100000 in
set_option maxHeartbeats 4000000 in
theorem fa_X3_126 : aFn RX3 126 0 4 := ⟨_, "AsteroTone", rfl, by decide, (List.mem_of_getElem? (i := 428) rfl)⟩
set_option maxRecDepth 100000 in
set_option maxHeartbeats 4000000 in
theorem lk_X3_127 : aNV RX3 127 yX1_strength cX1_strength 6 (some .long) 1 := ⟨⟨"AsteroTone", (List.mem_of_getElem? (i := 411) rfl)⟩, (abm 413 rfl rfl), (abm 15 rfl rfl), (abm 31 rfl rfl), (abm 414 rfl rfl), by decide +kernel, by decide +kernel, by decide +kernel⟩
set_option maxRecDepth 100000 in
set_option maxHeartbeats 4000000 in
theorem fa_X3_131 : aFn RX3 131 0 5 := ⟨_, "AsteroTone", rfl, by decide, (List.mem_of_getElem? (i := 429) rfl)⟩
set_option maxRecDepth 100000 in
set_option maxHeartbeats 4000000 in
theorem lk_X3_135 : aLV RX3 135 yX3_enter cX3_enter 2 (some .int) 1 := ⟨(abm 454 rfl rfl), (abm 456 rfl rfl), (abm 16 rfl rfl), (abm 28 rfl rfl), (abm 457 rfl rfl), by decide +kernel, by decide +kernel, by decide +kernel⟩
set_option maxRecDepth 100000 in
set_option maxHeartbeats 4000000 in
theorem lk_X3_139 : aLV RX3 139 yX3_claimAt cX3_claimAt 2 (some (.object "AsteroTone$Claim")) 1 := ⟨(abm 462 rfl rfl), (abm 464 rfl rfl), (abm 17 rfl rfl), (abm 28 rfl rfl), (abm 465 rfl rfl), by decide +kernel, by decide +kernel, by decide +kernel⟩
set_option maxRecDepth 100000 in
set_option maxHeartbeats 4000000 in
theorem fa_X3_143 : aFn RX3 143 0 0 := ⟨_, "AsteroTone", rfl, by decide, (List.mem_of_getElem? (i := 422) rfl)⟩
set_option maxRecDepth 100000 in
set_option maxHeartbeats 4000000 in
theorem th_X3_45_146_49 : aTh RX3 45 146 49 "java/lang/IllegalArgumentException" "one is of no tone" := ⟨tf_49.1, tf_49.2.1, tf_49.2.2.1, tf_49.2.2.2, (List.mem_of_getElem? (i := 467) rfl), tw_49, to_49⟩
set_option maxRecDepth 100000 in
set_option maxHeartbeats 4000000 in
theorem fa_X3_148 : aFn RX3 148 0 1 := ⟨_, "AsteroTone", rfl, by decide, (List.mem_of_getElem? (i := 424) rfl)⟩
set_option maxRecDepth 100000 in
set_option maxHeartbeats 4000000 in
theorem fa_X3_151 : aFn RX3 151 0 2 := ⟨_, "AsteroTone", rfl, by decide, (List.mem_of_getElem? (i := 426) rfl)⟩
set_option maxRecDepth 100000 in
set_option maxHeartbeats 4000000 in
theorem th_X3_45_154_49 : aTh RX3 45 154 49 "java/lang/IllegalArgumentException" "they are of two stars, or of one line" := ⟨tf_49.1, tf_49.2.1, tf_49.2.2.1, tf_49.2.2.2, (List.mem_of_getElem? (i := 468) rfl), tw_49, to_49⟩
set_option maxRecDepth 100000 in
set_option maxHeartbeats 4000000 in
theorem fa_X3_156 : aFn RX3 156 0 8 := ⟨_, "AsteroTone", rfl, by decide, (List.mem_of_getElem? (i := 434) rfl)⟩
set_option maxRecDepth 100000 in
set_option maxHeartbeats 4000000 in
theorem th_X3_55_160_59 : aTh RX3 55 160 59 "java/lang/IllegalStateException" "one is withdrawn" := ⟨tf_59.1, tf_59.2.1, tf_59.2.2.1, tf_59.2.2.2, (List.mem_of_getElem? (i := 469) rfl), tw_59, to_59⟩
set_option maxRecDepth 100000 in
set_option maxHeartbeats 4000000 in
theorem kc_X3_162 : Cond.constant RX3 162 (40000) ∈ aBIG := (abm 470 rfl rfl)
set_option maxRecDepth 100000 in
set_option maxHeartbeats 4000000 in
theorem lk_X3_163 : aLS RX3 163 yJ9_abs_0f7a4 cJ9_abs_0f7a4 1 (some .int) 1 := ⟨(abm 471 rfl rfl), (abm 472 rfl rfl), (abm 37 rfl rfl), (abm 473 rfl rfl), by decide +kernel, by decide +kernel, by decide +kernel⟩
set_option maxRecDepth 100000 in
set_option maxHeartbeats 4000000 in
theorem lk_X3_169 : aLV RX3 169 yX3_ageOfNearest cX3_ageOfNearest 5 (some .int) 1 := ⟨(abm 474 rfl rfl), (abm 476 rfl rfl), (abm 18 rfl rfl), (abm 28 rfl rfl), (abm 477 rfl rfl), by decide +kernel, by decide +kernel, by decide +kernel⟩
set_option maxRecDepth 100000 in
set_option maxHeartbeats 4000000 in
theorem fa_X3_172 : aFn RX3 172 0 6 := ⟨_, "AsteroTone", rfl, by decide, (List.mem_of_getElem? (i := 431) rfl)⟩
set_option maxRecDepth 100000 in
set_option maxHeartbeats 4000000 in
theorem lk_X3_175 : aLS RX3 175 yX3_bit cX3_bit 1 (some .long) 1 := ⟨(abm 483 rfl rfl), (abm 484 rfl rfl), (abm 28 rfl rfl), (abm 485 rfl rfl), by decide +kernel, by decide +kernel, by decide +kernel⟩
set_option maxRecDepth 100000 in
set_option maxHeartbeats 4000000 in
theorem fa_X3_178 : aFn RX3 178 0 7 := ⟨_, "AsteroTone", rfl, by decide, (List.mem_of_getElem? (i := 432) rfl)⟩
set_option maxRecDepth 100000 in
set_option maxHeartbeats 4000000 in
theorem th_X3_45_181_49 : aTh RX3 45 181 49 "java/lang/IllegalArgumentException" "it is of no tone" := ⟨tf_49.1, tf_49.2.1, tf_49.2.2.1, tf_49.2.2.2, (List.mem_of_getElem? (i := 490) rfl), tw_49, to_49⟩
set_option maxRecDepth 100000 in
set_option maxHeartbeats 4000000 in
theorem th_X3_55_183_59 : aTh RX3 55 183 59 "java/lang/IllegalStateException" "it is withdrawn" := ⟨tf_59.1, tf_59.2.1, tf_59.2.2.1, tf_59.2.2.2, (List.mem_of_getElem? (i := 491) rfl), tw_59, to_59⟩
set_option maxRecDepth 100000 in
set_option maxHeartbeats 4000000 in
theorem th_X3_45_185_49 : aTh RX3 45 185 49 "java/lang/IllegalArgumentException" "the other one has not a lower number" := ⟨tf_49.1, tf_49.2.1, tf_49.2.2.1, tf_49.2.2.2, (List.mem_of_getElem? (i := 496) rfl), tw_49, to_49⟩
set_option maxRecDepth 100000 in
set_option maxHeartbeats 4000000 in
theorem th_X3_55_187_59 : aTh RX3 55 187 59 "java/lang/IllegalStateException" "one is withdrawn, or it cites that" := ⟨tf_59.1, tf_59.2.1, tf_59.2.2.1, tf_59.2.2.2, (List.mem_of_getElem? (i := 497) rfl), tw_59, to_59⟩
set_option maxRecDepth 100000 in
set_option maxHeartbeats 4000000 in
theorem lk_X3_189 : aLS RX3 189 yJ13_bitCount_95d88 cJ13_bitCount_95d88 2 (some .int) 1 := ⟨(abm 498 rfl rfl), (abm 499 rfl rfl), (abm 40 rfl rfl), (abm 500 rfl rfl), by decide +kernel, by decide +kernel, by decide +kernel⟩
set_option maxRecDepth 100000 in
set_option maxHeartbeats 4000000 in
theorem lk_X3_195 : aLV RX3 195 yX3_withdrawAll cX3_withdrawAll 8 (some .int) 1 := ⟨(abm 508 rfl rfl), (abm 510 rfl rfl), (abm 20 rfl rfl), (abm 28 rfl rfl), (abm 511 rfl rfl), by decide +kernel, by decide +kernel, by decide +kernel⟩
set_option maxRecDepth 100000 in
set_option maxHeartbeats 4000000 in
theorem fa_X3_198 : aFo RX3 198 3 6 := ⟨_, rfl, by decide, (abm 152 rfl rfl)⟩
set_option maxRecDepth 100000 in
set_option maxHeartbeats 4000000 in
theorem lk_X3_201 : aLV RX3 201 yX3_holds cX3_holds 3 (some .boolean) 1 := ⟨(abm 559 rfl rfl), (abm 561 rfl rfl), (abm 21 rfl rfl), (abm 28 rfl rfl), (abm 562 rfl rfl), by decide +kernel, by decide +kernel, by decide +kernel⟩
set_option maxRecDepth 100000 in
set_option maxHeartbeats 4000000 in
theorem fa_X3_205 : aFn RX3 205 2 4 := ⟨_, "AsteroTone", rfl, by decide, (List.mem_of_getElem? (i := 68) rfl)⟩
set_option maxRecDepth 100000 in
set_option maxHeartbeats 4000000 in
theorem fa_X3_206 : aFn RX3 206 2 5 := ⟨_, "AsteroTone", rfl, by decide, (List.mem_of_getElem? (i := 70) rfl)⟩
set_option maxRecDepth 100000 in
set_option maxHeartbeats 4000000 in
theorem fa_X3_209 : aFn RX3 209 2 6 := ⟨_, "AsteroTone", rfl, by decide, (List.mem_of_getElem? (i := 72) rfl)⟩
set_option maxRecDepth 100000 in
set_option maxHeartbeats 4000000 in
theorem fa_X3_212 : aFn RX3 212 2 7 := ⟨_, "AsteroTone", rfl, by decide, (List.mem_of_getElem? (i := 74) rfl)⟩
set_option maxRecDepth 100000 in
set_option maxHeartbeats 4000000 in
theorem fa_X3_215 : aFn RX3 215 2 8 := ⟨_, "AsteroTone", rfl, by decide, (List.mem_of_getElem? (i := 76) rfl)⟩
set_option maxRecDepth 100000 in
set_option maxHeartbeats 4000000 in
theorem fa_X3_218 : aFn RX3 218 2 9 := ⟨_, "AsteroTone", rfl, by decide, (List.mem_of_getElem? (i := 78) rfl)⟩
set_option maxRecDepth 100000 in
set_option maxHeartbeats 4000000 in
theorem th_X3_45_221_49 : aTh RX3 45 221 49 "java/lang/IllegalArgumentException" "what is out of range" := ⟨tf_49.1, tf_49.2.1, tf_49.2.2.1, tf_49.2.2.2, (List.mem_of_getElem? (i := 326) rfl), tw_49, to_49⟩
set_option maxRecDepth 100000 in
set_option maxHeartbeats 4000000 in
theorem lk_X3_223 : aNV RX3 223 yX2_crossedByUnits cX2_crossedByUnits 5 (some .int) 0 := ⟨⟨"AsteroTone", (List.mem_of_getElem? (i := 598) rfl)⟩, (abm 600 rfl rfl), (abm 24 rfl rfl), (abm 29 rfl rfl), (abm 601 rfl rfl), by decide +kernel, by decide +kernel, by decide +kernel⟩
set_option maxRecDepth 100000 in
set_option maxHeartbeats 4000000 in
theorem th_X3_45_227_49 : aTh RX3 45 227 49 "java/lang/IllegalArgumentException" "order, degree or part is out of range" := ⟨tf_49.1, tf_49.2.1, tf_49.2.2.1, tf_49.2.2.2, (List.mem_of_getElem? (i := 607) rfl), tw_49, to_49⟩
set_option maxRecDepth 100000 in
set_option maxHeartbeats 4000000 in
theorem lk_X3_229 : aNV RX3 229 yX2_ring cX2_ring 7 (some .int) 3 := ⟨⟨"AsteroTone", (List.mem_of_getElem? (i := 608) rfl)⟩, (abm 572 rfl rfl), (abm 23 rfl rfl), (abm 29 rfl rfl), (abm 573 rfl rfl), by decide +kernel, by decide +kernel, by decide +kernel⟩
set_option maxRecDepth 100000 in
set_option maxHeartbeats 4000000 in
theorem lk_X3_233 : aNV RX3 233 yX1_gather cX1_gather 5 none 2 := ⟨⟨"AsteroTone", (List.mem_of_getElem? (i := 331) rfl)⟩, (abm 333 rfl rfl), (abm 7 rfl rfl), (abm 31 rfl rfl), (abm 334 rfl rfl), by decide +kernel, by decide +kernel, by decide +kernel⟩
set_option maxRecDepth 100000 in
set_option maxHeartbeats 4000000 in
theorem fa_X3_237 : aFn RX3 237 1 2 := ⟨_, "AsteroTone", rfl, by decide, (List.mem_of_getElem? (i := 130) rfl)⟩
set_option maxRecDepth 100000 in
set_option maxHeartbeats 4000000 in
theorem lk_X3_240 : aNV RX3 240 yX1_look cX1_look 6 none 4 := ⟨⟨"AsteroTone", (List.mem_of_getElem? (i := 376) rfl)⟩, (abm 378 rfl rfl), (abm 10 rfl rfl), (abm 31 rfl rfl), (abm 379 rfl rfl), by decide +kernel, by decide +kernel, by decide +kernel⟩
set_option maxRecDepth 100000 in
set_option maxHeartbeats 4000000 in
theorem lk_X3_244 : aNV RX3 244 yX1_valueAt cX1_valueAt 3 (some .long) 1 := ⟨⟨"AsteroTone", (List.mem_of_getElem? (i := 619) rfl)⟩, (abm 621 rfl rfl), (abm 25 rfl rfl), (abm 31 rfl rfl), (abm 622 rfl rfl), by decide +kernel, by decide +kernel, by decide +kernel⟩
set_option maxRecDepth 100000 in
set_option maxHeartbeats 4000000 in
theorem lk_X3_247 : aLS RX3 247 yX3_lookAtLine cX3_lookAtLine 1 none 1 := ⟨(abm 627 rfl rfl), (abm 628 rfl rfl), (abm 28 rfl rfl), (abm 629 rfl rfl), by decide +kernel, by decide +kernel, by decide +kernel⟩
set_option maxRecDepth 100000 in
set_option maxHeartbeats 4000000 in
theorem lk_X3_250 : aNV RX3 250 yX1_flatten cX1_flatten 1 none 0 := ⟨⟨"AsteroTone", (List.mem_of_getElem? (i := 634) rfl)⟩, (abm 636 rfl rfl), (abm 26 rfl rfl), (abm 31 rfl rfl), (abm 637 rfl rfl), by decide +kernel, by decide +kernel, by decide +kernel⟩
set_option maxRecDepth 100000 in
set_option maxHeartbeats 4000000 in
theorem th_X3_45_253_49 : aTh RX3 45 253 49 "java/lang/IllegalArgumentException" "both lines are the same" := ⟨tf_49.1, tf_49.2.1, tf_49.2.2.1, tf_49.2.2.2, (List.mem_of_getElem? (i := 645) rfl), tw_49, to_49⟩
set_option maxRecDepth 100000 in
set_option maxHeartbeats 4000000 in
theorem kl_X3_255 : Cond.constantLong RX3 255 (4) ∈ aBIG := (abm 646 rfl rfl)
set_option maxRecDepth 100000 in
set_option maxHeartbeats 4000000 in
theorem th_X3_257_259_261 : aTh RX3 257 259 261 "java/lang/IndexOutOfBoundsException" "there is no such star" := ⟨tf_261.1, tf_261.2.1, tf_261.2.2.1, tf_261.2.2.2, (List.mem_of_getElem? (i := 319) rfl), tw_261, to_261⟩
set_option maxRecDepth 100000 in
set_option maxHeartbeats 4000000 in
theorem th_X3_257_262_261 : aTh RX3 257 262 261 "java/lang/IndexOutOfBoundsException" "there is no such claim" := ⟨tf_261.1, tf_261.2.1, tf_261.2.2.1, tf_261.2.2.2, (List.mem_of_getElem? (i := 466) rfl), tw_261, to_261⟩
set_option maxRecDepth 100000 in
set_option maxHeartbeats 4000000 in
theorem th_X3_257_264_261 : aTh RX3 257 264 261 "java/lang/IndexOutOfBoundsException" "there is no such site" := ⟨tf_261.1, tf_261.2.1, tf_261.2.2.1, tf_261.2.2.2, (List.mem_of_getElem? (i := 526) rfl), tw_261, to_261⟩
set_option maxRecDepth 100000 in
set_option maxHeartbeats 4000000 in
theorem th_X3_257_266_261 : aTh RX3 257 266 261 "java/lang/IndexOutOfBoundsException" "there is no such filter" := ⟨tf_261.1, tf_261.2.1, tf_261.2.2.1, tf_261.2.2.2, (List.mem_of_getElem? (i := 366) rfl), tw_261, to_261⟩
set_option maxRecDepth 100000 in
set_option maxHeartbeats 4000000 in
theorem th_X3_45_268_49 : aTh RX3 45 268 49 "java/lang/IllegalArgumentException" "the time is out of range" := ⟨tf_49.1, tf_49.2.1, tf_49.2.2.1, tf_49.2.2.2, (List.mem_of_getElem? (i := 351) rfl), tw_49, to_49⟩
set_option maxRecDepth 100000 in
set_option maxHeartbeats 4000000 in
theorem th_X3_55_270_59 : aTh RX3 55 270 59 "java/lang/IllegalStateException" "there are 40 claims" := ⟨tf_59.1, tf_59.2.1, tf_59.2.2.1, tf_59.2.2.2, (List.mem_of_getElem? (i := 371) rfl), tw_59, to_59⟩
theorem gs_X3_272 : Cond.fieldLink RX3 272 "AsteroTone" "COSINES" "[I" ∈ aBIG := by decide +kernel
set_option maxRecDepth 100000 in
set_option maxHeartbeats 4000000 in
theorem lk_X3_275 : aLS RX3 275 yX3_cosine cX3_cosine 1 (some .int) 1 := ⟨(abm 408 rfl rfl), (abm 401 rfl rfl), (abm 28 rfl rfl), (abm 402 rfl rfl), by decide +kernel, by decide +kernel, by decide +kernel⟩
set_option maxRecDepth 100000 in
set_option maxHeartbeats 4000000 in
theorem lk_X3_278 : aNV RX3 278 yX2_awayFrom cX2_awayFrom 2 (some .int) 1 := ⟨⟨"AsteroTone", (List.mem_of_getElem? (i := 478) rfl)⟩, (abm 480 rfl rfl), (abm 19 rfl rfl), (abm 29 rfl rfl), (abm 481 rfl rfl), by decide +kernel, by decide +kernel, by decide +kernel⟩
set_option maxRecDepth 100000 in
set_option maxHeartbeats 4000000 in
theorem lk_X3_281 : aLS RX3 281 yJ9_min_7cf53 cJ9_min_7cf53 2 (some .int) 2 := ⟨(abm 563 rfl rfl), (abm 564 rfl rfl), (abm 37 rfl rfl), (abm 565 rfl rfl), by decide +kernel, by decide +kernel, by decide +kernel⟩
set_option maxRecDepth 100000 in
set_option maxHeartbeats 4000000 in
theorem lk_X3_285 : aNV RX3 285 yX2_ringsNear cX2_ringsNear 4 (some .boolean) 1 := ⟨⟨"AsteroTone", (List.mem_of_getElem? (i := 566) rfl)⟩, (abm 568 rfl rfl), (abm 22 rfl rfl), (abm 29 rfl rfl), (abm 569 rfl rfl), by decide +kernel, by decide +kernel, by decide +kernel⟩
set_option maxRecDepth 100000 in
set_option maxHeartbeats 4000000 in
theorem kl_J13_314 : Cond.constantLong RJ13 314 (6148914691236517205) ∈ aBIG := (abm 501 rfl rfl)
set_option maxRecDepth 100000 in
set_option maxHeartbeats 4000000 in
theorem kl_J13_316 : Cond.constantLong RJ13 316 (3689348814741910323) ∈ aBIG := (abm 502 rfl rfl)
set_option maxRecDepth 100000 in
set_option maxHeartbeats 4000000 in
theorem kl_J13_318 : Cond.constantLong RJ13 318 (1085102592571150095) ∈ aBIG := (abm 503 rfl rfl)
set_option maxRecDepth 100000 in
set_option maxHeartbeats 4000000 in
theorem kc_L_7 : Cond.constant RL 7 (1070327761) ∈ aBIG := (abm 175 rfl rfl)
set_option maxRecDepth 100000 in
set_option maxHeartbeats 4000000 in
theorem kc_L_8 : Cond.constant RL 8 (799519197) ∈ aBIG := (abm 176 rfl rfl)
set_option maxRecDepth 100000 in
set_option maxHeartbeats 4000000 in
theorem kc_L_9 : Cond.constant RL 9 (2147483647) ∈ aBIG := (abm 177 rfl rfl)
set_option maxRecDepth 100000 in
set_option maxHeartbeats 4000000 in
theorem lk_L_10 : aLV RL 10 yX3_drop cX3_drop 5 (some .int) 2 := ⟨(abm 344 rfl rfl), (abm 345 rfl rfl), (abm 346 rfl rfl), (abm 28 rfl rfl), (abm 347 rfl rfl), by decide +kernel, by decide +kernel, by decide +kernel⟩
set_option maxRecDepth 100000 in
set_option maxHeartbeats 4000000 in
theorem lk_L_16 : aLV RL 16 yX3_takeOut cX3_takeOut 4 (some .int) 2 := ⟨(abm 353 rfl rfl), (abm 354 rfl rfl), (abm 355 rfl rfl), (abm 28 rfl rfl), (abm 356 rfl rfl), by decide +kernel, by decide +kernel, by decide +kernel⟩
set_option maxRecDepth 100000 in
set_option maxHeartbeats 4000000 in
theorem lk_L_19 : aLV RL 19 yX3_claimTone cX3_claimTone 6 (some .int) 3 := ⟨(abm 359 rfl rfl), (abm 360 rfl rfl), (abm 361 rfl rfl), (abm 28 rfl rfl), (abm 362 rfl rfl), by decide +kernel, by decide +kernel, by decide +kernel⟩
set_option maxRecDepth 100000 in
set_option maxHeartbeats 4000000 in
theorem lk_L_23 : aLV RL 23 yX3_claimAge cX3_claimAge 6 (some .int) 2 := ⟨(abm 458 rfl rfl), (abm 459 rfl rfl), (abm 460 rfl rfl), (abm 28 rfl rfl), (abm 461 rfl rfl), by decide +kernel, by decide +kernel, by decide +kernel⟩
set_option maxRecDepth 100000 in
set_option maxHeartbeats 4000000 in
theorem lk_L_26 : aLV RL 26 yX3_claimPlanet cX3_claimPlanet 4 (some .int) 1 := ⟨(abm 486 rfl rfl), (abm 487 rfl rfl), (abm 488 rfl rfl), (abm 28 rfl rfl), (abm 489 rfl rfl), by decide +kernel, by decide +kernel, by decide +kernel⟩
set_option maxRecDepth 100000 in
set_option maxHeartbeats 4000000 in
theorem lk_L_30 : aLV RL 30 yX3_cite cX3_cite 5 (some .int) 2 := ⟨(abm 492 rfl rfl), (abm 493 rfl rfl), (abm 494 rfl rfl), (abm 28 rfl rfl), (abm 495 rfl rfl), by decide +kernel, by decide +kernel, by decide +kernel⟩
set_option maxRecDepth 100000 in
set_option maxHeartbeats 4000000 in
theorem lk_L_33 : aLV RL 33 yX3_withdraw cX3_withdraw 2 (some .int) 1 := ⟨(abm 504 rfl rfl), (abm 505 rfl rfl), (abm 506 rfl rfl), (abm 28 rfl rfl), (abm 507 rfl rfl), by decide +kernel, by decide +kernel, by decide +kernel⟩
set_option maxRecDepth 100000 in
set_option maxHeartbeats 4000000 in
theorem lk_L_36 : aLV RL 36 yX3_ofClaim cX3_ofClaim 4 (some .int) 2 := ⟨(abm 512 rfl rfl), (abm 513 rfl rfl), (abm 514 rfl rfl), (abm 28 rfl rfl), (abm 515 rfl rfl), by decide +kernel, by decide +kernel, by decide +kernel⟩
set_option maxRecDepth 100000 in
set_option maxHeartbeats 4000000 in
theorem lk_L_39 : aLV RL 39 yX3_ofStar cX3_ofStar 4 (some .int) 2 := ⟨(abm 302 rfl rfl), (abm 303 rfl rfl), (abm 304 rfl rfl), (abm 28 rfl rfl), (abm 305 rfl rfl), by decide +kernel, by decide +kernel, by decide +kernel⟩
set_option maxRecDepth 100000 in
set_option maxHeartbeats 4000000 in
theorem kl_L_44 : Cond.constantLong RL 44 (-70007) ∈ aBIG := (abm 516 rfl rfl)
set_option maxRecDepth 100000 in
set_option maxHeartbeats 4000000 in
theorem kl_L_48 : Cond.constantLong RL 48 (-70009) ∈ aBIG := (abm 517 rfl rfl)
set_option maxRecDepth 100000 in
set_option maxHeartbeats 4000000 in
theorem kl_L_52 : Cond.constantLong RL 52 (-70008) ∈ aBIG := (abm 518 rfl rfl)
set_option maxRecDepth 100000 in
set_option maxHeartbeats 4000000 in
theorem lk_L_54 : aLV RL 54 yX3_crossingAnew cX3_crossingAnew 2 (some .int) 1 := ⟨(abm 594 rfl rfl), (abm 595 rfl rfl), (abm 596 rfl rfl), (abm 28 rfl rfl), (abm 597 rfl rfl), by decide +kernel, by decide +kernel, by decide +kernel⟩
set_option maxRecDepth 100000 in
set_option maxHeartbeats 4000000 in
theorem kc_L_57 : Cond.constant RL 57 (10000000) ∈ aBIG := (abm 602 rfl rfl)
set_option maxRecDepth 100000 in
set_option maxHeartbeats 4000000 in
theorem lk_L_58 : aLV RL 58 yX3_tone cX3_tone 6 (some .int) 4 := ⟨(abm 603 rfl rfl), (abm 604 rfl rfl), (abm 605 rfl rfl), (abm 28 rfl rfl), (abm 606 rfl rfl), by decide +kernel, by decide +kernel, by decide +kernel⟩
set_option maxRecDepth 100000 in
set_option maxHeartbeats 4000000 in
theorem lk_L_62 : aLV RL 62 yX3_shell cX3_shell 4 (some .int) 3 := ⟨(abm 181 rfl rfl), (abm 182 rfl rfl), (abm 183 rfl rfl), (abm 28 rfl rfl), (abm 184 rfl rfl), by decide +kernel, by decide +kernel, by decide +kernel⟩
set_option maxRecDepth 100000 in
set_option maxHeartbeats 4000000 in
theorem lk_L_65 : aLV RL 65 yX3_star cX3_star 2 (some .int) 1 := ⟨(abm 276 rfl rfl), (abm 277 rfl rfl), (abm 278 rfl rfl), (abm 28 rfl rfl), (abm 279 rfl rfl), by decide +kernel, by decide +kernel, by decide +kernel⟩
set_option maxRecDepth 100000 in
set_option maxHeartbeats 4000000 in
theorem lk_L_68 : aLV RL 68 yX3_frames cX3_frames 2 (some .int) 1 := ⟨(abm 327 rfl rfl), (abm 328 rfl rfl), (abm 329 rfl rfl), (abm 28 rfl rfl), (abm 330 rfl rfl), by decide +kernel, by decide +kernel, by decide +kernel⟩
set_option maxRecDepth 100000 in
set_option maxHeartbeats 4000000 in
theorem lk_L_71 : aLV RL 71 yX3_putBack cX3_putBack 4 (some .int) 1 := ⟨(abm 539 rfl rfl), (abm 540 rfl rfl), (abm 541 rfl rfl), (abm 28 rfl rfl), (abm 542 rfl rfl), by decide +kernel, by decide +kernel, by decide +kernel⟩
set_option maxRecDepth 100000 in
set_option maxHeartbeats 4000000 in
theorem lk_L_74 : aLV RL 74 yX3_value cX3_value 5 (some .int) 3 := ⟨(abm 615 rfl rfl), (abm 616 rfl rfl), (abm 617 rfl rfl), (abm 28 rfl rfl), (abm 618 rfl rfl), by decide +kernel, by decide +kernel, by decide +kernel⟩
set_option maxRecDepth 100000 in
set_option maxHeartbeats 4000000 in
theorem lk_L_77 : aLV RL 77 yX3_power cX3_power 5 (some .long) 3 := ⟨(abm 623 rfl rfl), (abm 624 rfl rfl), (abm 625 rfl rfl), (abm 28 rfl rfl), (abm 626 rfl rfl), by decide +kernel, by decide +kernel, by decide +kernel⟩
set_option maxRecDepth 100000 in
set_option maxHeartbeats 4000000 in
theorem lk_L_81 : aLV RL 81 yX3_window cX3_window 4 (some .long) 2 := ⟨(abm 630 rfl rfl), (abm 631 rfl rfl), (abm 632 rfl rfl), (abm 28 rfl rfl), (abm 633 rfl rfl), by decide +kernel, by decide +kernel, by decide +kernel⟩
set_option maxRecDepth 100000 in
set_option maxHeartbeats 4000000 in
theorem lk_L_85 : aLV RL 85 yX3_isSeenThrough cX3_isSeenThrough 8 (some .boolean) 4 := ⟨(abm 641 rfl rfl), (abm 642 rfl rfl), (abm 643 rfl rfl), (abm 28 rfl rfl), (abm 644 rfl rfl), by decide +kernel, by decide +kernel, by decide +kernel⟩
set_option maxRecDepth 100000 in
set_option maxHeartbeats 4000000 in
theorem kl_L_89 : Cond.constantLong RL 89 (4) ∈ aBIG := (abm 647 rfl rfl)
set_option maxRecDepth 100000 in
set_option maxHeartbeats 4000000 in
theorem lk_L_91 : aLV RL 91 yX3_isPeak cX3_isPeak 5 (some .boolean) 3 := ⟨(abm 547 rfl rfl), (abm 548 rfl rfl), (abm 549 rfl rfl), (abm 28 rfl rfl), (abm 550 rfl rfl), by decide +kernel, by decide +kernel, by decide +kernel⟩
set_option maxRecDepth 100000 in
set_option maxHeartbeats 4000000 in
theorem lk_L_95 : aLW RL 95 yL_asks cL_asks 6 (some .long) [(0, 128, 129, 42), (0, 128, 135, 46), (0, 128, 141, 50)] 5 := ⟨(abm 338 rfl rfl), (abm 339 rfl rfl), (abm 27 rfl rfl), (abm 340 rfl rfl), by decide +kernel, by decide +kernel, by decide +kernel⟩
set_option maxRecDepth 100000 in
set_option maxHeartbeats 4000000 in
theorem lk_L_101 : aLV RL 101 yX3_frame cX3_frame 7 (some .int) 4 := ⟨(abm 519 rfl rfl), (abm 520 rfl rfl), (abm 521 rfl rfl), (abm 28 rfl rfl), (abm 522 rfl rfl), by decide +kernel, by decide +kernel, by decide +kernel⟩
set_option maxRecDepth 100000 in
set_option maxHeartbeats 4000000 in
theorem kc_L_104 : Cond.constant RL 104 (100000) ∈ aBIG := (abm 554 rfl rfl)
set_option maxRecDepth 100000 in
set_option maxHeartbeats 4000000 in
theorem lk_L_105 : aLV RL 105 yX3_isSound cX3_isSound 2 (some .boolean) 1 := ⟨(abm 555 rfl rfl), (abm 556 rfl rfl), (abm 557 rfl rfl), (abm 28 rfl rfl), (abm 558 rfl rfl), by decide +kernel, by decide +kernel, by decide +kernel⟩
set_option maxRecDepth 100000 in
set_option maxHeartbeats 4000000 in
theorem lk_L_109 : aLS RL 109 yL_makes cL_makes 11 (some .boolean) 9 := ⟨(abm 551 rfl rfl), (abm 552 rfl rfl), (abm 27 rfl rfl), (abm 553 rfl rfl), by decide +kernel, by decide +kernel, by decide +kernel⟩
set_option maxRecDepth 100000 in
set_option maxHeartbeats 4000000 in
theorem kc_L_113 : Cond.constant RL 113 (40000) ∈ aBIG := (abm 580 rfl rfl)
set_option maxRecDepth 100000 in
set_option maxHeartbeats 4000000 in
theorem lk_L_114 : aLS RL 114 yL_falls cL_falls 5 (some .int) 3 := ⟨(abm 584 rfl rfl), (abm 585 rfl rfl), (abm 27 rfl rfl), (abm 586 rfl rfl), by decide +kernel, by decide +kernel, by decide +kernel⟩
set_option maxRecDepth 100000 in
set_option maxHeartbeats 4000000 in
theorem lk_L_118 : aLV RL 118 yX3_audit cX3_audit 5 (some .int) 0 := ⟨(abm 587 rfl rfl), (abm 588 rfl rfl), (abm 589 rfl rfl), (abm 28 rfl rfl), (abm 590 rfl rfl), by decide +kernel, by decide +kernel, by decide +kernel⟩
set_option maxRecDepth 100000 in
set_option maxHeartbeats 4000000 in
theorem nw_L_11 : Cond.classLink RL 11 RX3 ∈ aBIG ∧ Cond.instantiable RX3 8 ∈ aBIG ∧ Cond.initialized RX3 ∈ aBIG ∧ ∀ b, b < 8 → (match atyT 3 b with | .float => false | .double => false | _ => true) = true := ⟨(abm 44 rfl rfl), (abm 45 rfl rfl), (abm 28 rfl rfl), by decide +kernel⟩
set_option maxRecDepth 100000 in
set_option maxHeartbeats 4000000 in
theorem lk_L_122 : aLI RL 122 yX3_init cX3_init 1 0 := ⟨(abm 46 rfl rfl), (abm 47 rfl rfl), (abm 28 rfl rfl), (abm 48 rfl rfl), rfl, by decide +kernel, by decide +kernel, by decide +kernel⟩
set_option maxRecDepth 100000 in
set_option maxHeartbeats 4000000 in
theorem kc_L_123 : Cond.constant RL 123 (1073741824) ∈ aBIG := (abm 171 rfl rfl)
set_option maxRecDepth 100000 in
set_option maxHeartbeats 4000000 in
theorem lk_L_124 : aLS RL 124 yL_draw cL_draw 4 (some .int) 3 := ⟨(abm 172 rfl rfl), (abm 173 rfl rfl), (abm 27 rfl rfl), (abm 174 rfl rfl), by decide +kernel, by decide +kernel, by decide +kernel⟩
set_option maxRecDepth 100000 in
set_option maxHeartbeats 4000000 in
theorem lk_L_128 : aLS RL 128 yL_builds cL_builds 16 (some .boolean) 4 := ⟨(abm 178 rfl rfl), (abm 179 rfl rfl), (abm 27 rfl rfl), (abm 180 rfl rfl), by decide +kernel, by decide +kernel, by decide +kernel⟩
set_option maxRecDepth 100000 in
set_option maxHeartbeats 4000000 in
theorem lk_L_132 : aLS RL 132 yL_frames cL_frames 9 (some .boolean) 5 := ⟨(abm 335 rfl rfl), (abm 336 rfl rfl), (abm 27 rfl rfl), (abm 337 rfl rfl), by decide +kernel, by decide +kernel, by decide +kernel⟩
set_option maxRecDepth 100000 in
set_option maxHeartbeats 4000000 in
theorem lk_L_135 : aLV RL 135 yX3_mask cX3_mask 4 (some .boolean) 2 := ⟨(abm 528 rfl rfl), (abm 529 rfl rfl), (abm 530 rfl rfl), (abm 28 rfl rfl), (abm 531 rfl rfl), by decide +kernel, by decide +kernel, by decide +kernel⟩
set_option maxRecDepth 100000 in
set_option maxHeartbeats 4000000 in
theorem kc_L_139 : Cond.constant RL 139 (2000000) ∈ aBIG := (abm 532 rfl rfl)
set_option maxRecDepth 100000 in
set_option maxHeartbeats 4000000 in
theorem lk_L_140 : aLV RL 140 yX3_threshold cX3_threshold 3 (some .int) 1 := ⟨(abm 533 rfl rfl), (abm 534 rfl rfl), (abm 535 rfl rfl), (abm 28 rfl rfl), (abm 536 rfl rfl), by decide +kernel, by decide +kernel, by decide +kernel⟩
set_option maxRecDepth 100000 in
set_option maxHeartbeats 4000000 in
theorem kl_L_143 : Cond.constantLong RL 143 (7) ∈ aBIG := (abm 543 rfl rfl)
set_option maxRecDepth 100000 in
set_option maxHeartbeats 4000000 in
theorem lk_L_145 : aLS RL 145 yL_tones cL_tones 9 (some .boolean) 5 := ⟨(abm 544 rfl rfl), (abm 545 rfl rfl), (abm 27 rfl rfl), (abm 546 rfl rfl), by decide +kernel, by decide +kernel, by decide +kernel⟩
set_option maxRecDepth 100000 in
set_option maxHeartbeats 4000000 in
theorem lk_L_149 : aLS RL 149 yL_others cL_others 19 (some .boolean) 6 := ⟨(abm 577 rfl rfl), (abm 578 rfl rfl), (abm 27 rfl rfl), (abm 579 rfl rfl), by decide +kernel, by decide +kernel, by decide +kernel⟩
set_option maxRecDepth 100000 in
set_option maxHeartbeats 4000000 in
theorem lk_L_153 : aLS RL 153 yL_audits cL_audits 8 (some .boolean) 4 := ⟨(abm 581 rfl rfl), (abm 582 rfl rfl), (abm 27 rfl rfl), (abm 583 rfl rfl), by decide +kernel, by decide +kernel, by decide +kernel⟩
set_option maxRecDepth 100000 in
set_option maxHeartbeats 4000000 in
theorem lk_L_157 : aLS RL 157 yL_isStar cL_isStar 12 (some .boolean) 3 := ⟨(abm 591 rfl rfl), (abm 592 rfl rfl), (abm 27 rfl rfl), (abm 593 rfl rfl), by decide +kernel, by decide +kernel, by decide +kernel⟩
set_option maxRecDepth 100000 in
set_option maxHeartbeats 4000000 in
theorem lk_L_161 : aLS RL 161 yL_areClaims cL_areClaims 9 (some .boolean) 4 := ⟨(abm 609 rfl rfl), (abm 610 rfl rfl), (abm 27 rfl rfl), (abm 611 rfl rfl), by decide +kernel, by decide +kernel, by decide +kernel⟩
set_option maxRecDepth 100000 in
set_option maxHeartbeats 4000000 in
theorem lk_L_165 : aLS RL 165 yL_isLight cL_isLight 20 (some .boolean) 5 := ⟨(abm 612 rfl rfl), (abm 613 rfl rfl), (abm 27 rfl rfl), (abm 614 rfl rfl), by decide +kernel, by decide +kernel, by decide +kernel⟩
set_option maxRecDepth 100000 in
set_option maxHeartbeats 4000000 in
theorem lk_L_168 : aLS RL 168 yL_sky cL_sky 15 (some .boolean) 2 := ⟨(abm 41 rfl rfl), (abm 42 rfl rfl), (abm 27 rfl rfl), (abm 43 rfl rfl), by decide +kernel, by decide +kernel, by decide +kernel⟩
theorem oi_X0 : Cond.methodLink RX0 3 objectInit ∈ aBIG := by decide +kernel
theorem oi_X1 : Cond.methodLink RX1 3 objectInit ∈ aBIG := by decide +kernel
theorem oi_X2 : Cond.methodLink RX2 3 objectInit ∈ aBIG := by decide +kernel
theorem oi_X3 : Cond.methodLink RX3 1 objectInit ∈ aBIG := by decide +kernel
theorem oi_i : Cond.instanceMethod objectInit ∈ aBIG := by decide +kernel
theorem oi_c : Cond.code objectInit ⟨#[0xb1]⟩ 1 none ∈ aBIG := by decide +kernel
theorem ac_i : Cond.arrayClass .int ∈ aBIG := by decide +kernel
theorem ac_l : Cond.arrayClass .long ∈ aBIG := by decide +kernel
theorem ac_z : Cond.arrayClass .boolean ∈ aBIG := by decide +kernel
theorem aStv.mid {v w : Value} (pre t : List Value) {i : Nat} (hi : pre.length = i) (hv : v.category = 1) (hl : ∀ u, pre[i - 1]? = some u → i ≠ 0 → (u.category == 2) = false) : aStv i v (pre ++ w :: t) (pre ++ v :: t) := by
  subst hi
  intro j u hj hk
  by_cases e : j = pre.length
  · subst e
    rw [List.getElem?_append_right (Nat.le_refl _), Nat.sub_self] at hj
    exact Or.inl ⟨rfl, (Option.some.inj hj).symm⟩
  · refine Or.inr ⟨e, ?_, fun e2 => ?_, fun z => by rw [hv] at z; cases z⟩
    · rcases Nat.lt_or_gt_of_ne e with h | h
      · rw [List.getElem?_append_left h] at hj ⊢; exact hj
      · rw [List.getElem?_append_right (Nat.le_of_lt h)] at hj ⊢
        rw [show j - pre.length = (j - pre.length - 1) + 1 by omega, List.getElem?_cons_succ] at hj ⊢
        exact hj
    · rw [List.getElem?_append_left (by omega)] at hj
      have h9 := hl u (by rw [← e2, Nat.add_sub_cancel]; exact hj) (by omega)
      intro z; rw [z] at h9; cases h9
theorem aStv.mid2 {v w w2 : Value} (pre t : List Value) {i : Nat} (hi : pre.length = i) (hl : ∀ u, pre[i - 1]? = some u → i ≠ 0 → (u.category == 2) = false) : aStv i v (pre ++ w :: w2 :: t) (pre ++ v :: aU :: t) := by
  subst hi
  intro j u hj hk
  by_cases e : j = pre.length
  · subst e
    rw [List.getElem?_append_right (Nat.le_refl _), Nat.sub_self] at hj
    exact Or.inl ⟨rfl, (Option.some.inj hj).symm⟩
  · by_cases e1 : j = pre.length + 1
    · subst e1
      rw [List.getElem?_append_right (by omega), show pre.length + 1 - pre.length = 1 by omega] at hj
      cases hj; cases hk
    · refine Or.inr ⟨e, ?_, fun e2 => ?_, fun _ => e1⟩
      · rcases Nat.lt_or_gt_of_ne e with h | h
        · rw [List.getElem?_append_left h] at hj ⊢; exact hj
        · rw [List.getElem?_append_right (Nat.le_of_lt h)] at hj ⊢
          rw [show j - pre.length = (j - pre.length - 2) + 1 + 1 by omega, List.getElem?_cons_succ, List.getElem?_cons_succ] at hj ⊢
          exact hj
      · rw [List.getElem?_append_left (by omega)] at hj
        have h9 := hl u (by rw [← e2, Nat.add_sub_cancel]; exact hj) (by omega)
        intro z; rw [z] at h9; cases h9
section ALS
variable {p : Program} {l : Launch} {e : Env} {R : Room} {s : State} {m : MethodId} {args : Array Value} {below : List Frame} {meth : Method} {c : Code} {E : aE} {io0 : aM} {S0 : aS} {nL : Nat} {Q : State → Prop}
variable {own : String} {cc : ByteArray} {ret : Option FieldType} {pc nx : Nat} {lv st t : List Value} {S : aS} {I : aI} {L : aL} {Rf : aR} {k n : Nat} {p0 p1 p2 p3 p4 p5 p6 p7 p8 p9 p10 p11 p12 p13 p14 p15 p16 p17 p18 w w2 : Value}
theorem g_istore_0 (hx : aCx p l s m args meth c own cc nL ret E) {x : Int32} (d : decode cc pc = .ok (.istore_n 0, 1)) (hn : pc + 1 = nx) (hb : 0 < nL) (kk : aG p l e R s m args below meth c E io0 S0 nL Q nx (.int x :: t) (st) S I L Rf k n) : aG p l e R s m args below meth c E io0 S0 nL Q pc (w :: t) (.int x :: st) S I L Rf k n := g_istoreG_n hx d rfl hn hb (aStv.mid [] t rfl rfl (fun u h z => absurd rfl z)) kk
theorem g_astore_0 (hx : aCx p l s m args meth c own cc nL ret E) {x : Nat} (d : decode cc pc = .ok (.astore_n 0, 1)) (hn : pc + 1 = nx) (hb : 0 < nL) (kk : aG p l e R s m args below meth c E io0 S0 nL Q nx (.ref x :: t) (st) S I L Rf k n) : aG p l e R s m args below meth c E io0 S0 nL Q pc (w :: t) (.ref x :: st) S I L Rf k n := g_astoreG_n hx d rfl hn hb (aStv.mid [] t rfl rfl (fun u h z => absurd rfl z)) kk
theorem g_lstore_0 (hx : aCx p l s m args meth c own cc nL ret E) {x : Int64} (d : decode cc pc = .ok (.lstore_n 0, 1)) (hn : pc + 1 = nx) (hb : 0 + 1 < nL) (kk : aG p l e R s m args below meth c E io0 S0 nL Q nx (.long x :: aU :: t) (st) S I L Rf k n) : aG p l e R s m args below meth c E io0 S0 nL Q pc (w :: w2 :: t) (.long x :: st) S I L Rf k n := g_lstoreG_n hx d rfl hn hb (aStv.mid2 [] t rfl (fun u h z => absurd rfl z)) kk
theorem g_iinc_0 (hx : aCx p l s m args meth c own cc nL ret E) {x v : Int32} {z : Int} (d : decode cc pc = .ok (.iinc 0 z, 3)) (hn : pc + 3 = nx) (hb : 0 < nL) (hv : Int32.ofInt z = v) (kk : aG p l e R s m args below meth c E io0 S0 nL Q nx (.int (x + v) :: t) (st) S I L Rf k n) : aG p l e R s m args below meth c E io0 S0 nL Q pc (.int x :: t) (st) S I L Rf k n := by
  subst hv
  exact g_iincG hx d hn hb (x := x) rfl rfl (aStv.mid [] t rfl rfl (fun u h z => absurd rfl z)) kk
theorem g_iincW_0 (hx : aCx p l s m args meth c own cc nL ret E) {x v : Int32} {z : Int} (d : decode cc pc = .ok (.iinc 0 z, 6)) (hn : pc + 6 = nx) (hb : 0 < nL) (hv : Int32.ofInt z = v) (kk : aG p l e R s m args below meth c E io0 S0 nL Q nx (.int (x + v) :: t) (st) S I L Rf k n) : aG p l e R s m args below meth c E io0 S0 nL Q pc (.int x :: t) (st) S I L Rf k n := by
  subst hv
  exact g_iincGW hx d hn hb (x := x) rfl rfl (aStv.mid [] t rfl rfl (fun u h z => absurd rfl z)) kk
theorem g_istore_1 (hx : aCx p l s m args meth c own cc nL ret E) {x : Int32} (d : decode cc pc = .ok (.istore_n 1, 1)) (hn : pc + 1 = nx) (hb : 1 < nL) (hc : (p0.category == 2) = false := by rfl) (kk : aG p l e R s m args below meth c E io0 S0 nL Q nx (p0 :: .int x :: t) (st) S I L Rf k n) : aG p l e R s m args below meth c E io0 S0 nL Q pc (p0 :: w :: t) (.int x :: st) S I L Rf k n := g_istoreG_n hx d rfl hn hb (aStv.mid [p0] t rfl rfl (fun u h z => by cases h; exact hc)) kk
theorem g_astore_1 (hx : aCx p l s m args meth c own cc nL ret E) {x : Nat} (d : decode cc pc = .ok (.astore_n 1, 1)) (hn : pc + 1 = nx) (hb : 1 < nL) (hc : (p0.category == 2) = false := by rfl) (kk : aG p l e R s m args below meth c E io0 S0 nL Q nx (p0 :: .ref x :: t) (st) S I L Rf k n) : aG p l e R s m args below meth c E io0 S0 nL Q pc (p0 :: w :: t) (.ref x :: st) S I L Rf k n := g_astoreG_n hx d rfl hn hb (aStv.mid [p0] t rfl rfl (fun u h z => by cases h; exact hc)) kk
theorem g_lstore_1 (hx : aCx p l s m args meth c own cc nL ret E) {x : Int64} (d : decode cc pc = .ok (.lstore_n 1, 1)) (hn : pc + 1 = nx) (hb : 1 + 1 < nL) (hc : (p0.category == 2) = false := by rfl) (kk : aG p l e R s m args below meth c E io0 S0 nL Q nx (p0 :: .long x :: aU :: t) (st) S I L Rf k n) : aG p l e R s m args below meth c E io0 S0 nL Q pc (p0 :: w :: w2 :: t) (.long x :: st) S I L Rf k n := g_lstoreG_n hx d rfl hn hb (aStv.mid2 [p0] t rfl (fun u h z => by cases h; exact hc)) kk
theorem g_iinc_1 (hx : aCx p l s m args meth c own cc nL ret E) {x v : Int32} {z : Int} (d : decode cc pc = .ok (.iinc 1 z, 3)) (hn : pc + 3 = nx) (hb : 1 < nL) (hv : Int32.ofInt z = v) (hc : (p0.category == 2) = false := by rfl) (kk : aG p l e R s m args below meth c E io0 S0 nL Q nx (p0 :: .int (x + v) :: t) (st) S I L Rf k n) : aG p l e R s m args below meth c E io0 S0 nL Q pc (p0 :: .int x :: t) (st) S I L Rf k n := by
  subst hv
  exact g_iincG hx d hn hb (x := x) rfl rfl (aStv.mid [p0] t rfl rfl (fun u h z => by cases h; exact hc)) kk
theorem g_iincW_1 (hx : aCx p l s m args meth c own cc nL ret E) {x v : Int32} {z : Int} (d : decode cc pc = .ok (.iinc 1 z, 6)) (hn : pc + 6 = nx) (hb : 1 < nL) (hv : Int32.ofInt z = v) (hc : (p0.category == 2) = false := by rfl) (kk : aG p l e R s m args below meth c E io0 S0 nL Q nx (p0 :: .int (x + v) :: t) (st) S I L Rf k n) : aG p l e R s m args below meth c E io0 S0 nL Q pc (p0 :: .int x :: t) (st) S I L Rf k n := by
  subst hv
  exact g_iincGW hx d hn hb (x := x) rfl rfl (aStv.mid [p0] t rfl rfl (fun u h z => by cases h; exact hc)) kk
theorem g_istore_2 (hx : aCx p l s m args meth c own cc nL ret E) {x : Int32} (d : decode cc pc = .ok (.istore_n 2, 1)) (hn : pc + 1 = nx) (hb : 2 < nL) (hc : (p1.category == 2) = false := by rfl) (kk : aG p l e R s m args below meth c E io0 S0 nL Q nx (p0 :: p1 :: .int x :: t) (st) S I L Rf k n) : aG p l e R s m args below meth c E io0 S0 nL Q pc (p0 :: p1 :: w :: t) (.int x :: st) S I L Rf k n := g_istoreG_n hx d rfl hn hb (aStv.mid [p0, p1] t rfl rfl (fun u h z => by cases h; exact hc)) kk
theorem g_astore_2 (hx : aCx p l s m args meth c own cc nL ret E) {x : Nat} (d : decode cc pc = .ok (.astore_n 2, 1)) (hn : pc + 1 = nx) (hb : 2 < nL) (hc : (p1.category == 2) = false := by rfl) (kk : aG p l e R s m args below meth c E io0 S0 nL Q nx (p0 :: p1 :: .ref x :: t) (st) S I L Rf k n) : aG p l e R s m args below meth c E io0 S0 nL Q pc (p0 :: p1 :: w :: t) (.ref x :: st) S I L Rf k n := g_astoreG_n hx d rfl hn hb (aStv.mid [p0, p1] t rfl rfl (fun u h z => by cases h; exact hc)) kk
theorem g_lstore_2 (hx : aCx p l s m args meth c own cc nL ret E) {x : Int64} (d : decode cc pc = .ok (.lstore_n 2, 1)) (hn : pc + 1 = nx) (hb : 2 + 1 < nL) (hc : (p1.category == 2) = false := by rfl) (kk : aG p l e R s m args below meth c E io0 S0 nL Q nx (p0 :: p1 :: .long x :: aU :: t) (st) S I L Rf k n) : aG p l e R s m args below meth c E io0 S0 nL Q pc (p0 :: p1 :: w :: w2 :: t) (.long x :: st) S I L Rf k n := g_lstoreG_n hx d rfl hn hb (aStv.mid2 [p0, p1] t rfl (fun u h z => by cases h; exact hc)) kk
theorem g_iinc_2 (hx : aCx p l s m args meth c own cc nL ret E) {x v : Int32} {z : Int} (d : decode cc pc = .ok (.iinc 2 z, 3)) (hn : pc + 3 = nx) (hb : 2 < nL) (hv : Int32.ofInt z = v) (hc : (p1.category == 2) = false := by rfl) (kk : aG p l e R s m args below meth c E io0 S0 nL Q nx (p0 :: p1 :: .int (x + v) :: t) (st) S I L Rf k n) : aG p l e R s m args below meth c E io0 S0 nL Q pc (p0 :: p1 :: .int x :: t) (st) S I L Rf k n := by
  subst hv
  exact g_iincG hx d hn hb (x := x) rfl rfl (aStv.mid [p0, p1] t rfl rfl (fun u h z => by cases h; exact hc)) kk
theorem g_iincW_2 (hx : aCx p l s m args meth c own cc nL ret E) {x v : Int32} {z : Int} (d : decode cc pc = .ok (.iinc 2 z, 6)) (hn : pc + 6 = nx) (hb : 2 < nL) (hv : Int32.ofInt z = v) (hc : (p1.category == 2) = false := by rfl) (kk : aG p l e R s m args below meth c E io0 S0 nL Q nx (p0 :: p1 :: .int (x + v) :: t) (st) S I L Rf k n) : aG p l e R s m args below meth c E io0 S0 nL Q pc (p0 :: p1 :: .int x :: t) (st) S I L Rf k n := by
  subst hv
  exact g_iincGW hx d hn hb (x := x) rfl rfl (aStv.mid [p0, p1] t rfl rfl (fun u h z => by cases h; exact hc)) kk
theorem g_istore_3 (hx : aCx p l s m args meth c own cc nL ret E) {x : Int32} (d : decode cc pc = .ok (.istore_n 3, 1)) (hn : pc + 1 = nx) (hb : 3 < nL) (hc : (p2.category == 2) = false := by rfl) (kk : aG p l e R s m args below meth c E io0 S0 nL Q nx (p0 :: p1 :: p2 :: .int x :: t) (st) S I L Rf k n) : aG p l e R s m args below meth c E io0 S0 nL Q pc (p0 :: p1 :: p2 :: w :: t) (.int x :: st) S I L Rf k n := g_istoreG_n hx d rfl hn hb (aStv.mid [p0, p1, p2] t rfl rfl (fun u h z => by cases h; exact hc)) kk
theorem g_astore_3 (hx : aCx p l s m args meth c own cc nL ret E) {x : Nat} (d : decode cc pc = .ok (.astore_n 3, 1)) (hn : pc + 1 = nx) (hb : 3 < nL) (hc : (p2.category == 2) = false := by rfl) (kk : aG p l e R s m args below meth c E io0 S0 nL Q nx (p0 :: p1 :: p2 :: .ref x :: t) (st) S I L Rf k n) : aG p l e R s m args below meth c E io0 S0 nL Q pc (p0 :: p1 :: p2 :: w :: t) (.ref x :: st) S I L Rf k n := g_astoreG_n hx d rfl hn hb (aStv.mid [p0, p1, p2] t rfl rfl (fun u h z => by cases h; exact hc)) kk
theorem g_lstore_3 (hx : aCx p l s m args meth c own cc nL ret E) {x : Int64} (d : decode cc pc = .ok (.lstore_n 3, 1)) (hn : pc + 1 = nx) (hb : 3 + 1 < nL) (hc : (p2.category == 2) = false := by rfl) (kk : aG p l e R s m args below meth c E io0 S0 nL Q nx (p0 :: p1 :: p2 :: .long x :: aU :: t) (st) S I L Rf k n) : aG p l e R s m args below meth c E io0 S0 nL Q pc (p0 :: p1 :: p2 :: w :: w2 :: t) (.long x :: st) S I L Rf k n := g_lstoreG_n hx d rfl hn hb (aStv.mid2 [p0, p1, p2] t rfl (fun u h z => by cases h; exact hc)) kk
theorem g_iinc_3 (hx : aCx p l s m args meth c own cc nL ret E) {x v : Int32} {z : Int} (d : decode cc pc = .ok (.iinc 3 z, 3)) (hn : pc + 3 = nx) (hb : 3 < nL) (hv : Int32.ofInt z = v) (hc : (p2.category == 2) = false := by rfl) (kk : aG p l e R s m args below meth c E io0 S0 nL Q nx (p0 :: p1 :: p2 :: .int (x + v) :: t) (st) S I L Rf k n) : aG p l e R s m args below meth c E io0 S0 nL Q pc (p0 :: p1 :: p2 :: .int x :: t) (st) S I L Rf k n := by
  subst hv
  exact g_iincG hx d hn hb (x := x) rfl rfl (aStv.mid [p0, p1, p2] t rfl rfl (fun u h z => by cases h; exact hc)) kk
theorem g_iincW_3 (hx : aCx p l s m args meth c own cc nL ret E) {x v : Int32} {z : Int} (d : decode cc pc = .ok (.iinc 3 z, 6)) (hn : pc + 6 = nx) (hb : 3 < nL) (hv : Int32.ofInt z = v) (hc : (p2.category == 2) = false := by rfl) (kk : aG p l e R s m args below meth c E io0 S0 nL Q nx (p0 :: p1 :: p2 :: .int (x + v) :: t) (st) S I L Rf k n) : aG p l e R s m args below meth c E io0 S0 nL Q pc (p0 :: p1 :: p2 :: .int x :: t) (st) S I L Rf k n := by
  subst hv
  exact g_iincGW hx d hn hb (x := x) rfl rfl (aStv.mid [p0, p1, p2] t rfl rfl (fun u h z => by cases h; exact hc)) kk
theorem g_istore_4 (hx : aCx p l s m args meth c own cc nL ret E) {x : Int32} (d : decode cc pc = .ok (.istore 4, 2)) (hn : pc + 2 = nx) (hb : 4 < nL) (hc : (p3.category == 2) = false := by rfl) (kk : aG p l e R s m args below meth c E io0 S0 nL Q nx (p0 :: p1 :: p2 :: p3 :: .int x :: t) (st) S I L Rf k n) : aG p l e R s m args below meth c E io0 S0 nL Q pc (p0 :: p1 :: p2 :: p3 :: w :: t) (.int x :: st) S I L Rf k n := g_istoreG hx d hn hb (aStv.mid [p0, p1, p2, p3] t rfl rfl (fun u h z => by cases h; exact hc)) kk
theorem g_astore_4 (hx : aCx p l s m args meth c own cc nL ret E) {x : Nat} (d : decode cc pc = .ok (.astore 4, 2)) (hn : pc + 2 = nx) (hb : 4 < nL) (hc : (p3.category == 2) = false := by rfl) (kk : aG p l e R s m args below meth c E io0 S0 nL Q nx (p0 :: p1 :: p2 :: p3 :: .ref x :: t) (st) S I L Rf k n) : aG p l e R s m args below meth c E io0 S0 nL Q pc (p0 :: p1 :: p2 :: p3 :: w :: t) (.ref x :: st) S I L Rf k n := g_astoreG hx d hn hb (aStv.mid [p0, p1, p2, p3] t rfl rfl (fun u h z => by cases h; exact hc)) kk
theorem g_lstore_4 (hx : aCx p l s m args meth c own cc nL ret E) {x : Int64} (d : decode cc pc = .ok (.lstore 4, 2)) (hn : pc + 2 = nx) (hb : 4 + 1 < nL) (hc : (p3.category == 2) = false := by rfl) (kk : aG p l e R s m args below meth c E io0 S0 nL Q nx (p0 :: p1 :: p2 :: p3 :: .long x :: aU :: t) (st) S I L Rf k n) : aG p l e R s m args below meth c E io0 S0 nL Q pc (p0 :: p1 :: p2 :: p3 :: w :: w2 :: t) (.long x :: st) S I L Rf k n := g_lstoreG hx d hn hb (aStv.mid2 [p0, p1, p2, p3] t rfl (fun u h z => by cases h; exact hc)) kk
theorem g_iinc_4 (hx : aCx p l s m args meth c own cc nL ret E) {x v : Int32} {z : Int} (d : decode cc pc = .ok (.iinc 4 z, 3)) (hn : pc + 3 = nx) (hb : 4 < nL) (hv : Int32.ofInt z = v) (hc : (p3.category == 2) = false := by rfl) (kk : aG p l e R s m args below meth c E io0 S0 nL Q nx (p0 :: p1 :: p2 :: p3 :: .int (x + v) :: t) (st) S I L Rf k n) : aG p l e R s m args below meth c E io0 S0 nL Q pc (p0 :: p1 :: p2 :: p3 :: .int x :: t) (st) S I L Rf k n := by
  subst hv
  exact g_iincG hx d hn hb (x := x) rfl rfl (aStv.mid [p0, p1, p2, p3] t rfl rfl (fun u h z => by cases h; exact hc)) kk
theorem g_iincW_4 (hx : aCx p l s m args meth c own cc nL ret E) {x v : Int32} {z : Int} (d : decode cc pc = .ok (.iinc 4 z, 6)) (hn : pc + 6 = nx) (hb : 4 < nL) (hv : Int32.ofInt z = v) (hc : (p3.category == 2) = false := by rfl) (kk : aG p l e R s m args below meth c E io0 S0 nL Q nx (p0 :: p1 :: p2 :: p3 :: .int (x + v) :: t) (st) S I L Rf k n) : aG p l e R s m args below meth c E io0 S0 nL Q pc (p0 :: p1 :: p2 :: p3 :: .int x :: t) (st) S I L Rf k n := by
  subst hv
  exact g_iincGW hx d hn hb (x := x) rfl rfl (aStv.mid [p0, p1, p2, p3] t rfl rfl (fun u h z => by cases h; exact hc)) kk
theorem g_istore_5 (hx : aCx p l s m args meth c own cc nL ret E) {x : Int32} (d : decode cc pc = .ok (.istore 5, 2)) (hn : pc + 2 = nx) (hb : 5 < nL) (hc : (p4.category == 2) = false := by rfl) (kk : aG p l e R s m args below meth c E io0 S0 nL Q nx (p0 :: p1 :: p2 :: p3 :: p4 :: .int x :: t) (st) S I L Rf k n) : aG p l e R s m args below meth c E io0 S0 nL Q pc (p0 :: p1 :: p2 :: p3 :: p4 :: w :: t) (.int x :: st) S I L Rf k n := g_istoreG hx d hn hb (aStv.mid [p0, p1, p2, p3, p4] t rfl rfl (fun u h z => by cases h; exact hc)) kk
theorem g_astore_5 (hx : aCx p l s m args meth c own cc nL ret E) {x : Nat} (d : decode cc pc = .ok (.astore 5, 2)) (hn : pc + 2 = nx) (hb : 5 < nL) (hc : (p4.category == 2) = false := by rfl) (kk : aG p l e R s m args below meth c E io0 S0 nL Q nx (p0 :: p1 :: p2 :: p3 :: p4 :: .ref x :: t) (st) S I L Rf k n) : aG p l e R s m args below meth c E io0 S0 nL Q pc (p0 :: p1 :: p2 :: p3 :: p4 :: w :: t) (.ref x :: st) S I L Rf k n := g_astoreG hx d hn hb (aStv.mid [p0, p1, p2, p3, p4] t rfl rfl (fun u h z => by cases h; exact hc)) kk
theorem g_lstore_5 (hx : aCx p l s m args meth c own cc nL ret E) {x : Int64} (d : decode cc pc = .ok (.lstore 5, 2)) (hn : pc + 2 = nx) (hb : 5 + 1 < nL) (hc : (p4.category == 2) = false := by rfl) (kk : aG p l e R s m args below meth c E io0 S0 nL Q nx (p0 :: p1 :: p2 :: p3 :: p4 :: .long x :: aU :: t) (st) S I L Rf k n) : aG p l e R s m args below meth c E io0 S0 nL Q pc (p0 :: p1 :: p2 :: p3 :: p4 :: w :: w2 :: t) (.long x :: st) S I L Rf k n := g_lstoreG hx d hn hb (aStv.mid2 [p0, p1, p2, p3, p4] t rfl (fun u h z => by cases h; exact hc)) kk
theorem g_iinc_5 (hx : aCx p l s m args meth c own cc nL ret E) {x v : Int32} {z : Int} (d : decode cc pc = .ok (.iinc 5 z, 3)) (hn : pc + 3 = nx) (hb : 5 < nL) (hv : Int32.ofInt z = v) (hc : (p4.category == 2) = false := by rfl) (kk : aG p l e R s m args below meth c E io0 S0 nL Q nx (p0 :: p1 :: p2 :: p3 :: p4 :: .int (x + v) :: t) (st) S I L Rf k n) : aG p l e R s m args below meth c E io0 S0 nL Q pc (p0 :: p1 :: p2 :: p3 :: p4 :: .int x :: t) (st) S I L Rf k n := by
  subst hv
  exact g_iincG hx d hn hb (x := x) rfl rfl (aStv.mid [p0, p1, p2, p3, p4] t rfl rfl (fun u h z => by cases h; exact hc)) kk
theorem g_iincW_5 (hx : aCx p l s m args meth c own cc nL ret E) {x v : Int32} {z : Int} (d : decode cc pc = .ok (.iinc 5 z, 6)) (hn : pc + 6 = nx) (hb : 5 < nL) (hv : Int32.ofInt z = v) (hc : (p4.category == 2) = false := by rfl) (kk : aG p l e R s m args below meth c E io0 S0 nL Q nx (p0 :: p1 :: p2 :: p3 :: p4 :: .int (x + v) :: t) (st) S I L Rf k n) : aG p l e R s m args below meth c E io0 S0 nL Q pc (p0 :: p1 :: p2 :: p3 :: p4 :: .int x :: t) (st) S I L Rf k n := by
  subst hv
  exact g_iincGW hx d hn hb (x := x) rfl rfl (aStv.mid [p0, p1, p2, p3, p4] t rfl rfl (fun u h z => by cases h; exact hc)) kk
theorem g_istore_6 (hx : aCx p l s m args meth c own cc nL ret E) {x : Int32} (d : decode cc pc = .ok (.istore 6, 2)) (hn : pc + 2 = nx) (hb : 6 < nL) (hc : (p5.category == 2) = false := by rfl) (kk : aG p l e R s m args below meth c E io0 S0 nL Q nx (p0 :: p1 :: p2 :: p3 :: p4 :: p5 :: .int x :: t) (st) S I L Rf k n) : aG p l e R s m args below meth c E io0 S0 nL Q pc (p0 :: p1 :: p2 :: p3 :: p4 :: p5 :: w :: t) (.int x :: st) S I L Rf k n := g_istoreG hx d hn hb (aStv.mid [p0, p1, p2, p3, p4, p5] t rfl rfl (fun u h z => by cases h; exact hc)) kk
theorem g_astore_6 (hx : aCx p l s m args meth c own cc nL ret E) {x : Nat} (d : decode cc pc = .ok (.astore 6, 2)) (hn : pc + 2 = nx) (hb : 6 < nL) (hc : (p5.category == 2) = false := by rfl) (kk : aG p l e R s m args below meth c E io0 S0 nL Q nx (p0 :: p1 :: p2 :: p3 :: p4 :: p5 :: .ref x :: t) (st) S I L Rf k n) : aG p l e R s m args below meth c E io0 S0 nL Q pc (p0 :: p1 :: p2 :: p3 :: p4 :: p5 :: w :: t) (.ref x :: st) S I L Rf k n := g_astoreG hx d hn hb (aStv.mid [p0, p1, p2, p3, p4, p5] t rfl rfl (fun u h z => by cases h; exact hc)) kk
theorem g_lstore_6 (hx : aCx p l s m args meth c own cc nL ret E) {x : Int64} (d : decode cc pc = .ok (.lstore 6, 2)) (hn : pc + 2 = nx) (hb : 6 + 1 < nL) (hc : (p5.category == 2) = false := by rfl) (kk : aG p l e R s m args below meth c E io0 S0 nL Q nx (p0 :: p1 :: p2 :: p3 :: p4 :: p5 :: .long x :: aU :: t) (st) S I L Rf k n) : aG p l e R s m args below meth c E io0 S0 nL Q pc (p0 :: p1 :: p2 :: p3 :: p4 :: p5 :: w :: w2 :: t) (.long x :: st) S I L Rf k n := g_lstoreG hx d hn hb (aStv.mid2 [p0, p1, p2, p3, p4, p5] t rfl (fun u h z => by cases h; exact hc)) kk
theorem g_iinc_6 (hx : aCx p l s m args meth c own cc nL ret E) {x v : Int32} {z : Int} (d : decode cc pc = .ok (.iinc 6 z, 3)) (hn : pc + 3 = nx) (hb : 6 < nL) (hv : Int32.ofInt z = v) (hc : (p5.category == 2) = false := by rfl) (kk : aG p l e R s m args below meth c E io0 S0 nL Q nx (p0 :: p1 :: p2 :: p3 :: p4 :: p5 :: .int (x + v) :: t) (st) S I L Rf k n) : aG p l e R s m args below meth c E io0 S0 nL Q pc (p0 :: p1 :: p2 :: p3 :: p4 :: p5 :: .int x :: t) (st) S I L Rf k n := by
  subst hv
  exact g_iincG hx d hn hb (x := x) rfl rfl (aStv.mid [p0, p1, p2, p3, p4, p5] t rfl rfl (fun u h z => by cases h; exact hc)) kk
theorem g_iincW_6 (hx : aCx p l s m args meth c own cc nL ret E) {x v : Int32} {z : Int} (d : decode cc pc = .ok (.iinc 6 z, 6)) (hn : pc + 6 = nx) (hb : 6 < nL) (hv : Int32.ofInt z = v) (hc : (p5.category == 2) = false := by rfl) (kk : aG p l e R s m args below meth c E io0 S0 nL Q nx (p0 :: p1 :: p2 :: p3 :: p4 :: p5 :: .int (x + v) :: t) (st) S I L Rf k n) : aG p l e R s m args below meth c E io0 S0 nL Q pc (p0 :: p1 :: p2 :: p3 :: p4 :: p5 :: .int x :: t) (st) S I L Rf k n := by
  subst hv
  exact g_iincGW hx d hn hb (x := x) rfl rfl (aStv.mid [p0, p1, p2, p3, p4, p5] t rfl rfl (fun u h z => by cases h; exact hc)) kk
theorem g_istore_7 (hx : aCx p l s m args meth c own cc nL ret E) {x : Int32} (d : decode cc pc = .ok (.istore 7, 2)) (hn : pc + 2 = nx) (hb : 7 < nL) (hc : (p6.category == 2) = false := by rfl) (kk : aG p l e R s m args below meth c E io0 S0 nL Q nx (p0 :: p1 :: p2 :: p3 :: p4 :: p5 :: p6 :: .int x :: t) (st) S I L Rf k n) : aG p l e R s m args below meth c E io0 S0 nL Q pc (p0 :: p1 :: p2 :: p3 :: p4 :: p5 :: p6 :: w :: t) (.int x :: st) S I L Rf k n := g_istoreG hx d hn hb (aStv.mid [p0, p1, p2, p3, p4, p5, p6] t rfl rfl (fun u h z => by cases h; exact hc)) kk
theorem g_astore_7 (hx : aCx p l s m args meth c own cc nL ret E) {x : Nat} (d : decode cc pc = .ok (.astore 7, 2)) (hn : pc + 2 = nx) (hb : 7 < nL) (hc : (p6.category == 2) = false := by rfl) (kk : aG p l e R s m args below meth c E io0 S0 nL Q nx (p0 :: p1 :: p2 :: p3 :: p4 :: p5 :: p6 :: .ref x :: t) (st) S I L Rf k n) : aG p l e R s m args below meth c E io0 S0 nL Q pc (p0 :: p1 :: p2 :: p3 :: p4 :: p5 :: p6 :: w :: t) (.ref x :: st) S I L Rf k n := g_astoreG hx d hn hb (aStv.mid [p0, p1, p2, p3, p4, p5, p6] t rfl rfl (fun u h z => by cases h; exact hc)) kk
theorem g_lstore_7 (hx : aCx p l s m args meth c own cc nL ret E) {x : Int64} (d : decode cc pc = .ok (.lstore 7, 2)) (hn : pc + 2 = nx) (hb : 7 + 1 < nL) (hc : (p6.category == 2) = false := by rfl) (kk : aG p l e R s m args below meth c E io0 S0 nL Q nx (p0 :: p1 :: p2 :: p3 :: p4 :: p5 :: p6 :: .long x :: aU :: t) (st) S I L Rf k n) : aG p l e R s m args below meth c E io0 S0 nL Q pc (p0 :: p1 :: p2 :: p3 :: p4 :: p5 :: p6 :: w :: w2 :: t) (.long x :: st) S I L Rf k n := g_lstoreG hx d hn hb (aStv.mid2 [p0, p1, p2, p3, p4, p5, p6] t rfl (fun u h z => by cases h; exact hc)) kk
theorem g_iinc_7 (hx : aCx p l s m args meth c own cc nL ret E) {x v : Int32} {z : Int} (d : decode cc pc = .ok (.iinc 7 z, 3)) (hn : pc + 3 = nx) (hb : 7 < nL) (hv : Int32.ofInt z = v) (hc : (p6.category == 2) = false := by rfl) (kk : aG p l e R s m args below meth c E io0 S0 nL Q nx (p0 :: p1 :: p2 :: p3 :: p4 :: p5 :: p6 :: .int (x + v) :: t) (st) S I L Rf k n) : aG p l e R s m args below meth c E io0 S0 nL Q pc (p0 :: p1 :: p2 :: p3 :: p4 :: p5 :: p6 :: .int x :: t) (st) S I L Rf k n := by
  subst hv
  exact g_iincG hx d hn hb (x := x) rfl rfl (aStv.mid [p0, p1, p2, p3, p4, p5, p6] t rfl rfl (fun u h z => by cases h; exact hc)) kk
theorem g_iincW_7 (hx : aCx p l s m args meth c own cc nL ret E) {x v : Int32} {z : Int} (d : decode cc pc = .ok (.iinc 7 z, 6)) (hn : pc + 6 = nx) (hb : 7 < nL) (hv : Int32.ofInt z = v) (hc : (p6.category == 2) = false := by rfl) (kk : aG p l e R s m args below meth c E io0 S0 nL Q nx (p0 :: p1 :: p2 :: p3 :: p4 :: p5 :: p6 :: .int (x + v) :: t) (st) S I L Rf k n) : aG p l e R s m args below meth c E io0 S0 nL Q pc (p0 :: p1 :: p2 :: p3 :: p4 :: p5 :: p6 :: .int x :: t) (st) S I L Rf k n := by
  subst hv
  exact g_iincGW hx d hn hb (x := x) rfl rfl (aStv.mid [p0, p1, p2, p3, p4, p5, p6] t rfl rfl (fun u h z => by cases h; exact hc)) kk
theorem g_istore_8 (hx : aCx p l s m args meth c own cc nL ret E) {x : Int32} (d : decode cc pc = .ok (.istore 8, 2)) (hn : pc + 2 = nx) (hb : 8 < nL) (hc : (p7.category == 2) = false := by rfl) (kk : aG p l e R s m args below meth c E io0 S0 nL Q nx (p0 :: p1 :: p2 :: p3 :: p4 :: p5 :: p6 :: p7 :: .int x :: t) (st) S I L Rf k n) : aG p l e R s m args below meth c E io0 S0 nL Q pc (p0 :: p1 :: p2 :: p3 :: p4 :: p5 :: p6 :: p7 :: w :: t) (.int x :: st) S I L Rf k n := g_istoreG hx d hn hb (aStv.mid [p0, p1, p2, p3, p4, p5, p6, p7] t rfl rfl (fun u h z => by cases h; exact hc)) kk
theorem g_astore_8 (hx : aCx p l s m args meth c own cc nL ret E) {x : Nat} (d : decode cc pc = .ok (.astore 8, 2)) (hn : pc + 2 = nx) (hb : 8 < nL) (hc : (p7.category == 2) = false := by rfl) (kk : aG p l e R s m args below meth c E io0 S0 nL Q nx (p0 :: p1 :: p2 :: p3 :: p4 :: p5 :: p6 :: p7 :: .ref x :: t) (st) S I L Rf k n) : aG p l e R s m args below meth c E io0 S0 nL Q pc (p0 :: p1 :: p2 :: p3 :: p4 :: p5 :: p6 :: p7 :: w :: t) (.ref x :: st) S I L Rf k n := g_astoreG hx d hn hb (aStv.mid [p0, p1, p2, p3, p4, p5, p6, p7] t rfl rfl (fun u h z => by cases h; exact hc)) kk
theorem g_lstore_8 (hx : aCx p l s m args meth c own cc nL ret E) {x : Int64} (d : decode cc pc = .ok (.lstore 8, 2)) (hn : pc + 2 = nx) (hb : 8 + 1 < nL) (hc : (p7.category == 2) = false := by rfl) (kk : aG p l e R s m args below meth c E io0 S0 nL Q nx (p0 :: p1 :: p2 :: p3 :: p4 :: p5 :: p6 :: p7 :: .long x :: aU :: t) (st) S I L Rf k n) : aG p l e R s m args below meth c E io0 S0 nL Q pc (p0 :: p1 :: p2 :: p3 :: p4 :: p5 :: p6 :: p7 :: w :: w2 :: t) (.long x :: st) S I L Rf k n := g_lstoreG hx d hn hb (aStv.mid2 [p0, p1, p2, p3, p4, p5, p6, p7] t rfl (fun u h z => by cases h; exact hc)) kk
theorem g_iinc_8 (hx : aCx p l s m args meth c own cc nL ret E) {x v : Int32} {z : Int} (d : decode cc pc = .ok (.iinc 8 z, 3)) (hn : pc + 3 = nx) (hb : 8 < nL) (hv : Int32.ofInt z = v) (hc : (p7.category == 2) = false := by rfl) (kk : aG p l e R s m args below meth c E io0 S0 nL Q nx (p0 :: p1 :: p2 :: p3 :: p4 :: p5 :: p6 :: p7 :: .int (x + v) :: t) (st) S I L Rf k n) : aG p l e R s m args below meth c E io0 S0 nL Q pc (p0 :: p1 :: p2 :: p3 :: p4 :: p5 :: p6 :: p7 :: .int x :: t) (st) S I L Rf k n := by
  subst hv
  exact g_iincG hx d hn hb (x := x) rfl rfl (aStv.mid [p0, p1, p2, p3, p4, p5, p6, p7] t rfl rfl (fun u h z => by cases h; exact hc)) kk
theorem g_iincW_8 (hx : aCx p l s m args meth c own cc nL ret E) {x v : Int32} {z : Int} (d : decode cc pc = .ok (.iinc 8 z, 6)) (hn : pc + 6 = nx) (hb : 8 < nL) (hv : Int32.ofInt z = v) (hc : (p7.category == 2) = false := by rfl) (kk : aG p l e R s m args below meth c E io0 S0 nL Q nx (p0 :: p1 :: p2 :: p3 :: p4 :: p5 :: p6 :: p7 :: .int (x + v) :: t) (st) S I L Rf k n) : aG p l e R s m args below meth c E io0 S0 nL Q pc (p0 :: p1 :: p2 :: p3 :: p4 :: p5 :: p6 :: p7 :: .int x :: t) (st) S I L Rf k n := by
  subst hv
  exact g_iincGW hx d hn hb (x := x) rfl rfl (aStv.mid [p0, p1, p2, p3, p4, p5, p6, p7] t rfl rfl (fun u h z => by cases h; exact hc)) kk
theorem g_istore_9 (hx : aCx p l s m args meth c own cc nL ret E) {x : Int32} (d : decode cc pc = .ok (.istore 9, 2)) (hn : pc + 2 = nx) (hb : 9 < nL) (hc : (p8.category == 2) = false := by rfl) (kk : aG p l e R s m args below meth c E io0 S0 nL Q nx (p0 :: p1 :: p2 :: p3 :: p4 :: p5 :: p6 :: p7 :: p8 :: .int x :: t) (st) S I L Rf k n) : aG p l e R s m args below meth c E io0 S0 nL Q pc (p0 :: p1 :: p2 :: p3 :: p4 :: p5 :: p6 :: p7 :: p8 :: w :: t) (.int x :: st) S I L Rf k n := g_istoreG hx d hn hb (aStv.mid [p0, p1, p2, p3, p4, p5, p6, p7, p8] t rfl rfl (fun u h z => by cases h; exact hc)) kk
theorem g_astore_9 (hx : aCx p l s m args meth c own cc nL ret E) {x : Nat} (d : decode cc pc = .ok (.astore 9, 2)) (hn : pc + 2 = nx) (hb : 9 < nL) (hc : (p8.category == 2) = false := by rfl) (kk : aG p l e R s m args below meth c E io0 S0 nL Q nx (p0 :: p1 :: p2 :: p3 :: p4 :: p5 :: p6 :: p7 :: p8 :: .ref x :: t) (st) S I L Rf k n) : aG p l e R s m args below meth c E io0 S0 nL Q pc (p0 :: p1 :: p2 :: p3 :: p4 :: p5 :: p6 :: p7 :: p8 :: w :: t) (.ref x :: st) S I L Rf k n := g_astoreG hx d hn hb (aStv.mid [p0, p1, p2, p3, p4, p5, p6, p7, p8] t rfl rfl (fun u h z => by cases h; exact hc)) kk
theorem g_lstore_9 (hx : aCx p l s m args meth c own cc nL ret E) {x : Int64} (d : decode cc pc = .ok (.lstore 9, 2)) (hn : pc + 2 = nx) (hb : 9 + 1 < nL) (hc : (p8.category == 2) = false := by rfl) (kk : aG p l e R s m args below meth c E io0 S0 nL Q nx (p0 :: p1 :: p2 :: p3 :: p4 :: p5 :: p6 :: p7 :: p8 :: .long x :: aU :: t) (st) S I L Rf k n) : aG p l e R s m args below meth c E io0 S0 nL Q pc (p0 :: p1 :: p2 :: p3 :: p4 :: p5 :: p6 :: p7 :: p8 :: w :: w2 :: t) (.long x :: st) S I L Rf k n := g_lstoreG hx d hn hb (aStv.mid2 [p0, p1, p2, p3, p4, p5, p6, p7, p8] t rfl (fun u h z => by cases h; exact hc)) kk
theorem g_iinc_9 (hx : aCx p l s m args meth c own cc nL ret E) {x v : Int32} {z : Int} (d : decode cc pc = .ok (.iinc 9 z, 3)) (hn : pc + 3 = nx) (hb : 9 < nL) (hv : Int32.ofInt z = v) (hc : (p8.category == 2) = false := by rfl) (kk : aG p l e R s m args below meth c E io0 S0 nL Q nx (p0 :: p1 :: p2 :: p3 :: p4 :: p5 :: p6 :: p7 :: p8 :: .int (x + v) :: t) (st) S I L Rf k n) : aG p l e R s m args below meth c E io0 S0 nL Q pc (p0 :: p1 :: p2 :: p3 :: p4 :: p5 :: p6 :: p7 :: p8 :: .int x :: t) (st) S I L Rf k n := by
  subst hv
  exact g_iincG hx d hn hb (x := x) rfl rfl (aStv.mid [p0, p1, p2, p3, p4, p5, p6, p7, p8] t rfl rfl (fun u h z => by cases h; exact hc)) kk
theorem g_iincW_9 (hx : aCx p l s m args meth c own cc nL ret E) {x v : Int32} {z : Int} (d : decode cc pc = .ok (.iinc 9 z, 6)) (hn : pc + 6 = nx) (hb : 9 < nL) (hv : Int32.ofInt z = v) (hc : (p8.category == 2) = false := by rfl) (kk : aG p l e R s m args below meth c E io0 S0 nL Q nx (p0 :: p1 :: p2 :: p3 :: p4 :: p5 :: p6 :: p7 :: p8 :: .int (x + v) :: t) (st) S I L Rf k n) : aG p l e R s m args below meth c E io0 S0 nL Q pc (p0 :: p1 :: p2 :: p3 :: p4 :: p5 :: p6 :: p7 :: p8 :: .int x :: t) (st) S I L Rf k n := by
  subst hv
  exact g_iincGW hx d hn hb (x := x) rfl rfl (aStv.mid [p0, p1, p2, p3, p4, p5, p6, p7, p8] t rfl rfl (fun u h z => by cases h; exact hc)) kk
theorem g_istore_10 (hx : aCx p l s m args meth c own cc nL ret E) {x : Int32} (d : decode cc pc = .ok (.istore 10, 2)) (hn : pc + 2 = nx) (hb : 10 < nL) (hc : (p9.category == 2) = false := by rfl) (kk : aG p l e R s m args below meth c E io0 S0 nL Q nx (p0 :: p1 :: p2 :: p3 :: p4 :: p5 :: p6 :: p7 :: p8 :: p9 :: .int x :: t) (st) S I L Rf k n) : aG p l e R s m args below meth c E io0 S0 nL Q pc (p0 :: p1 :: p2 :: p3 :: p4 :: p5 :: p6 :: p7 :: p8 :: p9 :: w :: t) (.int x :: st) S I L Rf k n := g_istoreG hx d hn hb (aStv.mid [p0, p1, p2, p3, p4, p5, p6, p7, p8, p9] t rfl rfl (fun u h z => by cases h; exact hc)) kk
theorem g_astore_10 (hx : aCx p l s m args meth c own cc nL ret E) {x : Nat} (d : decode cc pc = .ok (.astore 10, 2)) (hn : pc + 2 = nx) (hb : 10 < nL) (hc : (p9.category == 2) = false := by rfl) (kk : aG p l e R s m args below meth c E io0 S0 nL Q nx (p0 :: p1 :: p2 :: p3 :: p4 :: p5 :: p6 :: p7 :: p8 :: p9 :: .ref x :: t) (st) S I L Rf k n) : aG p l e R s m args below meth c E io0 S0 nL Q pc (p0 :: p1 :: p2 :: p3 :: p4 :: p5 :: p6 :: p7 :: p8 :: p9 :: w :: t) (.ref x :: st) S I L Rf k n := g_astoreG hx d hn hb (aStv.mid [p0, p1, p2, p3, p4, p5, p6, p7, p8, p9] t rfl rfl (fun u h z => by cases h; exact hc)) kk
theorem g_lstore_10 (hx : aCx p l s m args meth c own cc nL ret E) {x : Int64} (d : decode cc pc = .ok (.lstore 10, 2)) (hn : pc + 2 = nx) (hb : 10 + 1 < nL) (hc : (p9.category == 2) = false := by rfl) (kk : aG p l e R s m args below meth c E io0 S0 nL Q nx (p0 :: p1 :: p2 :: p3 :: p4 :: p5 :: p6 :: p7 :: p8 :: p9 :: .long x :: aU :: t) (st) S I L Rf k n) : aG p l e R s m args below meth c E io0 S0 nL Q pc (p0 :: p1 :: p2 :: p3 :: p4 :: p5 :: p6 :: p7 :: p8 :: p9 :: w :: w2 :: t) (.long x :: st) S I L Rf k n := g_lstoreG hx d hn hb (aStv.mid2 [p0, p1, p2, p3, p4, p5, p6, p7, p8, p9] t rfl (fun u h z => by cases h; exact hc)) kk
theorem g_iinc_10 (hx : aCx p l s m args meth c own cc nL ret E) {x v : Int32} {z : Int} (d : decode cc pc = .ok (.iinc 10 z, 3)) (hn : pc + 3 = nx) (hb : 10 < nL) (hv : Int32.ofInt z = v) (hc : (p9.category == 2) = false := by rfl) (kk : aG p l e R s m args below meth c E io0 S0 nL Q nx (p0 :: p1 :: p2 :: p3 :: p4 :: p5 :: p6 :: p7 :: p8 :: p9 :: .int (x + v) :: t) (st) S I L Rf k n) : aG p l e R s m args below meth c E io0 S0 nL Q pc (p0 :: p1 :: p2 :: p3 :: p4 :: p5 :: p6 :: p7 :: p8 :: p9 :: .int x :: t) (st) S I L Rf k n := by
  subst hv
  exact g_iincG hx d hn hb (x := x) rfl rfl (aStv.mid [p0, p1, p2, p3, p4, p5, p6, p7, p8, p9] t rfl rfl (fun u h z => by cases h; exact hc)) kk
theorem g_iincW_10 (hx : aCx p l s m args meth c own cc nL ret E) {x v : Int32} {z : Int} (d : decode cc pc = .ok (.iinc 10 z, 6)) (hn : pc + 6 = nx) (hb : 10 < nL) (hv : Int32.ofInt z = v) (hc : (p9.category == 2) = false := by rfl) (kk : aG p l e R s m args below meth c E io0 S0 nL Q nx (p0 :: p1 :: p2 :: p3 :: p4 :: p5 :: p6 :: p7 :: p8 :: p9 :: .int (x + v) :: t) (st) S I L Rf k n) : aG p l e R s m args below meth c E io0 S0 nL Q pc (p0 :: p1 :: p2 :: p3 :: p4 :: p5 :: p6 :: p7 :: p8 :: p9 :: .int x :: t) (st) S I L Rf k n := by
  subst hv
  exact g_iincGW hx d hn hb (x := x) rfl rfl (aStv.mid [p0, p1, p2, p3, p4, p5, p6, p7, p8, p9] t rfl rfl (fun u h z => by cases h; exact hc)) kk
theorem g_istore_11 (hx : aCx p l s m args meth c own cc nL ret E) {x : Int32} (d : decode cc pc = .ok (.istore 11, 2)) (hn : pc + 2 = nx) (hb : 11 < nL) (hc : (p10.category == 2) = false := by rfl) (kk : aG p l e R s m args below meth c E io0 S0 nL Q nx (p0 :: p1 :: p2 :: p3 :: p4 :: p5 :: p6 :: p7 :: p8 :: p9 :: p10 :: .int x :: t) (st) S I L Rf k n) : aG p l e R s m args below meth c E io0 S0 nL Q pc (p0 :: p1 :: p2 :: p3 :: p4 :: p5 :: p6 :: p7 :: p8 :: p9 :: p10 :: w :: t) (.int x :: st) S I L Rf k n := g_istoreG hx d hn hb (aStv.mid [p0, p1, p2, p3, p4, p5, p6, p7, p8, p9, p10] t rfl rfl (fun u h z => by cases h; exact hc)) kk
theorem g_astore_11 (hx : aCx p l s m args meth c own cc nL ret E) {x : Nat} (d : decode cc pc = .ok (.astore 11, 2)) (hn : pc + 2 = nx) (hb : 11 < nL) (hc : (p10.category == 2) = false := by rfl) (kk : aG p l e R s m args below meth c E io0 S0 nL Q nx (p0 :: p1 :: p2 :: p3 :: p4 :: p5 :: p6 :: p7 :: p8 :: p9 :: p10 :: .ref x :: t) (st) S I L Rf k n) : aG p l e R s m args below meth c E io0 S0 nL Q pc (p0 :: p1 :: p2 :: p3 :: p4 :: p5 :: p6 :: p7 :: p8 :: p9 :: p10 :: w :: t) (.ref x :: st) S I L Rf k n := g_astoreG hx d hn hb (aStv.mid [p0, p1, p2, p3, p4, p5, p6, p7, p8, p9, p10] t rfl rfl (fun u h z => by cases h; exact hc)) kk
theorem g_lstore_11 (hx : aCx p l s m args meth c own cc nL ret E) {x : Int64} (d : decode cc pc = .ok (.lstore 11, 2)) (hn : pc + 2 = nx) (hb : 11 + 1 < nL) (hc : (p10.category == 2) = false := by rfl) (kk : aG p l e R s m args below meth c E io0 S0 nL Q nx (p0 :: p1 :: p2 :: p3 :: p4 :: p5 :: p6 :: p7 :: p8 :: p9 :: p10 :: .long x :: aU :: t) (st) S I L Rf k n) : aG p l e R s m args below meth c E io0 S0 nL Q pc (p0 :: p1 :: p2 :: p3 :: p4 :: p5 :: p6 :: p7 :: p8 :: p9 :: p10 :: w :: w2 :: t) (.long x :: st) S I L Rf k n := g_lstoreG hx d hn hb (aStv.mid2 [p0, p1, p2, p3, p4, p5, p6, p7, p8, p9, p10] t rfl (fun u h z => by cases h; exact hc)) kk
theorem g_iinc_11 (hx : aCx p l s m args meth c own cc nL ret E) {x v : Int32} {z : Int} (d : decode cc pc = .ok (.iinc 11 z, 3)) (hn : pc + 3 = nx) (hb : 11 < nL) (hv : Int32.ofInt z = v) (hc : (p10.category == 2) = false := by rfl) (kk : aG p l e R s m args below meth c E io0 S0 nL Q nx (p0 :: p1 :: p2 :: p3 :: p4 :: p5 :: p6 :: p7 :: p8 :: p9 :: p10 :: .int (x + v) :: t) (st) S I L Rf k n) : aG p l e R s m args below meth c E io0 S0 nL Q pc (p0 :: p1 :: p2 :: p3 :: p4 :: p5 :: p6 :: p7 :: p8 :: p9 :: p10 :: .int x :: t) (st) S I L Rf k n := by
  subst hv
  exact g_iincG hx d hn hb (x := x) rfl rfl (aStv.mid [p0, p1, p2, p3, p4, p5, p6, p7, p8, p9, p10] t rfl rfl (fun u h z => by cases h; exact hc)) kk
theorem g_iincW_11 (hx : aCx p l s m args meth c own cc nL ret E) {x v : Int32} {z : Int} (d : decode cc pc = .ok (.iinc 11 z, 6)) (hn : pc + 6 = nx) (hb : 11 < nL) (hv : Int32.ofInt z = v) (hc : (p10.category == 2) = false := by rfl) (kk : aG p l e R s m args below meth c E io0 S0 nL Q nx (p0 :: p1 :: p2 :: p3 :: p4 :: p5 :: p6 :: p7 :: p8 :: p9 :: p10 :: .int (x + v) :: t) (st) S I L Rf k n) : aG p l e R s m args below meth c E io0 S0 nL Q pc (p0 :: p1 :: p2 :: p3 :: p4 :: p5 :: p6 :: p7 :: p8 :: p9 :: p10 :: .int x :: t) (st) S I L Rf k n := by
  subst hv
  exact g_iincGW hx d hn hb (x := x) rfl rfl (aStv.mid [p0, p1, p2, p3, p4, p5, p6, p7, p8, p9, p10] t rfl rfl (fun u h z => by cases h; exact hc)) kk
theorem g_istore_12 (hx : aCx p l s m args meth c own cc nL ret E) {x : Int32} (d : decode cc pc = .ok (.istore 12, 2)) (hn : pc + 2 = nx) (hb : 12 < nL) (hc : (p11.category == 2) = false := by rfl) (kk : aG p l e R s m args below meth c E io0 S0 nL Q nx (p0 :: p1 :: p2 :: p3 :: p4 :: p5 :: p6 :: p7 :: p8 :: p9 :: p10 :: p11 :: .int x :: t) (st) S I L Rf k n) : aG p l e R s m args below meth c E io0 S0 nL Q pc (p0 :: p1 :: p2 :: p3 :: p4 :: p5 :: p6 :: p7 :: p8 :: p9 :: p10 :: p11 :: w :: t) (.int x :: st) S I L Rf k n := g_istoreG hx d hn hb (aStv.mid [p0, p1, p2, p3, p4, p5, p6, p7, p8, p9, p10, p11] t rfl rfl (fun u h z => by cases h; exact hc)) kk
theorem g_astore_12 (hx : aCx p l s m args meth c own cc nL ret E) {x : Nat} (d : decode cc pc = .ok (.astore 12, 2)) (hn : pc + 2 = nx) (hb : 12 < nL) (hc : (p11.category == 2) = false := by rfl) (kk : aG p l e R s m args below meth c E io0 S0 nL Q nx (p0 :: p1 :: p2 :: p3 :: p4 :: p5 :: p6 :: p7 :: p8 :: p9 :: p10 :: p11 :: .ref x :: t) (st) S I L Rf k n) : aG p l e R s m args below meth c E io0 S0 nL Q pc (p0 :: p1 :: p2 :: p3 :: p4 :: p5 :: p6 :: p7 :: p8 :: p9 :: p10 :: p11 :: w :: t) (.ref x :: st) S I L Rf k n := g_astoreG hx d hn hb (aStv.mid [p0, p1, p2, p3, p4, p5, p6, p7, p8, p9, p10, p11] t rfl rfl (fun u h z => by cases h; exact hc)) kk
theorem g_lstore_12 (hx : aCx p l s m args meth c own cc nL ret E) {x : Int64} (d : decode cc pc = .ok (.lstore 12, 2)) (hn : pc + 2 = nx) (hb : 12 + 1 < nL) (hc : (p11.category == 2) = false := by rfl) (kk : aG p l e R s m args below meth c E io0 S0 nL Q nx (p0 :: p1 :: p2 :: p3 :: p4 :: p5 :: p6 :: p7 :: p8 :: p9 :: p10 :: p11 :: .long x :: aU :: t) (st) S I L Rf k n) : aG p l e R s m args below meth c E io0 S0 nL Q pc (p0 :: p1 :: p2 :: p3 :: p4 :: p5 :: p6 :: p7 :: p8 :: p9 :: p10 :: p11 :: w :: w2 :: t) (.long x :: st) S I L Rf k n := g_lstoreG hx d hn hb (aStv.mid2 [p0, p1, p2, p3, p4, p5, p6, p7, p8, p9, p10, p11] t rfl (fun u h z => by cases h; exact hc)) kk
theorem g_iinc_12 (hx : aCx p l s m args meth c own cc nL ret E) {x v : Int32} {z : Int} (d : decode cc pc = .ok (.iinc 12 z, 3)) (hn : pc + 3 = nx) (hb : 12 < nL) (hv : Int32.ofInt z = v) (hc : (p11.category == 2) = false := by rfl) (kk : aG p l e R s m args below meth c E io0 S0 nL Q nx (p0 :: p1 :: p2 :: p3 :: p4 :: p5 :: p6 :: p7 :: p8 :: p9 :: p10 :: p11 :: .int (x + v) :: t) (st) S I L Rf k n) : aG p l e R s m args below meth c E io0 S0 nL Q pc (p0 :: p1 :: p2 :: p3 :: p4 :: p5 :: p6 :: p7 :: p8 :: p9 :: p10 :: p11 :: .int x :: t) (st) S I L Rf k n := by
  subst hv
  exact g_iincG hx d hn hb (x := x) rfl rfl (aStv.mid [p0, p1, p2, p3, p4, p5, p6, p7, p8, p9, p10, p11] t rfl rfl (fun u h z => by cases h; exact hc)) kk
theorem g_iincW_12 (hx : aCx p l s m args meth c own cc nL ret E) {x v : Int32} {z : Int} (d : decode cc pc = .ok (.iinc 12 z, 6)) (hn : pc + 6 = nx) (hb : 12 < nL) (hv : Int32.ofInt z = v) (hc : (p11.category == 2) = false := by rfl) (kk : aG p l e R s m args below meth c E io0 S0 nL Q nx (p0 :: p1 :: p2 :: p3 :: p4 :: p5 :: p6 :: p7 :: p8 :: p9 :: p10 :: p11 :: .int (x + v) :: t) (st) S I L Rf k n) : aG p l e R s m args below meth c E io0 S0 nL Q pc (p0 :: p1 :: p2 :: p3 :: p4 :: p5 :: p6 :: p7 :: p8 :: p9 :: p10 :: p11 :: .int x :: t) (st) S I L Rf k n := by
  subst hv
  exact g_iincGW hx d hn hb (x := x) rfl rfl (aStv.mid [p0, p1, p2, p3, p4, p5, p6, p7, p8, p9, p10, p11] t rfl rfl (fun u h z => by cases h; exact hc)) kk
theorem g_istore_13 (hx : aCx p l s m args meth c own cc nL ret E) {x : Int32} (d : decode cc pc = .ok (.istore 13, 2)) (hn : pc + 2 = nx) (hb : 13 < nL) (hc : (p12.category == 2) = false := by rfl) (kk : aG p l e R s m args below meth c E io0 S0 nL Q nx (p0 :: p1 :: p2 :: p3 :: p4 :: p5 :: p6 :: p7 :: p8 :: p9 :: p10 :: p11 :: p12 :: .int x :: t) (st) S I L Rf k n) : aG p l e R s m args below meth c E io0 S0 nL Q pc (p0 :: p1 :: p2 :: p3 :: p4 :: p5 :: p6 :: p7 :: p8 :: p9 :: p10 :: p11 :: p12 :: w :: t) (.int x :: st) S I L Rf k n := g_istoreG hx d hn hb (aStv.mid [p0, p1, p2, p3, p4, p5, p6, p7, p8, p9, p10, p11, p12] t rfl rfl (fun u h z => by cases h; exact hc)) kk
theorem g_astore_13 (hx : aCx p l s m args meth c own cc nL ret E) {x : Nat} (d : decode cc pc = .ok (.astore 13, 2)) (hn : pc + 2 = nx) (hb : 13 < nL) (hc : (p12.category == 2) = false := by rfl) (kk : aG p l e R s m args below meth c E io0 S0 nL Q nx (p0 :: p1 :: p2 :: p3 :: p4 :: p5 :: p6 :: p7 :: p8 :: p9 :: p10 :: p11 :: p12 :: .ref x :: t) (st) S I L Rf k n) : aG p l e R s m args below meth c E io0 S0 nL Q pc (p0 :: p1 :: p2 :: p3 :: p4 :: p5 :: p6 :: p7 :: p8 :: p9 :: p10 :: p11 :: p12 :: w :: t) (.ref x :: st) S I L Rf k n := g_astoreG hx d hn hb (aStv.mid [p0, p1, p2, p3, p4, p5, p6, p7, p8, p9, p10, p11, p12] t rfl rfl (fun u h z => by cases h; exact hc)) kk
theorem g_lstore_13 (hx : aCx p l s m args meth c own cc nL ret E) {x : Int64} (d : decode cc pc = .ok (.lstore 13, 2)) (hn : pc + 2 = nx) (hb : 13 + 1 < nL) (hc : (p12.category == 2) = false := by rfl) (kk : aG p l e R s m args below meth c E io0 S0 nL Q nx (p0 :: p1 :: p2 :: p3 :: p4 :: p5 :: p6 :: p7 :: p8 :: p9 :: p10 :: p11 :: p12 :: .long x :: aU :: t) (st) S I L Rf k n) : aG p l e R s m args below meth c E io0 S0 nL Q pc (p0 :: p1 :: p2 :: p3 :: p4 :: p5 :: p6 :: p7 :: p8 :: p9 :: p10 :: p11 :: p12 :: w :: w2 :: t) (.long x :: st) S I L Rf k n := g_lstoreG hx d hn hb (aStv.mid2 [p0, p1, p2, p3, p4, p5, p6, p7, p8, p9, p10, p11, p12] t rfl (fun u h z => by cases h; exact hc)) kk
theorem g_iinc_13 (hx : aCx p l s m args meth c own cc nL ret E) {x v : Int32} {z : Int} (d : decode cc pc = .ok (.iinc 13 z, 3)) (hn : pc + 3 = nx) (hb : 13 < nL) (hv : Int32.ofInt z = v) (hc : (p12.category == 2) = false := by rfl) (kk : aG p l e R s m args below meth c E io0 S0 nL Q nx (p0 :: p1 :: p2 :: p3 :: p4 :: p5 :: p6 :: p7 :: p8 :: p9 :: p10 :: p11 :: p12 :: .int (x + v) :: t) (st) S I L Rf k n) : aG p l e R s m args below meth c E io0 S0 nL Q pc (p0 :: p1 :: p2 :: p3 :: p4 :: p5 :: p6 :: p7 :: p8 :: p9 :: p10 :: p11 :: p12 :: .int x :: t) (st) S I L Rf k n := by
  subst hv
  exact g_iincG hx d hn hb (x := x) rfl rfl (aStv.mid [p0, p1, p2, p3, p4, p5, p6, p7, p8, p9, p10, p11, p12] t rfl rfl (fun u h z => by cases h; exact hc)) kk
theorem g_iincW_13 (hx : aCx p l s m args meth c own cc nL ret E) {x v : Int32} {z : Int} (d : decode cc pc = .ok (.iinc 13 z, 6)) (hn : pc + 6 = nx) (hb : 13 < nL) (hv : Int32.ofInt z = v) (hc : (p12.category == 2) = false := by rfl) (kk : aG p l e R s m args below meth c E io0 S0 nL Q nx (p0 :: p1 :: p2 :: p3 :: p4 :: p5 :: p6 :: p7 :: p8 :: p9 :: p10 :: p11 :: p12 :: .int (x + v) :: t) (st) S I L Rf k n) : aG p l e R s m args below meth c E io0 S0 nL Q pc (p0 :: p1 :: p2 :: p3 :: p4 :: p5 :: p6 :: p7 :: p8 :: p9 :: p10 :: p11 :: p12 :: .int x :: t) (st) S I L Rf k n := by
  subst hv
  exact g_iincGW hx d hn hb (x := x) rfl rfl (aStv.mid [p0, p1, p2, p3, p4, p5, p6, p7, p8, p9, p10, p11, p12] t rfl rfl (fun u h z => by cases h; exact hc)) kk
theorem g_istore_14 (hx : aCx p l s m args meth c own cc nL ret E) {x : Int32} (d : decode cc pc = .ok (.istore 14, 2)) (hn : pc + 2 = nx) (hb : 14 < nL) (hc : (p13.category == 2) = false := by rfl) (kk : aG p l e R s m args below meth c E io0 S0 nL Q nx (p0 :: p1 :: p2 :: p3 :: p4 :: p5 :: p6 :: p7 :: p8 :: p9 :: p10 :: p11 :: p12 :: p13 :: .int x :: t) (st) S I L Rf k n) : aG p l e R s m args below meth c E io0 S0 nL Q pc (p0 :: p1 :: p2 :: p3 :: p4 :: p5 :: p6 :: p7 :: p8 :: p9 :: p10 :: p11 :: p12 :: p13 :: w :: t) (.int x :: st) S I L Rf k n := g_istoreG hx d hn hb (aStv.mid [p0, p1, p2, p3, p4, p5, p6, p7, p8, p9, p10, p11, p12, p13] t rfl rfl (fun u h z => by cases h; exact hc)) kk
theorem g_astore_14 (hx : aCx p l s m args meth c own cc nL ret E) {x : Nat} (d : decode cc pc = .ok (.astore 14, 2)) (hn : pc + 2 = nx) (hb : 14 < nL) (hc : (p13.category == 2) = false := by rfl) (kk : aG p l e R s m args below meth c E io0 S0 nL Q nx (p0 :: p1 :: p2 :: p3 :: p4 :: p5 :: p6 :: p7 :: p8 :: p9 :: p10 :: p11 :: p12 :: p13 :: .ref x :: t) (st) S I L Rf k n) : aG p l e R s m args below meth c E io0 S0 nL Q pc (p0 :: p1 :: p2 :: p3 :: p4 :: p5 :: p6 :: p7 :: p8 :: p9 :: p10 :: p11 :: p12 :: p13 :: w :: t) (.ref x :: st) S I L Rf k n := g_astoreG hx d hn hb (aStv.mid [p0, p1, p2, p3, p4, p5, p6, p7, p8, p9, p10, p11, p12, p13] t rfl rfl (fun u h z => by cases h; exact hc)) kk
theorem g_lstore_14 (hx : aCx p l s m args meth c own cc nL ret E) {x : Int64} (d : decode cc pc = .ok (.lstore 14, 2)) (hn : pc + 2 = nx) (hb : 14 + 1 < nL) (hc : (p13.category == 2) = false := by rfl) (kk : aG p l e R s m args below meth c E io0 S0 nL Q nx (p0 :: p1 :: p2 :: p3 :: p4 :: p5 :: p6 :: p7 :: p8 :: p9 :: p10 :: p11 :: p12 :: p13 :: .long x :: aU :: t) (st) S I L Rf k n) : aG p l e R s m args below meth c E io0 S0 nL Q pc (p0 :: p1 :: p2 :: p3 :: p4 :: p5 :: p6 :: p7 :: p8 :: p9 :: p10 :: p11 :: p12 :: p13 :: w :: w2 :: t) (.long x :: st) S I L Rf k n := g_lstoreG hx d hn hb (aStv.mid2 [p0, p1, p2, p3, p4, p5, p6, p7, p8, p9, p10, p11, p12, p13] t rfl (fun u h z => by cases h; exact hc)) kk
theorem g_iinc_14 (hx : aCx p l s m args meth c own cc nL ret E) {x v : Int32} {z : Int} (d : decode cc pc = .ok (.iinc 14 z, 3)) (hn : pc + 3 = nx) (hb : 14 < nL) (hv : Int32.ofInt z = v) (hc : (p13.category == 2) = false := by rfl) (kk : aG p l e R s m args below meth c E io0 S0 nL Q nx (p0 :: p1 :: p2 :: p3 :: p4 :: p5 :: p6 :: p7 :: p8 :: p9 :: p10 :: p11 :: p12 :: p13 :: .int (x + v) :: t) (st) S I L Rf k n) : aG p l e R s m args below meth c E io0 S0 nL Q pc (p0 :: p1 :: p2 :: p3 :: p4 :: p5 :: p6 :: p7 :: p8 :: p9 :: p10 :: p11 :: p12 :: p13 :: .int x :: t) (st) S I L Rf k n := by
  subst hv
  exact g_iincG hx d hn hb (x := x) rfl rfl (aStv.mid [p0, p1, p2, p3, p4, p5, p6, p7, p8, p9, p10, p11, p12, p13] t rfl rfl (fun u h z => by cases h; exact hc)) kk
theorem g_iincW_14 (hx : aCx p l s m args meth c own cc nL ret E) {x v : Int32} {z : Int} (d : decode cc pc = .ok (.iinc 14 z, 6)) (hn : pc + 6 = nx) (hb : 14 < nL) (hv : Int32.ofInt z = v) (hc : (p13.category == 2) = false := by rfl) (kk : aG p l e R s m args below meth c E io0 S0 nL Q nx (p0 :: p1 :: p2 :: p3 :: p4 :: p5 :: p6 :: p7 :: p8 :: p9 :: p10 :: p11 :: p12 :: p13 :: .int (x + v) :: t) (st) S I L Rf k n) : aG p l e R s m args below meth c E io0 S0 nL Q pc (p0 :: p1 :: p2 :: p3 :: p4 :: p5 :: p6 :: p7 :: p8 :: p9 :: p10 :: p11 :: p12 :: p13 :: .int x :: t) (st) S I L Rf k n := by
  subst hv
  exact g_iincGW hx d hn hb (x := x) rfl rfl (aStv.mid [p0, p1, p2, p3, p4, p5, p6, p7, p8, p9, p10, p11, p12, p13] t rfl rfl (fun u h z => by cases h; exact hc)) kk
theorem g_istore_15 (hx : aCx p l s m args meth c own cc nL ret E) {x : Int32} (d : decode cc pc = .ok (.istore 15, 2)) (hn : pc + 2 = nx) (hb : 15 < nL) (hc : (p14.category == 2) = false := by rfl) (kk : aG p l e R s m args below meth c E io0 S0 nL Q nx (p0 :: p1 :: p2 :: p3 :: p4 :: p5 :: p6 :: p7 :: p8 :: p9 :: p10 :: p11 :: p12 :: p13 :: p14 :: .int x :: t) (st) S I L Rf k n) : aG p l e R s m args below meth c E io0 S0 nL Q pc (p0 :: p1 :: p2 :: p3 :: p4 :: p5 :: p6 :: p7 :: p8 :: p9 :: p10 :: p11 :: p12 :: p13 :: p14 :: w :: t) (.int x :: st) S I L Rf k n := g_istoreG hx d hn hb (aStv.mid [p0, p1, p2, p3, p4, p5, p6, p7, p8, p9, p10, p11, p12, p13, p14] t rfl rfl (fun u h z => by cases h; exact hc)) kk
theorem g_astore_15 (hx : aCx p l s m args meth c own cc nL ret E) {x : Nat} (d : decode cc pc = .ok (.astore 15, 2)) (hn : pc + 2 = nx) (hb : 15 < nL) (hc : (p14.category == 2) = false := by rfl) (kk : aG p l e R s m args below meth c E io0 S0 nL Q nx (p0 :: p1 :: p2 :: p3 :: p4 :: p5 :: p6 :: p7 :: p8 :: p9 :: p10 :: p11 :: p12 :: p13 :: p14 :: .ref x :: t) (st) S I L Rf k n) : aG p l e R s m args below meth c E io0 S0 nL Q pc (p0 :: p1 :: p2 :: p3 :: p4 :: p5 :: p6 :: p7 :: p8 :: p9 :: p10 :: p11 :: p12 :: p13 :: p14 :: w :: t) (.ref x :: st) S I L Rf k n := g_astoreG hx d hn hb (aStv.mid [p0, p1, p2, p3, p4, p5, p6, p7, p8, p9, p10, p11, p12, p13, p14] t rfl rfl (fun u h z => by cases h; exact hc)) kk
theorem g_lstore_15 (hx : aCx p l s m args meth c own cc nL ret E) {x : Int64} (d : decode cc pc = .ok (.lstore 15, 2)) (hn : pc + 2 = nx) (hb : 15 + 1 < nL) (hc : (p14.category == 2) = false := by rfl) (kk : aG p l e R s m args below meth c E io0 S0 nL Q nx (p0 :: p1 :: p2 :: p3 :: p4 :: p5 :: p6 :: p7 :: p8 :: p9 :: p10 :: p11 :: p12 :: p13 :: p14 :: .long x :: aU :: t) (st) S I L Rf k n) : aG p l e R s m args below meth c E io0 S0 nL Q pc (p0 :: p1 :: p2 :: p3 :: p4 :: p5 :: p6 :: p7 :: p8 :: p9 :: p10 :: p11 :: p12 :: p13 :: p14 :: w :: w2 :: t) (.long x :: st) S I L Rf k n := g_lstoreG hx d hn hb (aStv.mid2 [p0, p1, p2, p3, p4, p5, p6, p7, p8, p9, p10, p11, p12, p13, p14] t rfl (fun u h z => by cases h; exact hc)) kk
theorem g_iinc_15 (hx : aCx p l s m args meth c own cc nL ret E) {x v : Int32} {z : Int} (d : decode cc pc = .ok (.iinc 15 z, 3)) (hn : pc + 3 = nx) (hb : 15 < nL) (hv : Int32.ofInt z = v) (hc : (p14.category == 2) = false := by rfl) (kk : aG p l e R s m args below meth c E io0 S0 nL Q nx (p0 :: p1 :: p2 :: p3 :: p4 :: p5 :: p6 :: p7 :: p8 :: p9 :: p10 :: p11 :: p12 :: p13 :: p14 :: .int (x + v) :: t) (st) S I L Rf k n) : aG p l e R s m args below meth c E io0 S0 nL Q pc (p0 :: p1 :: p2 :: p3 :: p4 :: p5 :: p6 :: p7 :: p8 :: p9 :: p10 :: p11 :: p12 :: p13 :: p14 :: .int x :: t) (st) S I L Rf k n := by
  subst hv
  exact g_iincG hx d hn hb (x := x) rfl rfl (aStv.mid [p0, p1, p2, p3, p4, p5, p6, p7, p8, p9, p10, p11, p12, p13, p14] t rfl rfl (fun u h z => by cases h; exact hc)) kk
theorem g_iincW_15 (hx : aCx p l s m args meth c own cc nL ret E) {x v : Int32} {z : Int} (d : decode cc pc = .ok (.iinc 15 z, 6)) (hn : pc + 6 = nx) (hb : 15 < nL) (hv : Int32.ofInt z = v) (hc : (p14.category == 2) = false := by rfl) (kk : aG p l e R s m args below meth c E io0 S0 nL Q nx (p0 :: p1 :: p2 :: p3 :: p4 :: p5 :: p6 :: p7 :: p8 :: p9 :: p10 :: p11 :: p12 :: p13 :: p14 :: .int (x + v) :: t) (st) S I L Rf k n) : aG p l e R s m args below meth c E io0 S0 nL Q pc (p0 :: p1 :: p2 :: p3 :: p4 :: p5 :: p6 :: p7 :: p8 :: p9 :: p10 :: p11 :: p12 :: p13 :: p14 :: .int x :: t) (st) S I L Rf k n := by
  subst hv
  exact g_iincGW hx d hn hb (x := x) rfl rfl (aStv.mid [p0, p1, p2, p3, p4, p5, p6, p7, p8, p9, p10, p11, p12, p13, p14] t rfl rfl (fun u h z => by cases h; exact hc)) kk
theorem g_istore_16 (hx : aCx p l s m args meth c own cc nL ret E) {x : Int32} (d : decode cc pc = .ok (.istore 16, 2)) (hn : pc + 2 = nx) (hb : 16 < nL) (hc : (p15.category == 2) = false := by rfl) (kk : aG p l e R s m args below meth c E io0 S0 nL Q nx (p0 :: p1 :: p2 :: p3 :: p4 :: p5 :: p6 :: p7 :: p8 :: p9 :: p10 :: p11 :: p12 :: p13 :: p14 :: p15 :: .int x :: t) (st) S I L Rf k n) : aG p l e R s m args below meth c E io0 S0 nL Q pc (p0 :: p1 :: p2 :: p3 :: p4 :: p5 :: p6 :: p7 :: p8 :: p9 :: p10 :: p11 :: p12 :: p13 :: p14 :: p15 :: w :: t) (.int x :: st) S I L Rf k n := g_istoreG hx d hn hb (aStv.mid [p0, p1, p2, p3, p4, p5, p6, p7, p8, p9, p10, p11, p12, p13, p14, p15] t rfl rfl (fun u h z => by cases h; exact hc)) kk
theorem g_astore_16 (hx : aCx p l s m args meth c own cc nL ret E) {x : Nat} (d : decode cc pc = .ok (.astore 16, 2)) (hn : pc + 2 = nx) (hb : 16 < nL) (hc : (p15.category == 2) = false := by rfl) (kk : aG p l e R s m args below meth c E io0 S0 nL Q nx (p0 :: p1 :: p2 :: p3 :: p4 :: p5 :: p6 :: p7 :: p8 :: p9 :: p10 :: p11 :: p12 :: p13 :: p14 :: p15 :: .ref x :: t) (st) S I L Rf k n) : aG p l e R s m args below meth c E io0 S0 nL Q pc (p0 :: p1 :: p2 :: p3 :: p4 :: p5 :: p6 :: p7 :: p8 :: p9 :: p10 :: p11 :: p12 :: p13 :: p14 :: p15 :: w :: t) (.ref x :: st) S I L Rf k n := g_astoreG hx d hn hb (aStv.mid [p0, p1, p2, p3, p4, p5, p6, p7, p8, p9, p10, p11, p12, p13, p14, p15] t rfl rfl (fun u h z => by cases h; exact hc)) kk
theorem g_lstore_16 (hx : aCx p l s m args meth c own cc nL ret E) {x : Int64} (d : decode cc pc = .ok (.lstore 16, 2)) (hn : pc + 2 = nx) (hb : 16 + 1 < nL) (hc : (p15.category == 2) = false := by rfl) (kk : aG p l e R s m args below meth c E io0 S0 nL Q nx (p0 :: p1 :: p2 :: p3 :: p4 :: p5 :: p6 :: p7 :: p8 :: p9 :: p10 :: p11 :: p12 :: p13 :: p14 :: p15 :: .long x :: aU :: t) (st) S I L Rf k n) : aG p l e R s m args below meth c E io0 S0 nL Q pc (p0 :: p1 :: p2 :: p3 :: p4 :: p5 :: p6 :: p7 :: p8 :: p9 :: p10 :: p11 :: p12 :: p13 :: p14 :: p15 :: w :: w2 :: t) (.long x :: st) S I L Rf k n := g_lstoreG hx d hn hb (aStv.mid2 [p0, p1, p2, p3, p4, p5, p6, p7, p8, p9, p10, p11, p12, p13, p14, p15] t rfl (fun u h z => by cases h; exact hc)) kk
theorem g_iinc_16 (hx : aCx p l s m args meth c own cc nL ret E) {x v : Int32} {z : Int} (d : decode cc pc = .ok (.iinc 16 z, 3)) (hn : pc + 3 = nx) (hb : 16 < nL) (hv : Int32.ofInt z = v) (hc : (p15.category == 2) = false := by rfl) (kk : aG p l e R s m args below meth c E io0 S0 nL Q nx (p0 :: p1 :: p2 :: p3 :: p4 :: p5 :: p6 :: p7 :: p8 :: p9 :: p10 :: p11 :: p12 :: p13 :: p14 :: p15 :: .int (x + v) :: t) (st) S I L Rf k n) : aG p l e R s m args below meth c E io0 S0 nL Q pc (p0 :: p1 :: p2 :: p3 :: p4 :: p5 :: p6 :: p7 :: p8 :: p9 :: p10 :: p11 :: p12 :: p13 :: p14 :: p15 :: .int x :: t) (st) S I L Rf k n := by
  subst hv
  exact g_iincG hx d hn hb (x := x) rfl rfl (aStv.mid [p0, p1, p2, p3, p4, p5, p6, p7, p8, p9, p10, p11, p12, p13, p14, p15] t rfl rfl (fun u h z => by cases h; exact hc)) kk
theorem g_iincW_16 (hx : aCx p l s m args meth c own cc nL ret E) {x v : Int32} {z : Int} (d : decode cc pc = .ok (.iinc 16 z, 6)) (hn : pc + 6 = nx) (hb : 16 < nL) (hv : Int32.ofInt z = v) (hc : (p15.category == 2) = false := by rfl) (kk : aG p l e R s m args below meth c E io0 S0 nL Q nx (p0 :: p1 :: p2 :: p3 :: p4 :: p5 :: p6 :: p7 :: p8 :: p9 :: p10 :: p11 :: p12 :: p13 :: p14 :: p15 :: .int (x + v) :: t) (st) S I L Rf k n) : aG p l e R s m args below meth c E io0 S0 nL Q pc (p0 :: p1 :: p2 :: p3 :: p4 :: p5 :: p6 :: p7 :: p8 :: p9 :: p10 :: p11 :: p12 :: p13 :: p14 :: p15 :: .int x :: t) (st) S I L Rf k n := by
  subst hv
  exact g_iincGW hx d hn hb (x := x) rfl rfl (aStv.mid [p0, p1, p2, p3, p4, p5, p6, p7, p8, p9, p10, p11, p12, p13, p14, p15] t rfl rfl (fun u h z => by cases h; exact hc)) kk
theorem g_istore_17 (hx : aCx p l s m args meth c own cc nL ret E) {x : Int32} (d : decode cc pc = .ok (.istore 17, 2)) (hn : pc + 2 = nx) (hb : 17 < nL) (hc : (p16.category == 2) = false := by rfl) (kk : aG p l e R s m args below meth c E io0 S0 nL Q nx (p0 :: p1 :: p2 :: p3 :: p4 :: p5 :: p6 :: p7 :: p8 :: p9 :: p10 :: p11 :: p12 :: p13 :: p14 :: p15 :: p16 :: .int x :: t) (st) S I L Rf k n) : aG p l e R s m args below meth c E io0 S0 nL Q pc (p0 :: p1 :: p2 :: p3 :: p4 :: p5 :: p6 :: p7 :: p8 :: p9 :: p10 :: p11 :: p12 :: p13 :: p14 :: p15 :: p16 :: w :: t) (.int x :: st) S I L Rf k n := g_istoreG hx d hn hb (aStv.mid [p0, p1, p2, p3, p4, p5, p6, p7, p8, p9, p10, p11, p12, p13, p14, p15, p16] t rfl rfl (fun u h z => by cases h; exact hc)) kk
theorem g_astore_17 (hx : aCx p l s m args meth c own cc nL ret E) {x : Nat} (d : decode cc pc = .ok (.astore 17, 2)) (hn : pc + 2 = nx) (hb : 17 < nL) (hc : (p16.category == 2) = false := by rfl) (kk : aG p l e R s m args below meth c E io0 S0 nL Q nx (p0 :: p1 :: p2 :: p3 :: p4 :: p5 :: p6 :: p7 :: p8 :: p9 :: p10 :: p11 :: p12 :: p13 :: p14 :: p15 :: p16 :: .ref x :: t) (st) S I L Rf k n) : aG p l e R s m args below meth c E io0 S0 nL Q pc (p0 :: p1 :: p2 :: p3 :: p4 :: p5 :: p6 :: p7 :: p8 :: p9 :: p10 :: p11 :: p12 :: p13 :: p14 :: p15 :: p16 :: w :: t) (.ref x :: st) S I L Rf k n := g_astoreG hx d hn hb (aStv.mid [p0, p1, p2, p3, p4, p5, p6, p7, p8, p9, p10, p11, p12, p13, p14, p15, p16] t rfl rfl (fun u h z => by cases h; exact hc)) kk
theorem g_lstore_17 (hx : aCx p l s m args meth c own cc nL ret E) {x : Int64} (d : decode cc pc = .ok (.lstore 17, 2)) (hn : pc + 2 = nx) (hb : 17 + 1 < nL) (hc : (p16.category == 2) = false := by rfl) (kk : aG p l e R s m args below meth c E io0 S0 nL Q nx (p0 :: p1 :: p2 :: p3 :: p4 :: p5 :: p6 :: p7 :: p8 :: p9 :: p10 :: p11 :: p12 :: p13 :: p14 :: p15 :: p16 :: .long x :: aU :: t) (st) S I L Rf k n) : aG p l e R s m args below meth c E io0 S0 nL Q pc (p0 :: p1 :: p2 :: p3 :: p4 :: p5 :: p6 :: p7 :: p8 :: p9 :: p10 :: p11 :: p12 :: p13 :: p14 :: p15 :: p16 :: w :: w2 :: t) (.long x :: st) S I L Rf k n := g_lstoreG hx d hn hb (aStv.mid2 [p0, p1, p2, p3, p4, p5, p6, p7, p8, p9, p10, p11, p12, p13, p14, p15, p16] t rfl (fun u h z => by cases h; exact hc)) kk
theorem g_iinc_17 (hx : aCx p l s m args meth c own cc nL ret E) {x v : Int32} {z : Int} (d : decode cc pc = .ok (.iinc 17 z, 3)) (hn : pc + 3 = nx) (hb : 17 < nL) (hv : Int32.ofInt z = v) (hc : (p16.category == 2) = false := by rfl) (kk : aG p l e R s m args below meth c E io0 S0 nL Q nx (p0 :: p1 :: p2 :: p3 :: p4 :: p5 :: p6 :: p7 :: p8 :: p9 :: p10 :: p11 :: p12 :: p13 :: p14 :: p15 :: p16 :: .int (x + v) :: t) (st) S I L Rf k n) : aG p l e R s m args below meth c E io0 S0 nL Q pc (p0 :: p1 :: p2 :: p3 :: p4 :: p5 :: p6 :: p7 :: p8 :: p9 :: p10 :: p11 :: p12 :: p13 :: p14 :: p15 :: p16 :: .int x :: t) (st) S I L Rf k n := by
  subst hv
  exact g_iincG hx d hn hb (x := x) rfl rfl (aStv.mid [p0, p1, p2, p3, p4, p5, p6, p7, p8, p9, p10, p11, p12, p13, p14, p15, p16] t rfl rfl (fun u h z => by cases h; exact hc)) kk
theorem g_iincW_17 (hx : aCx p l s m args meth c own cc nL ret E) {x v : Int32} {z : Int} (d : decode cc pc = .ok (.iinc 17 z, 6)) (hn : pc + 6 = nx) (hb : 17 < nL) (hv : Int32.ofInt z = v) (hc : (p16.category == 2) = false := by rfl) (kk : aG p l e R s m args below meth c E io0 S0 nL Q nx (p0 :: p1 :: p2 :: p3 :: p4 :: p5 :: p6 :: p7 :: p8 :: p9 :: p10 :: p11 :: p12 :: p13 :: p14 :: p15 :: p16 :: .int (x + v) :: t) (st) S I L Rf k n) : aG p l e R s m args below meth c E io0 S0 nL Q pc (p0 :: p1 :: p2 :: p3 :: p4 :: p5 :: p6 :: p7 :: p8 :: p9 :: p10 :: p11 :: p12 :: p13 :: p14 :: p15 :: p16 :: .int x :: t) (st) S I L Rf k n := by
  subst hv
  exact g_iincGW hx d hn hb (x := x) rfl rfl (aStv.mid [p0, p1, p2, p3, p4, p5, p6, p7, p8, p9, p10, p11, p12, p13, p14, p15, p16] t rfl rfl (fun u h z => by cases h; exact hc)) kk
theorem g_istore_18 (hx : aCx p l s m args meth c own cc nL ret E) {x : Int32} (d : decode cc pc = .ok (.istore 18, 2)) (hn : pc + 2 = nx) (hb : 18 < nL) (hc : (p17.category == 2) = false := by rfl) (kk : aG p l e R s m args below meth c E io0 S0 nL Q nx (p0 :: p1 :: p2 :: p3 :: p4 :: p5 :: p6 :: p7 :: p8 :: p9 :: p10 :: p11 :: p12 :: p13 :: p14 :: p15 :: p16 :: p17 :: .int x :: t) (st) S I L Rf k n) : aG p l e R s m args below meth c E io0 S0 nL Q pc (p0 :: p1 :: p2 :: p3 :: p4 :: p5 :: p6 :: p7 :: p8 :: p9 :: p10 :: p11 :: p12 :: p13 :: p14 :: p15 :: p16 :: p17 :: w :: t) (.int x :: st) S I L Rf k n := g_istoreG hx d hn hb (aStv.mid [p0, p1, p2, p3, p4, p5, p6, p7, p8, p9, p10, p11, p12, p13, p14, p15, p16, p17] t rfl rfl (fun u h z => by cases h; exact hc)) kk
theorem g_astore_18 (hx : aCx p l s m args meth c own cc nL ret E) {x : Nat} (d : decode cc pc = .ok (.astore 18, 2)) (hn : pc + 2 = nx) (hb : 18 < nL) (hc : (p17.category == 2) = false := by rfl) (kk : aG p l e R s m args below meth c E io0 S0 nL Q nx (p0 :: p1 :: p2 :: p3 :: p4 :: p5 :: p6 :: p7 :: p8 :: p9 :: p10 :: p11 :: p12 :: p13 :: p14 :: p15 :: p16 :: p17 :: .ref x :: t) (st) S I L Rf k n) : aG p l e R s m args below meth c E io0 S0 nL Q pc (p0 :: p1 :: p2 :: p3 :: p4 :: p5 :: p6 :: p7 :: p8 :: p9 :: p10 :: p11 :: p12 :: p13 :: p14 :: p15 :: p16 :: p17 :: w :: t) (.ref x :: st) S I L Rf k n := g_astoreG hx d hn hb (aStv.mid [p0, p1, p2, p3, p4, p5, p6, p7, p8, p9, p10, p11, p12, p13, p14, p15, p16, p17] t rfl rfl (fun u h z => by cases h; exact hc)) kk
theorem g_lstore_18 (hx : aCx p l s m args meth c own cc nL ret E) {x : Int64} (d : decode cc pc = .ok (.lstore 18, 2)) (hn : pc + 2 = nx) (hb : 18 + 1 < nL) (hc : (p17.category == 2) = false := by rfl) (kk : aG p l e R s m args below meth c E io0 S0 nL Q nx (p0 :: p1 :: p2 :: p3 :: p4 :: p5 :: p6 :: p7 :: p8 :: p9 :: p10 :: p11 :: p12 :: p13 :: p14 :: p15 :: p16 :: p17 :: .long x :: aU :: t) (st) S I L Rf k n) : aG p l e R s m args below meth c E io0 S0 nL Q pc (p0 :: p1 :: p2 :: p3 :: p4 :: p5 :: p6 :: p7 :: p8 :: p9 :: p10 :: p11 :: p12 :: p13 :: p14 :: p15 :: p16 :: p17 :: w :: w2 :: t) (.long x :: st) S I L Rf k n := g_lstoreG hx d hn hb (aStv.mid2 [p0, p1, p2, p3, p4, p5, p6, p7, p8, p9, p10, p11, p12, p13, p14, p15, p16, p17] t rfl (fun u h z => by cases h; exact hc)) kk
theorem g_iinc_18 (hx : aCx p l s m args meth c own cc nL ret E) {x v : Int32} {z : Int} (d : decode cc pc = .ok (.iinc 18 z, 3)) (hn : pc + 3 = nx) (hb : 18 < nL) (hv : Int32.ofInt z = v) (hc : (p17.category == 2) = false := by rfl) (kk : aG p l e R s m args below meth c E io0 S0 nL Q nx (p0 :: p1 :: p2 :: p3 :: p4 :: p5 :: p6 :: p7 :: p8 :: p9 :: p10 :: p11 :: p12 :: p13 :: p14 :: p15 :: p16 :: p17 :: .int (x + v) :: t) (st) S I L Rf k n) : aG p l e R s m args below meth c E io0 S0 nL Q pc (p0 :: p1 :: p2 :: p3 :: p4 :: p5 :: p6 :: p7 :: p8 :: p9 :: p10 :: p11 :: p12 :: p13 :: p14 :: p15 :: p16 :: p17 :: .int x :: t) (st) S I L Rf k n := by
  subst hv
  exact g_iincG hx d hn hb (x := x) rfl rfl (aStv.mid [p0, p1, p2, p3, p4, p5, p6, p7, p8, p9, p10, p11, p12, p13, p14, p15, p16, p17] t rfl rfl (fun u h z => by cases h; exact hc)) kk
theorem g_iincW_18 (hx : aCx p l s m args meth c own cc nL ret E) {x v : Int32} {z : Int} (d : decode cc pc = .ok (.iinc 18 z, 6)) (hn : pc + 6 = nx) (hb : 18 < nL) (hv : Int32.ofInt z = v) (hc : (p17.category == 2) = false := by rfl) (kk : aG p l e R s m args below meth c E io0 S0 nL Q nx (p0 :: p1 :: p2 :: p3 :: p4 :: p5 :: p6 :: p7 :: p8 :: p9 :: p10 :: p11 :: p12 :: p13 :: p14 :: p15 :: p16 :: p17 :: .int (x + v) :: t) (st) S I L Rf k n) : aG p l e R s m args below meth c E io0 S0 nL Q pc (p0 :: p1 :: p2 :: p3 :: p4 :: p5 :: p6 :: p7 :: p8 :: p9 :: p10 :: p11 :: p12 :: p13 :: p14 :: p15 :: p16 :: p17 :: .int x :: t) (st) S I L Rf k n := by
  subst hv
  exact g_iincGW hx d hn hb (x := x) rfl rfl (aStv.mid [p0, p1, p2, p3, p4, p5, p6, p7, p8, p9, p10, p11, p12, p13, p14, p15, p16, p17] t rfl rfl (fun u h z => by cases h; exact hc)) kk
theorem g_istore_19 (hx : aCx p l s m args meth c own cc nL ret E) {x : Int32} (d : decode cc pc = .ok (.istore 19, 2)) (hn : pc + 2 = nx) (hb : 19 < nL) (hc : (p18.category == 2) = false := by rfl) (kk : aG p l e R s m args below meth c E io0 S0 nL Q nx (p0 :: p1 :: p2 :: p3 :: p4 :: p5 :: p6 :: p7 :: p8 :: p9 :: p10 :: p11 :: p12 :: p13 :: p14 :: p15 :: p16 :: p17 :: p18 :: .int x :: t) (st) S I L Rf k n) : aG p l e R s m args below meth c E io0 S0 nL Q pc (p0 :: p1 :: p2 :: p3 :: p4 :: p5 :: p6 :: p7 :: p8 :: p9 :: p10 :: p11 :: p12 :: p13 :: p14 :: p15 :: p16 :: p17 :: p18 :: w :: t) (.int x :: st) S I L Rf k n := g_istoreG hx d hn hb (aStv.mid [p0, p1, p2, p3, p4, p5, p6, p7, p8, p9, p10, p11, p12, p13, p14, p15, p16, p17, p18] t rfl rfl (fun u h z => by cases h; exact hc)) kk
theorem g_astore_19 (hx : aCx p l s m args meth c own cc nL ret E) {x : Nat} (d : decode cc pc = .ok (.astore 19, 2)) (hn : pc + 2 = nx) (hb : 19 < nL) (hc : (p18.category == 2) = false := by rfl) (kk : aG p l e R s m args below meth c E io0 S0 nL Q nx (p0 :: p1 :: p2 :: p3 :: p4 :: p5 :: p6 :: p7 :: p8 :: p9 :: p10 :: p11 :: p12 :: p13 :: p14 :: p15 :: p16 :: p17 :: p18 :: .ref x :: t) (st) S I L Rf k n) : aG p l e R s m args below meth c E io0 S0 nL Q pc (p0 :: p1 :: p2 :: p3 :: p4 :: p5 :: p6 :: p7 :: p8 :: p9 :: p10 :: p11 :: p12 :: p13 :: p14 :: p15 :: p16 :: p17 :: p18 :: w :: t) (.ref x :: st) S I L Rf k n := g_astoreG hx d hn hb (aStv.mid [p0, p1, p2, p3, p4, p5, p6, p7, p8, p9, p10, p11, p12, p13, p14, p15, p16, p17, p18] t rfl rfl (fun u h z => by cases h; exact hc)) kk
theorem g_iinc_19 (hx : aCx p l s m args meth c own cc nL ret E) {x v : Int32} {z : Int} (d : decode cc pc = .ok (.iinc 19 z, 3)) (hn : pc + 3 = nx) (hb : 19 < nL) (hv : Int32.ofInt z = v) (hc : (p18.category == 2) = false := by rfl) (kk : aG p l e R s m args below meth c E io0 S0 nL Q nx (p0 :: p1 :: p2 :: p3 :: p4 :: p5 :: p6 :: p7 :: p8 :: p9 :: p10 :: p11 :: p12 :: p13 :: p14 :: p15 :: p16 :: p17 :: p18 :: .int (x + v) :: t) (st) S I L Rf k n) : aG p l e R s m args below meth c E io0 S0 nL Q pc (p0 :: p1 :: p2 :: p3 :: p4 :: p5 :: p6 :: p7 :: p8 :: p9 :: p10 :: p11 :: p12 :: p13 :: p14 :: p15 :: p16 :: p17 :: p18 :: .int x :: t) (st) S I L Rf k n := by
  subst hv
  exact g_iincG hx d hn hb (x := x) rfl rfl (aStv.mid [p0, p1, p2, p3, p4, p5, p6, p7, p8, p9, p10, p11, p12, p13, p14, p15, p16, p17, p18] t rfl rfl (fun u h z => by cases h; exact hc)) kk
theorem g_iincW_19 (hx : aCx p l s m args meth c own cc nL ret E) {x v : Int32} {z : Int} (d : decode cc pc = .ok (.iinc 19 z, 6)) (hn : pc + 6 = nx) (hb : 19 < nL) (hv : Int32.ofInt z = v) (hc : (p18.category == 2) = false := by rfl) (kk : aG p l e R s m args below meth c E io0 S0 nL Q nx (p0 :: p1 :: p2 :: p3 :: p4 :: p5 :: p6 :: p7 :: p8 :: p9 :: p10 :: p11 :: p12 :: p13 :: p14 :: p15 :: p16 :: p17 :: p18 :: .int (x + v) :: t) (st) S I L Rf k n) : aG p l e R s m args below meth c E io0 S0 nL Q pc (p0 :: p1 :: p2 :: p3 :: p4 :: p5 :: p6 :: p7 :: p8 :: p9 :: p10 :: p11 :: p12 :: p13 :: p14 :: p15 :: p16 :: p17 :: p18 :: .int x :: t) (st) S I L Rf k n := by
  subst hv
  exact g_iincGW hx d hn hb (x := x) rfl rfl (aStv.mid [p0, p1, p2, p3, p4, p5, p6, p7, p8, p9, p10, p11, p12, p13, p14, p15, p16, p17, p18] t rfl rfl (fun u h z => by cases h; exact hc)) kk
theorem g_nloadG_n (hx : aCx p l s m args meth c own cc nL ret E) {j : Fin 4} {i : Nat} (d : decode cc pc = .ok (.aload_n j, 1)) (hj : (j : Nat) = i) (hn : pc + 1 = nx) (hi : lv[i]? = some .null) (kk : aG p l e R s m args below meth c E io0 S0 nL Q nx lv (.null :: st) S I L Rf k n) : aG p l e R s m args below meth c E io0 S0 nL Q pc lv (st) S I L Rf k n := by
  subst hn
  intro io H locs ls h1 h2 h3 h4 h5 h6
  exact lv_aload_nN hx.1 hx.2.1 d hj (h6.2.2 _ _ hi rfl) (kk io H locs ls h1 h2 h3 h4.n h5 h6)
theorem g_nstoreG_n (hx : aCx p l s m args meth c own cc nL ret E) {j : Fin 4} {i : Nat} {lv' : List Value} (d : decode cc pc = .ok (.astore_n j, 1)) (hj : (j : Nat) = i) (hn : pc + 1 = nx) (hb : i < nL) (hs : aStv i .null lv lv') (kk : aG p l e R s m args below meth c E io0 S0 nL Q nx lv' (st) S I L Rf k n) : aG p l e R s m args below meth c E io0 S0 nL Q pc lv (.null :: st) S I L Rf k n := by
  subst hn
  intro io H locs ls h1 h2 h3 h4 h5 h6
  refine lv_astore_nN hx.1 hx.2.1 d hj (aAll_has h6.1 h6.2.1) hb rfl fun ls' h => kk io H locs ls' h1 h2 (fun v hv q e => ?_) h4.tl h5 (h6.st1 (v := .null) rfl hs h)
  obtain ⟨j, hj⟩ := List.getElem?_of_mem hv
  rcases hs j v hj (by rw [e]; rfl) with ⟨-, e2⟩ | ⟨-, h9, -⟩
  · rw [e2] at e; cases e
  · exact h3 v (List.mem_of_getElem? h9) q e
theorem g_nstore_0 (hx : aCx p l s m args meth c own cc nL ret E) (d : decode cc pc = .ok (.astore_n 0, 1)) (hn : pc + 1 = nx) (hb : 0 < nL) (kk : aG p l e R s m args below meth c E io0 S0 nL Q nx (.null :: t) (st) S I L Rf k n) : aG p l e R s m args below meth c E io0 S0 nL Q pc (w :: t) (.null :: st) S I L Rf k n := g_nstoreG_n hx d rfl hn hb (aStv.mid [] t rfl rfl (fun u h z => absurd rfl z)) kk
theorem g_nstore_1 (hx : aCx p l s m args meth c own cc nL ret E) (d : decode cc pc = .ok (.astore_n 1, 1)) (hn : pc + 1 = nx) (hb : 1 < nL) (hc : (p0.category == 2) = false := by rfl) (kk : aG p l e R s m args below meth c E io0 S0 nL Q nx (p0 :: .null :: t) (st) S I L Rf k n) : aG p l e R s m args below meth c E io0 S0 nL Q pc (p0 :: w :: t) (.null :: st) S I L Rf k n := g_nstoreG_n hx d rfl hn hb (aStv.mid [p0] t rfl rfl (fun u h z => by cases h; exact hc)) kk
theorem g_nstore_2 (hx : aCx p l s m args meth c own cc nL ret E) (d : decode cc pc = .ok (.astore_n 2, 1)) (hn : pc + 1 = nx) (hb : 2 < nL) (hc : (p1.category == 2) = false := by rfl) (kk : aG p l e R s m args below meth c E io0 S0 nL Q nx (p0 :: p1 :: .null :: t) (st) S I L Rf k n) : aG p l e R s m args below meth c E io0 S0 nL Q pc (p0 :: p1 :: w :: t) (.null :: st) S I L Rf k n := g_nstoreG_n hx d rfl hn hb (aStv.mid [p0, p1] t rfl rfl (fun u h z => by cases h; exact hc)) kk
theorem g_nstore_3 (hx : aCx p l s m args meth c own cc nL ret E) (d : decode cc pc = .ok (.astore_n 3, 1)) (hn : pc + 1 = nx) (hb : 3 < nL) (hc : (p2.category == 2) = false := by rfl) (kk : aG p l e R s m args below meth c E io0 S0 nL Q nx (p0 :: p1 :: p2 :: .null :: t) (st) S I L Rf k n) : aG p l e R s m args below meth c E io0 S0 nL Q pc (p0 :: p1 :: p2 :: w :: t) (.null :: st) S I L Rf k n := g_nstoreG_n hx d rfl hn hb (aStv.mid [p0, p1, p2] t rfl rfl (fun u h z => by cases h; exact hc)) kk
theorem g_iincN_0 (hx : aCx p l s m args meth c own cc nL ret E) {a b : Nat} {z : Int} (d : decode cc pc = .ok (.iinc 0 z, 3)) (hn : pc + 3 = nx) (hb : 0 < nL) (hv : Int32.ofInt z = nI b) (kk : aG p l e R s m args below meth c E io0 S0 nL Q nx (.int (nI (a + b)) :: t) (st) S I L Rf k n) : aG p l e R s m args below meth c E io0 S0 nL Q pc (.int (nI a) :: t) (st) S I L Rf k n := g_iinc_0 hx d hn hb hv (by rw [nI_add]; exact kk)
theorem g_iincN_1 (hx : aCx p l s m args meth c own cc nL ret E) {a b : Nat} {z : Int} (d : decode cc pc = .ok (.iinc 1 z, 3)) (hn : pc + 3 = nx) (hb : 1 < nL) (hv : Int32.ofInt z = nI b) (hc : (p0.category == 2) = false := by rfl) (kk : aG p l e R s m args below meth c E io0 S0 nL Q nx (p0 :: .int (nI (a + b)) :: t) (st) S I L Rf k n) : aG p l e R s m args below meth c E io0 S0 nL Q pc (p0 :: .int (nI a) :: t) (st) S I L Rf k n := g_iinc_1 hx d hn hb hv hc (by rw [nI_add]; exact kk)
theorem g_iincN_2 (hx : aCx p l s m args meth c own cc nL ret E) {a b : Nat} {z : Int} (d : decode cc pc = .ok (.iinc 2 z, 3)) (hn : pc + 3 = nx) (hb : 2 < nL) (hv : Int32.ofInt z = nI b) (hc : (p1.category == 2) = false := by rfl) (kk : aG p l e R s m args below meth c E io0 S0 nL Q nx (p0 :: p1 :: .int (nI (a + b)) :: t) (st) S I L Rf k n) : aG p l e R s m args below meth c E io0 S0 nL Q pc (p0 :: p1 :: .int (nI a) :: t) (st) S I L Rf k n := g_iinc_2 hx d hn hb hv hc (by rw [nI_add]; exact kk)
theorem g_iincN_3 (hx : aCx p l s m args meth c own cc nL ret E) {a b : Nat} {z : Int} (d : decode cc pc = .ok (.iinc 3 z, 3)) (hn : pc + 3 = nx) (hb : 3 < nL) (hv : Int32.ofInt z = nI b) (hc : (p2.category == 2) = false := by rfl) (kk : aG p l e R s m args below meth c E io0 S0 nL Q nx (p0 :: p1 :: p2 :: .int (nI (a + b)) :: t) (st) S I L Rf k n) : aG p l e R s m args below meth c E io0 S0 nL Q pc (p0 :: p1 :: p2 :: .int (nI a) :: t) (st) S I L Rf k n := g_iinc_3 hx d hn hb hv hc (by rw [nI_add]; exact kk)
theorem g_iincN_4 (hx : aCx p l s m args meth c own cc nL ret E) {a b : Nat} {z : Int} (d : decode cc pc = .ok (.iinc 4 z, 3)) (hn : pc + 3 = nx) (hb : 4 < nL) (hv : Int32.ofInt z = nI b) (hc : (p3.category == 2) = false := by rfl) (kk : aG p l e R s m args below meth c E io0 S0 nL Q nx (p0 :: p1 :: p2 :: p3 :: .int (nI (a + b)) :: t) (st) S I L Rf k n) : aG p l e R s m args below meth c E io0 S0 nL Q pc (p0 :: p1 :: p2 :: p3 :: .int (nI a) :: t) (st) S I L Rf k n := g_iinc_4 hx d hn hb hv hc (by rw [nI_add]; exact kk)
theorem g_iincN_5 (hx : aCx p l s m args meth c own cc nL ret E) {a b : Nat} {z : Int} (d : decode cc pc = .ok (.iinc 5 z, 3)) (hn : pc + 3 = nx) (hb : 5 < nL) (hv : Int32.ofInt z = nI b) (hc : (p4.category == 2) = false := by rfl) (kk : aG p l e R s m args below meth c E io0 S0 nL Q nx (p0 :: p1 :: p2 :: p3 :: p4 :: .int (nI (a + b)) :: t) (st) S I L Rf k n) : aG p l e R s m args below meth c E io0 S0 nL Q pc (p0 :: p1 :: p2 :: p3 :: p4 :: .int (nI a) :: t) (st) S I L Rf k n := g_iinc_5 hx d hn hb hv hc (by rw [nI_add]; exact kk)
theorem g_iincN_6 (hx : aCx p l s m args meth c own cc nL ret E) {a b : Nat} {z : Int} (d : decode cc pc = .ok (.iinc 6 z, 3)) (hn : pc + 3 = nx) (hb : 6 < nL) (hv : Int32.ofInt z = nI b) (hc : (p5.category == 2) = false := by rfl) (kk : aG p l e R s m args below meth c E io0 S0 nL Q nx (p0 :: p1 :: p2 :: p3 :: p4 :: p5 :: .int (nI (a + b)) :: t) (st) S I L Rf k n) : aG p l e R s m args below meth c E io0 S0 nL Q pc (p0 :: p1 :: p2 :: p3 :: p4 :: p5 :: .int (nI a) :: t) (st) S I L Rf k n := g_iinc_6 hx d hn hb hv hc (by rw [nI_add]; exact kk)
theorem g_iincN_7 (hx : aCx p l s m args meth c own cc nL ret E) {a b : Nat} {z : Int} (d : decode cc pc = .ok (.iinc 7 z, 3)) (hn : pc + 3 = nx) (hb : 7 < nL) (hv : Int32.ofInt z = nI b) (hc : (p6.category == 2) = false := by rfl) (kk : aG p l e R s m args below meth c E io0 S0 nL Q nx (p0 :: p1 :: p2 :: p3 :: p4 :: p5 :: p6 :: .int (nI (a + b)) :: t) (st) S I L Rf k n) : aG p l e R s m args below meth c E io0 S0 nL Q pc (p0 :: p1 :: p2 :: p3 :: p4 :: p5 :: p6 :: .int (nI a) :: t) (st) S I L Rf k n := g_iinc_7 hx d hn hb hv hc (by rw [nI_add]; exact kk)
theorem g_iincN_8 (hx : aCx p l s m args meth c own cc nL ret E) {a b : Nat} {z : Int} (d : decode cc pc = .ok (.iinc 8 z, 3)) (hn : pc + 3 = nx) (hb : 8 < nL) (hv : Int32.ofInt z = nI b) (hc : (p7.category == 2) = false := by rfl) (kk : aG p l e R s m args below meth c E io0 S0 nL Q nx (p0 :: p1 :: p2 :: p3 :: p4 :: p5 :: p6 :: p7 :: .int (nI (a + b)) :: t) (st) S I L Rf k n) : aG p l e R s m args below meth c E io0 S0 nL Q pc (p0 :: p1 :: p2 :: p3 :: p4 :: p5 :: p6 :: p7 :: .int (nI a) :: t) (st) S I L Rf k n := g_iinc_8 hx d hn hb hv hc (by rw [nI_add]; exact kk)
theorem g_iincN_9 (hx : aCx p l s m args meth c own cc nL ret E) {a b : Nat} {z : Int} (d : decode cc pc = .ok (.iinc 9 z, 3)) (hn : pc + 3 = nx) (hb : 9 < nL) (hv : Int32.ofInt z = nI b) (hc : (p8.category == 2) = false := by rfl) (kk : aG p l e R s m args below meth c E io0 S0 nL Q nx (p0 :: p1 :: p2 :: p3 :: p4 :: p5 :: p6 :: p7 :: p8 :: .int (nI (a + b)) :: t) (st) S I L Rf k n) : aG p l e R s m args below meth c E io0 S0 nL Q pc (p0 :: p1 :: p2 :: p3 :: p4 :: p5 :: p6 :: p7 :: p8 :: .int (nI a) :: t) (st) S I L Rf k n := g_iinc_9 hx d hn hb hv hc (by rw [nI_add]; exact kk)
theorem g_iincN_10 (hx : aCx p l s m args meth c own cc nL ret E) {a b : Nat} {z : Int} (d : decode cc pc = .ok (.iinc 10 z, 3)) (hn : pc + 3 = nx) (hb : 10 < nL) (hv : Int32.ofInt z = nI b) (hc : (p9.category == 2) = false := by rfl) (kk : aG p l e R s m args below meth c E io0 S0 nL Q nx (p0 :: p1 :: p2 :: p3 :: p4 :: p5 :: p6 :: p7 :: p8 :: p9 :: .int (nI (a + b)) :: t) (st) S I L Rf k n) : aG p l e R s m args below meth c E io0 S0 nL Q pc (p0 :: p1 :: p2 :: p3 :: p4 :: p5 :: p6 :: p7 :: p8 :: p9 :: .int (nI a) :: t) (st) S I L Rf k n := g_iinc_10 hx d hn hb hv hc (by rw [nI_add]; exact kk)
theorem g_iincN_11 (hx : aCx p l s m args meth c own cc nL ret E) {a b : Nat} {z : Int} (d : decode cc pc = .ok (.iinc 11 z, 3)) (hn : pc + 3 = nx) (hb : 11 < nL) (hv : Int32.ofInt z = nI b) (hc : (p10.category == 2) = false := by rfl) (kk : aG p l e R s m args below meth c E io0 S0 nL Q nx (p0 :: p1 :: p2 :: p3 :: p4 :: p5 :: p6 :: p7 :: p8 :: p9 :: p10 :: .int (nI (a + b)) :: t) (st) S I L Rf k n) : aG p l e R s m args below meth c E io0 S0 nL Q pc (p0 :: p1 :: p2 :: p3 :: p4 :: p5 :: p6 :: p7 :: p8 :: p9 :: p10 :: .int (nI a) :: t) (st) S I L Rf k n := g_iinc_11 hx d hn hb hv hc (by rw [nI_add]; exact kk)
theorem g_iincN_12 (hx : aCx p l s m args meth c own cc nL ret E) {a b : Nat} {z : Int} (d : decode cc pc = .ok (.iinc 12 z, 3)) (hn : pc + 3 = nx) (hb : 12 < nL) (hv : Int32.ofInt z = nI b) (hc : (p11.category == 2) = false := by rfl) (kk : aG p l e R s m args below meth c E io0 S0 nL Q nx (p0 :: p1 :: p2 :: p3 :: p4 :: p5 :: p6 :: p7 :: p8 :: p9 :: p10 :: p11 :: .int (nI (a + b)) :: t) (st) S I L Rf k n) : aG p l e R s m args below meth c E io0 S0 nL Q pc (p0 :: p1 :: p2 :: p3 :: p4 :: p5 :: p6 :: p7 :: p8 :: p9 :: p10 :: p11 :: .int (nI a) :: t) (st) S I L Rf k n := g_iinc_12 hx d hn hb hv hc (by rw [nI_add]; exact kk)
theorem g_iincN_13 (hx : aCx p l s m args meth c own cc nL ret E) {a b : Nat} {z : Int} (d : decode cc pc = .ok (.iinc 13 z, 3)) (hn : pc + 3 = nx) (hb : 13 < nL) (hv : Int32.ofInt z = nI b) (hc : (p12.category == 2) = false := by rfl) (kk : aG p l e R s m args below meth c E io0 S0 nL Q nx (p0 :: p1 :: p2 :: p3 :: p4 :: p5 :: p6 :: p7 :: p8 :: p9 :: p10 :: p11 :: p12 :: .int (nI (a + b)) :: t) (st) S I L Rf k n) : aG p l e R s m args below meth c E io0 S0 nL Q pc (p0 :: p1 :: p2 :: p3 :: p4 :: p5 :: p6 :: p7 :: p8 :: p9 :: p10 :: p11 :: p12 :: .int (nI a) :: t) (st) S I L Rf k n := g_iinc_13 hx d hn hb hv hc (by rw [nI_add]; exact kk)
theorem g_iincN_14 (hx : aCx p l s m args meth c own cc nL ret E) {a b : Nat} {z : Int} (d : decode cc pc = .ok (.iinc 14 z, 3)) (hn : pc + 3 = nx) (hb : 14 < nL) (hv : Int32.ofInt z = nI b) (hc : (p13.category == 2) = false := by rfl) (kk : aG p l e R s m args below meth c E io0 S0 nL Q nx (p0 :: p1 :: p2 :: p3 :: p4 :: p5 :: p6 :: p7 :: p8 :: p9 :: p10 :: p11 :: p12 :: p13 :: .int (nI (a + b)) :: t) (st) S I L Rf k n) : aG p l e R s m args below meth c E io0 S0 nL Q pc (p0 :: p1 :: p2 :: p3 :: p4 :: p5 :: p6 :: p7 :: p8 :: p9 :: p10 :: p11 :: p12 :: p13 :: .int (nI a) :: t) (st) S I L Rf k n := g_iinc_14 hx d hn hb hv hc (by rw [nI_add]; exact kk)
theorem g_iincN_15 (hx : aCx p l s m args meth c own cc nL ret E) {a b : Nat} {z : Int} (d : decode cc pc = .ok (.iinc 15 z, 3)) (hn : pc + 3 = nx) (hb : 15 < nL) (hv : Int32.ofInt z = nI b) (hc : (p14.category == 2) = false := by rfl) (kk : aG p l e R s m args below meth c E io0 S0 nL Q nx (p0 :: p1 :: p2 :: p3 :: p4 :: p5 :: p6 :: p7 :: p8 :: p9 :: p10 :: p11 :: p12 :: p13 :: p14 :: .int (nI (a + b)) :: t) (st) S I L Rf k n) : aG p l e R s m args below meth c E io0 S0 nL Q pc (p0 :: p1 :: p2 :: p3 :: p4 :: p5 :: p6 :: p7 :: p8 :: p9 :: p10 :: p11 :: p12 :: p13 :: p14 :: .int (nI a) :: t) (st) S I L Rf k n := g_iinc_15 hx d hn hb hv hc (by rw [nI_add]; exact kk)
theorem g_iincN_16 (hx : aCx p l s m args meth c own cc nL ret E) {a b : Nat} {z : Int} (d : decode cc pc = .ok (.iinc 16 z, 3)) (hn : pc + 3 = nx) (hb : 16 < nL) (hv : Int32.ofInt z = nI b) (hc : (p15.category == 2) = false := by rfl) (kk : aG p l e R s m args below meth c E io0 S0 nL Q nx (p0 :: p1 :: p2 :: p3 :: p4 :: p5 :: p6 :: p7 :: p8 :: p9 :: p10 :: p11 :: p12 :: p13 :: p14 :: p15 :: .int (nI (a + b)) :: t) (st) S I L Rf k n) : aG p l e R s m args below meth c E io0 S0 nL Q pc (p0 :: p1 :: p2 :: p3 :: p4 :: p5 :: p6 :: p7 :: p8 :: p9 :: p10 :: p11 :: p12 :: p13 :: p14 :: p15 :: .int (nI a) :: t) (st) S I L Rf k n := g_iinc_16 hx d hn hb hv hc (by rw [nI_add]; exact kk)
theorem g_iincN_17 (hx : aCx p l s m args meth c own cc nL ret E) {a b : Nat} {z : Int} (d : decode cc pc = .ok (.iinc 17 z, 3)) (hn : pc + 3 = nx) (hb : 17 < nL) (hv : Int32.ofInt z = nI b) (hc : (p16.category == 2) = false := by rfl) (kk : aG p l e R s m args below meth c E io0 S0 nL Q nx (p0 :: p1 :: p2 :: p3 :: p4 :: p5 :: p6 :: p7 :: p8 :: p9 :: p10 :: p11 :: p12 :: p13 :: p14 :: p15 :: p16 :: .int (nI (a + b)) :: t) (st) S I L Rf k n) : aG p l e R s m args below meth c E io0 S0 nL Q pc (p0 :: p1 :: p2 :: p3 :: p4 :: p5 :: p6 :: p7 :: p8 :: p9 :: p10 :: p11 :: p12 :: p13 :: p14 :: p15 :: p16 :: .int (nI a) :: t) (st) S I L Rf k n := g_iinc_17 hx d hn hb hv hc (by rw [nI_add]; exact kk)
theorem g_iincN_18 (hx : aCx p l s m args meth c own cc nL ret E) {a b : Nat} {z : Int} (d : decode cc pc = .ok (.iinc 18 z, 3)) (hn : pc + 3 = nx) (hb : 18 < nL) (hv : Int32.ofInt z = nI b) (hc : (p17.category == 2) = false := by rfl) (kk : aG p l e R s m args below meth c E io0 S0 nL Q nx (p0 :: p1 :: p2 :: p3 :: p4 :: p5 :: p6 :: p7 :: p8 :: p9 :: p10 :: p11 :: p12 :: p13 :: p14 :: p15 :: p16 :: p17 :: .int (nI (a + b)) :: t) (st) S I L Rf k n) : aG p l e R s m args below meth c E io0 S0 nL Q pc (p0 :: p1 :: p2 :: p3 :: p4 :: p5 :: p6 :: p7 :: p8 :: p9 :: p10 :: p11 :: p12 :: p13 :: p14 :: p15 :: p16 :: p17 :: .int (nI a) :: t) (st) S I L Rf k n := g_iinc_18 hx d hn hb hv hc (by rw [nI_add]; exact kk)
theorem g_iincN_19 (hx : aCx p l s m args meth c own cc nL ret E) {a b : Nat} {z : Int} (d : decode cc pc = .ok (.iinc 19 z, 3)) (hn : pc + 3 = nx) (hb : 19 < nL) (hv : Int32.ofInt z = nI b) (hc : (p18.category == 2) = false := by rfl) (kk : aG p l e R s m args below meth c E io0 S0 nL Q nx (p0 :: p1 :: p2 :: p3 :: p4 :: p5 :: p6 :: p7 :: p8 :: p9 :: p10 :: p11 :: p12 :: p13 :: p14 :: p15 :: p16 :: p17 :: p18 :: .int (nI (a + b)) :: t) (st) S I L Rf k n) : aG p l e R s m args below meth c E io0 S0 nL Q pc (p0 :: p1 :: p2 :: p3 :: p4 :: p5 :: p6 :: p7 :: p8 :: p9 :: p10 :: p11 :: p12 :: p13 :: p14 :: p15 :: p16 :: p17 :: p18 :: .int (nI a) :: t) (st) S I L Rf k n := g_iinc_19 hx d hn hb hv hc (by rw [nI_add]; exact kk)
end ALS
