/-! the reference: how it begins -/
theorem acA : ∀ k, k < 33 → 17 ≤ k → -acos (32 - k) = acos k := by decide +kernel
theorem acB : ∀ k, k < 64 → 33 ≤ k → acos (64 - k) = acos k := by decide +kernel
abbrev rmX4_laysRow : Room := { frames := 0, cells := 0, slots := 0, locals := 0 }
set_option maxHeartbeats 4000000 in
set_option maxRecDepth 100000 in
theorem s_X4_laysRow {l : Launch} {E : aE} {S : aS} {I : aI} {L : aL} {Rf : aR} {Kr : aK} {Kx : aX} (hst : l.stackTraces = false) {fr : Nat} {x y w v : Int32} (hM : lyM S Rf) (hfr : fr ≤ 60) (hk : Kr none S (au2 (au2 (au2 (au2 I 37 fr x) 37 (fr + 1) y) 37 (fr + 2) w) 37 (fr + 3) v) L Rf) : aMet l E yX4_laysRow cX4_laysRow 6 none rmX4_laysRow [.ref 20, .int (nI fr), .int x, .int y, .int w, .int v] (S) (I) (L) (Rf) Kr Kx := by
  refine aMet.of (lv0 := [.ref 20, .int (nI fr), .int x, .int y, .int w, .int v]) (z := 0) (by decide +kernel) hst rfl (Nat.le_of_ble_eq_true rfl) ?_
  intro p e s m args below meth c io0 hx hin hno
  have hx : aCx p l s m args meth c RX4 cX4_laysRow 6 none E := hx
  have h0 : (nI fr).toNatClampNeg = fr := nI_clamp (by omega)
  have h1 : nI fr + 1 = nI (fr + 1) := nI_add fr 1
  have h2 : nI fr + 2 = nI (fr + 2) := nI_add fr 2
  have h3 : nI fr + 3 = nI (fr + 3) := nI_add fr 3
  have c1 : (nI (fr + 1)).toNatClampNeg = fr + 1 := nI_clamp (by omega)
  have c2 : (nI (fr + 2)).toNatClampNeg = fr + 2 := nI_clamp (by omega)
  have c3 : (nI (fr + 3)).toNatClampNeg = fr + 3 := nI_clamp (by omega)
  refine g_aloadG_n hx dX4_laysRow_0 rfl (nx := 1) rfl rfl ?_
  refine g_getfo_R hx dX4_laysRow_1 (nx := 4) rfl fa_X4_57 rfl (r9 := 37) (hM.2 17 rfl) (hM.1 0 _ rfl) (by decide) ?_
  refine g_iloadG_n hx dX4_laysRow_4 rfl (nx := 5) rfl rfl ?_
  refine g_iloadG_n hx dX4_laysRow_5 rfl (nx := 6) rfl rfl ?_
  refine g_iastore hx dX4_laysRow_6 (nx := 7) rfl (hM.1 17 _ rfl) (by decide) (vp_in_nI (by omega) (by decide)) ?_
  refine g_aloadG_n hx dX4_laysRow_7 rfl (nx := 8) rfl rfl ?_
  refine g_getfo_R hx dX4_laysRow_8 (nx := 11) rfl fa_X4_57 rfl (r9 := 37) (hM.2 17 rfl) (hM.1 0 _ rfl) (by decide) ?_
  refine g_iloadG_n hx dX4_laysRow_11 rfl (nx := 12) rfl rfl ?_
  refine g_iconst hx dX4_laysRow_12 (nx := 13) rfl (v := 1) (by decide) ?_
  refine g_iadd hx dX4_laysRow_13 (nx := 14) rfl ?_
  refine g_iloadG_n hx dX4_laysRow_14 rfl (nx := 15) rfl rfl ?_
  refine g_iastore hx dX4_laysRow_15 (nx := 16) rfl (hM.1 17 _ rfl) (by decide) (by rw [h1]; exact vp_in_nI (by omega) (by decide)) ?_
  refine g_aloadG_n hx dX4_laysRow_16 rfl (nx := 17) rfl rfl ?_
  refine g_getfo_R hx dX4_laysRow_17 (nx := 20) rfl fa_X4_57 rfl (r9 := 37) (hM.2 17 rfl) (hM.1 0 _ rfl) (by decide) ?_
  refine g_iloadG_n hx dX4_laysRow_20 rfl (nx := 21) rfl rfl ?_
  refine g_iconst hx dX4_laysRow_21 (nx := 22) rfl (v := 2) (by decide) ?_
  refine g_iadd hx dX4_laysRow_22 (nx := 23) rfl ?_
  refine g_iloadG hx dX4_laysRow_23 (nx := 25) rfl rfl ?_
  refine g_iastore hx dX4_laysRow_25 (nx := 26) rfl (hM.1 17 _ rfl) (by decide) (by rw [h2]; exact vp_in_nI (by omega) (by decide)) ?_
  refine g_aloadG_n hx dX4_laysRow_26 rfl (nx := 27) rfl rfl ?_
  refine g_getfo_R hx dX4_laysRow_27 (nx := 30) rfl fa_X4_57 rfl (r9 := 37) (hM.2 17 rfl) (hM.1 0 _ rfl) (by decide) ?_
  refine g_iloadG_n hx dX4_laysRow_30 rfl (nx := 31) rfl rfl ?_
  refine g_iconst hx dX4_laysRow_31 (nx := 32) rfl (v := 3) (by decide) ?_
  refine g_iadd hx dX4_laysRow_32 (nx := 33) rfl ?_
  refine g_iloadG hx dX4_laysRow_33 (nx := 35) rfl rfl ?_
  refine g_iastore hx dX4_laysRow_35 (nx := 36) rfl (hM.1 17 _ rfl) (by decide) (by rw [h3]; exact vp_in_nI (by omega) (by decide)) ?_
  refine g_vret hx dX4_laysRow_36 rfl (Nat.le_of_ble_eq_true rfl) (Nat.le_of_ble_eq_true rfl) ?_
  rw [h1, h2, h3, h0, c1, c2, c3]
  exact hk

abbrev rmX4_init : Room := { frames := 1, cells := 26, slots := 4114, locals := 25 }
set_option maxHeartbeats 4000000 in
set_option maxRecDepth 100000 in
theorem s_X4_init {l : Launch} {E : aE} {S : aS} {I : aI} {L : aL} {Rf : aR} {Kr : aK} {Kx : aX} (hst : l.stackTraces = false) (h20 : S 20 = some (.inr 4)) (hz : ∀ k, I 20 k = 0) (hn : ∀ a, 21 ≤ a → a ≤ 50 → S a = none) (hk : ∀ S' J L' R', lyM S' R' → (∀ a, (a < 20 ∨ 50 < a) → S' a = S a) → (∀ a b, (a < 20 ∨ 50 < a) → J a b = I a b ∧ L' a b = L a b ∧ R' a b = Rf a b) → (∀ b, J 20 b = if b = 14 then 1000 else 0) → tbM J → (∀ t, t < 1536 → J 31 t = -1) → (∀ b, J 32 b = 0) → (∀ b, J 33 b = 0) → (∀ b, J 35 b = 0) → Kr none S' J L' R') : aMet l E yX4_init cX4_init 2 none rmX4_init [.ref 20] (S) (I) (L) (Rf) Kr Kx := by
  refine aMet.of (lv0 := [.ref 20, aU]) (z := 1) (by decide +kernel) hst rfl (Nat.le_of_ble_eq_true rfl) ?_
  intro p e s m args below meth c io0 hx hin hno
  have hx : aCx p l s m args meth c RX4 cX4_init 2 none E := hx
  have tail : ∀ (S' : aS) (I' : aI) (L' : aL) (R' : aR), lyM S' R' → (∀ b, I' 37 b = 0) → (lyM S' R' → ∀ J, (∀ a b, a ≠ 31 → a ≠ 37 → J a b = I' a b) → tbM J → (∀ t, t < 1536 → J 31 t = -1) → Kr none S' J L' R') → aG p l e rmX4_init s m args below meth c E io0 S 2 (vx_MQ below (aQc E io0 S Kr) (aXC E io0 S Kx) args s rmX4_init.cells rmX4_init.slots (aW E)) 222 [.ref 20, aU] [] (S') (I') (L') (R') 26 4114 := by
    intro S' I' L' R' hM h37 hk2
    have loopC : ∀ (r i : Nat) (J : aI), i + r = 1536 → (∀ a b, a ≠ 31 → a ≠ 37 → J a b = I' a b) → tbM J → (∀ t, t < i → J 31 t = -1) → aG p l e rmX4_init s m args below meth c E io0 S 2 (vx_MQ below (aQc E io0 S Kr) (aXC E io0 S Kx) args s rmX4_init.cells rmX4_init.slots (aW E)) 354 [.ref 20, .int (nI i)] [] (S') (J) (L') (R') 26 4114 := by
      intro r
      induction r with
      | zero =>
        intro i J hi h1 h2 h3
        have hi : i = 1536 := by omega
        subst hi
        refine g_iloadG_n hx dX4_init_354 rfl (nx := 355) rfl rfl ?_
        refine g_sipush hx dX4_init_355 (nx := 358) rfl (v := 1536) (by decide) ?_
        refine g_icmp_ge hx dX4_init_358 (tg := 374) (by decide) (nx := 361) rfl (fun c358 => ?_) (fun c358 => ?_)
        · refine g_vret hx dX4_init_374 rfl (Nat.le_of_ble_eq_true rfl) (Nat.le_of_ble_eq_true rfl) ?_
          exact hk2 hM J h1 h2 h3
        · exact absurd (by decide) c358
      | succ r ih =>
        intro i J hi h1 h2 h3
        have hn : (nI i).toNatClampNeg = i := nI_clamp (by omega)
        refine g_iloadG_n hx dX4_init_354 rfl (nx := 355) rfl rfl ?_
        refine g_sipush hx dX4_init_355 (nx := 358) rfl (v := 1536) (by decide) ?_
        refine g_icmp_ge hx dX4_init_358 (tg := 374) (by decide) (nx := 361) rfl (fun c358 => ?_) (fun c358 => ?_)
        · exact absurd c358 (nI_ge (b := 1536) (by omega) (by decide))
        · refine g_aloadG_n hx dX4_init_361 rfl (nx := 362) rfl rfl ?_
          refine g_getfo_R hx dX4_init_362 (nx := 365) rfl fa_X4_37 rfl (r9 := 31) (hM.2 11 rfl) (hM.1 0 _ rfl) (by decide) ?_
          refine g_iloadG_n hx dX4_init_365 rfl (nx := 366) rfl rfl ?_
          refine g_iconst hx dX4_init_366 (nx := 367) rfl (v := (-1)) (by decide) ?_
          refine g_iastore hx dX4_init_367 (nx := 368) rfl (hM.1 11 _ rfl) (by decide) (vp_in_nI (by omega) (by decide)) ?_
          refine g_iinc_1 hx dX4_init_368 (nx := 371) rfl (by decide) (v := 1) (by decide) rfl ?_
          refine g_goto hx dX4_init_371 (tg := 354) (by decide) ?_
          rw [← nI_succ, hn]
          refine ih (i + 1) _ (by omega) (fun a b z1 z2 => by rw [au2_n (by omega)]; exact h1 a b z1 z2) (h2.y (fun b => au2_n (by omega))) (fun t ht => ?_)
          by_cases e : t = i
          · subst e; rw [au2_s]
          · rw [au2_n (fun z => e z.2)]; exact h3 t (by omega)
    have loopB : ∀ (r i : Nat) (J : aI), i + r = 31 → (∀ a b, a ≠ 31 → a ≠ 37 → J a b = I' a b) → (∀ t, t < 33 + i → J 37 t = acos t) → aG p l e rmX4_init s m args below meth c E io0 S 2 (vx_MQ below (aQc E io0 S Kr) (aXC E io0 S Kx) args s rmX4_init.cells rmX4_init.slots (aW E)) 325 [.ref 20, .int (nI (33 + i))] [] (S') (J) (L') (R') 26 4114 := by
      intro r
      induction r with
      | zero =>
        intro i J hi h1 h2
        have hi : i = 31 := by omega
        subst hi
        refine g_iloadG_n hx dX4_init_325 rfl (nx := 326) rfl rfl ?_
        refine g_bipush hx dX4_init_326 (nx := 328) rfl (v := 64) (by decide) ?_
        refine g_icmp_ge hx dX4_init_328 (tg := 352) (by decide) (nx := 331) rfl (fun c328 => ?_) (fun c328 => ?_)
        · refine g_iconst hx dX4_init_352 (nx := 353) rfl (v := 0) (by decide) ?_
          refine g_istore_1 hx dX4_init_353 (nx := 354) rfl (by decide) rfl ?_
          exact loopC 1536 0 J rfl h1 (fun k hk9 => h2 k hk9) (fun t h => absurd h (Nat.not_lt_zero t))
        · exact absurd (by decide) c328
      | succ r ih =>
        intro i J hi h1 h2
        have hn : (nI (33 + i)).toNatClampNeg = 33 + i := nI_clamp (by omega)
        have h64 : 64 - nI (33 + i) = nI (64 - (33 + i)) := pk_sub (a := 64) (by omega)
        have hc64 : (nI (64 - (33 + i))).toNatClampNeg = 64 - (33 + i) := nI_clamp (by omega)
        refine g_iloadG_n hx dX4_init_325 rfl (nx := 326) rfl rfl ?_
        refine g_bipush hx dX4_init_326 (nx := 328) rfl (v := 64) (by decide) ?_
        refine g_icmp_ge hx dX4_init_328 (tg := 352) (by decide) (nx := 331) rfl (fun c328 => ?_) (fun c328 => ?_)
        · exact absurd c328 (nI_ge (b := 64) (by omega) (by decide))
        · refine g_aloadG_n hx dX4_init_331 rfl (nx := 332) rfl rfl ?_
          refine g_getfo_R hx dX4_init_332 (nx := 335) rfl fa_X4_57 rfl (r9 := 37) (hM.2 17 rfl) (hM.1 0 _ rfl) (by decide) ?_
          refine g_iloadG_n hx dX4_init_335 rfl (nx := 336) rfl rfl ?_
          refine g_aloadG_n hx dX4_init_336 rfl (nx := 337) rfl rfl ?_
          refine g_getfo_R hx dX4_init_337 (nx := 340) rfl fa_X4_57 rfl (r9 := 37) (hM.2 17 rfl) (hM.1 0 _ rfl) (by decide) ?_
          refine g_bipush hx dX4_init_340 (nx := 342) rfl (v := 64) (by decide) ?_
          refine g_iloadG_n hx dX4_init_342 rfl (nx := 343) rfl rfl ?_
          refine g_isub hx dX4_init_343 (nx := 344) rfl ?_
          refine g_iaload hx dX4_init_344 (nx := 345) rfl (hM.1 17 _ rfl) (by decide) (by rw [h64]; exact vp_in_nI (by omega) (by decide)) ?_
          refine g_iastore hx dX4_init_345 (nx := 346) rfl (hM.1 17 _ rfl) (by decide) (vp_in_nI (by omega) (by decide)) ?_
          refine g_iinc_1 hx dX4_init_346 (nx := 349) rfl (by decide) (v := 1) (by decide) rfl ?_
          refine g_goto hx dX4_init_349 (tg := 325) (by decide) ?_
          rw [← nI_succ, hn, h64, hc64]
          refine ih (i + 1) _ (by omega) (fun a b z1 z2 => by rw [au2_n (by omega)]; exact h1 a b z1 z2) (fun t ht => ?_)
          by_cases e : t = 33 + i
          · rw [e, au2_s, h2 _ (by omega)]; exact acB _ (by omega) (by omega)
          · rw [au2_n (fun z => e z.2)]; exact h2 t (by omega)
    have loopA : ∀ (r i : Nat) (J : aI), i + r = 16 → (∀ a b, a ≠ 31 → a ≠ 37 → J a b = I' a b) → (∀ t, t < 17 + i → J 37 t = acos t) → aG p l e rmX4_init s m args below meth c E io0 S 2 (vx_MQ below (aQc E io0 S Kr) (aXC E io0 S Kx) args s rmX4_init.cells rmX4_init.slots (aW E)) 294 [.ref 20, .int (nI (17 + i))] [] (S') (J) (L') (R') 26 4114 := by
      intro r
      induction r with
      | zero =>
        intro i J hi h1 h2
        have hi : i = 16 := by omega
        subst hi
        refine g_iloadG_n hx dX4_init_294 rfl (nx := 295) rfl rfl ?_
        refine g_bipush hx dX4_init_295 (nx := 297) rfl (v := 32) (by decide) ?_
        refine g_icmp_gt hx dX4_init_297 (tg := 322) (by decide) (nx := 300) rfl (fun c297 => ?_) (fun c297 => ?_)
        · refine g_bipush hx dX4_init_322 (nx := 324) rfl (v := 33) (by decide) ?_
          refine g_istore_1 hx dX4_init_324 (nx := 325) rfl (by decide) rfl ?_
          exact loopB 31 0 J rfl h1 h2
        · exact absurd (nI_lt (a := 32) (b := 33) (by decide) (by decide)) c297
      | succ r ih =>
        intro i J hi h1 h2
        have hn : (nI (17 + i)).toNatClampNeg = 17 + i := nI_clamp (by omega)
        have h32 : 32 - nI (17 + i) = nI (32 - (17 + i)) := pk_sub (a := 32) (by omega)
        have hc32 : (nI (32 - (17 + i))).toNatClampNeg = 32 - (17 + i) := nI_clamp (by omega)
        refine g_iloadG_n hx dX4_init_294 rfl (nx := 295) rfl rfl ?_
        refine g_bipush hx dX4_init_295 (nx := 297) rfl (v := 32) (by decide) ?_
        refine g_icmp_gt hx dX4_init_297 (tg := 322) (by decide) (nx := 300) rfl (fun c297 => ?_) (fun c297 => ?_)
        · exact absurd c297 (nI_nlt (b := 17 + i) (a := 32) (by omega) (by decide))
        · refine g_aloadG_n hx dX4_init_300 rfl (nx := 301) rfl rfl ?_
          refine g_getfo_R hx dX4_init_301 (nx := 304) rfl fa_X4_57 rfl (r9 := 37) (hM.2 17 rfl) (hM.1 0 _ rfl) (by decide) ?_
          refine g_iloadG_n hx dX4_init_304 rfl (nx := 305) rfl rfl ?_
          refine g_aloadG_n hx dX4_init_305 rfl (nx := 306) rfl rfl ?_
          refine g_getfo_R hx dX4_init_306 (nx := 309) rfl fa_X4_57 rfl (r9 := 37) (hM.2 17 rfl) (hM.1 0 _ rfl) (by decide) ?_
          refine g_bipush hx dX4_init_309 (nx := 311) rfl (v := 32) (by decide) ?_
          refine g_iloadG_n hx dX4_init_311 rfl (nx := 312) rfl rfl ?_
          refine g_isub hx dX4_init_312 (nx := 313) rfl ?_
          refine g_iaload hx dX4_init_313 (nx := 314) rfl (hM.1 17 _ rfl) (by decide) (by rw [h32]; exact vp_in_nI (by omega) (by decide)) ?_
          refine g_ineg hx dX4_init_314 (nx := 315) rfl ?_
          refine g_iastore hx dX4_init_315 (nx := 316) rfl (hM.1 17 _ rfl) (by decide) (vp_in_nI (by omega) (by decide)) ?_
          refine g_iinc_1 hx dX4_init_316 (nx := 319) rfl (by decide) (v := 1) (by decide) rfl ?_
          refine g_goto hx dX4_init_319 (tg := 294) (by decide) ?_
          rw [← nI_succ, hn, h32, hc32]
          refine ih (i + 1) _ (by omega) (fun a b z1 z2 => by rw [au2_n (by omega)]; exact h1 a b z1 z2) (fun t ht => ?_)
          by_cases e : t = 17 + i
          · rw [e, au2_s, h2 _ (by omega)]; exact acA _ (by omega) (by omega)
          · rw [au2_n (fun z => e z.2)]; exact h2 t (by omega)
    refine g_aloadG_n hx dX4_init_222 rfl (nx := 223) rfl rfl ?_
    refine g_iconst hx dX4_init_223 (nx := 224) rfl (v := 0) (by decide) ?_
    refine g_sipush hx dX4_init_224 (nx := 227) rfl (v := 1000) (by decide) ?_
    refine g_sipush hx dX4_init_227 (nx := 230) rfl (v := 995) (by decide) ?_
    refine g_sipush hx dX4_init_230 (nx := 233) rfl (v := 981) (by decide) ?_
    refine g_sipush hx dX4_init_233 (nx := 236) rfl (v := 957) (by decide) ?_
    refine g_callV_M hx [_, _, _, _, _] (k' := 26) (n' := 4114) dX4_init_236 (nx := 239) rfl lk_X4_94 (hM.1 0 _ rfl) (by decide) rfl rfl (Nat.le_of_ble_eq_true rfl) (Nat.le_of_ble_eq_true rfl) (Nat.le_of_ble_eq_true rfl) (Nat.le_of_ble_eq_true rfl) (Nat.le_of_ble_eq_true rfl) (Nat.le_of_ble_eq_true rfl) (Nat.le_of_ble_eq_true rfl) (s_X4_laysRow (fr := 0) hst hM (by decide) ?_)
    refine g_aloadG_n hx dX4_init_239 rfl (nx := 240) rfl rfl ?_
    refine g_iconst hx dX4_init_240 (nx := 241) rfl (v := 4) (by decide) ?_
    refine g_sipush hx dX4_init_241 (nx := 244) rfl (v := 924) (by decide) ?_
    refine g_sipush hx dX4_init_244 (nx := 247) rfl (v := 882) (by decide) ?_
    refine g_sipush hx dX4_init_247 (nx := 250) rfl (v := 831) (by decide) ?_
    refine g_sipush hx dX4_init_250 (nx := 253) rfl (v := 773) (by decide) ?_
    refine g_callV_M hx [_, _, _, _, _] (k' := 26) (n' := 4114) dX4_init_253 (nx := 256) rfl lk_X4_94 (hM.1 0 _ rfl) (by decide) rfl rfl (Nat.le_of_ble_eq_true rfl) (Nat.le_of_ble_eq_true rfl) (Nat.le_of_ble_eq_true rfl) (Nat.le_of_ble_eq_true rfl) (Nat.le_of_ble_eq_true rfl) (Nat.le_of_ble_eq_true rfl) (Nat.le_of_ble_eq_true rfl) (s_X4_laysRow (fr := 4) hst hM (by decide) ?_)
    refine g_aloadG_n hx dX4_init_256 rfl (nx := 257) rfl rfl ?_
    refine g_bipush hx dX4_init_257 (nx := 259) rfl (v := 8) (by decide) ?_
    refine g_sipush hx dX4_init_259 (nx := 262) rfl (v := 707) (by decide) ?_
    refine g_sipush hx dX4_init_262 (nx := 265) rfl (v := 634) (by decide) ?_
    refine g_sipush hx dX4_init_265 (nx := 268) rfl (v := 556) (by decide) ?_
    refine g_sipush hx dX4_init_268 (nx := 271) rfl (v := 471) (by decide) ?_
    refine g_callV_M hx [_, _, _, _, _] (k' := 26) (n' := 4114) dX4_init_271 (nx := 274) rfl lk_X4_94 (hM.1 0 _ rfl) (by decide) rfl rfl (Nat.le_of_ble_eq_true rfl) (Nat.le_of_ble_eq_true rfl) (Nat.le_of_ble_eq_true rfl) (Nat.le_of_ble_eq_true rfl) (Nat.le_of_ble_eq_true rfl) (Nat.le_of_ble_eq_true rfl) (Nat.le_of_ble_eq_true rfl) (s_X4_laysRow (fr := 8) hst hM (by decide) ?_)
    refine g_aloadG_n hx dX4_init_274 rfl (nx := 275) rfl rfl ?_
    refine g_bipush hx dX4_init_275 (nx := 277) rfl (v := 12) (by decide) ?_
    refine g_sipush hx dX4_init_277 (nx := 280) rfl (v := 383) (by decide) ?_
    refine g_sipush hx dX4_init_280 (nx := 283) rfl (v := 290) (by decide) ?_
    refine g_sipush hx dX4_init_283 (nx := 286) rfl (v := 195) (by decide) ?_
    refine g_bipush hx dX4_init_286 (nx := 288) rfl (v := 98) (by decide) ?_
    refine g_callV_M hx [_, _, _, _, _] (k' := 26) (n' := 4114) dX4_init_288 (nx := 291) rfl lk_X4_94 (hM.1 0 _ rfl) (by decide) rfl rfl (Nat.le_of_ble_eq_true rfl) (Nat.le_of_ble_eq_true rfl) (Nat.le_of_ble_eq_true rfl) (Nat.le_of_ble_eq_true rfl) (Nat.le_of_ble_eq_true rfl) (Nat.le_of_ble_eq_true rfl) (Nat.le_of_ble_eq_true rfl) (s_X4_laysRow (fr := 12) hst hM (by decide) ?_)
    refine g_bipush hx dX4_init_291 (nx := 293) rfl (v := 17) (by decide) ?_
    refine g_istore_1 hx dX4_init_293 (nx := 294) rfl (by decide) rfl ?_
    refine loopA 16 0 _ rfl (fun a b z1 z2 => by simp [au2, z2]) (fun t ht => ?_)
    match t, ht with
      | 0, _ => simp [au2, h37, acos]
      | 1, _ => simp [au2, h37, acos]
      | 2, _ => simp [au2, h37, acos]
      | 3, _ => simp [au2, h37, acos]
      | 4, _ => simp [au2, h37, acos]
      | 5, _ => simp [au2, h37, acos]
      | 6, _ => simp [au2, h37, acos]
      | 7, _ => simp [au2, h37, acos]
      | 8, _ => simp [au2, h37, acos]
      | 9, _ => simp [au2, h37, acos]
      | 10, _ => simp [au2, h37, acos]
      | 11, _ => simp [au2, h37, acos]
      | 12, _ => simp [au2, h37, acos]
      | 13, _ => simp [au2, h37, acos]
      | 14, _ => simp [au2, h37, acos]
      | 15, _ => simp [au2, h37, acos]
      | 16, _ => simp [au2, h37, acos]
      | t + 17, h => exact absurd h (by omega)
  refine g_aloadG_n hx dX4_init_0 rfl (nx := 1) rfl rfl ?_
  refine g_objInit hx dX4_init_1 (nx := 4) rfl oi_X4 oi_i oi_c (Nat.le_of_ble_eq_true rfl) (Nat.le_of_ble_eq_true rfl) ?_
  refine g_aloadG_n hx dX4_init_4 rfl (nx := 5) rfl rfl ?_
  refine g_bipush hx dX4_init_5 (nx := 7) rfl (v := 8) (by decide) ?_
  refine g_newarrayint hx dX4_init_7 (nx := 9) rfl ac_i (by decide) (N := 8) (by decide) (by decide) (q := 21) (hn 21 (by decide) (by decide)) (by decide) (k' := 1) rfl (n' := 8) rfl (Nat.le_of_ble_eq_true rfl) (Nat.le_of_ble_eq_true rfl) ?_
  refine g_putff_r hx dX4_init_9 (nx := 12) rfl fa_X4_7 rfl (fun r h => by cases h; exact ⟨rfl, rfl⟩) hin h20 (by decide) ?_
  refine g_aloadG_n hx dX4_init_12 rfl (nx := 13) rfl rfl ?_
  refine g_bipush hx dX4_init_13 (nx := 15) rfl (v := 8) (by decide) ?_
  refine g_newarrayint hx dX4_init_15 (nx := 17) rfl ac_i (by decide) (N := 8) (by decide) (by decide) (q := 22) (hn 22 (by decide) (by decide)) (by decide) (k' := 2) rfl (n' := 16) rfl (Nat.le_of_ble_eq_true rfl) (Nat.le_of_ble_eq_true rfl) ?_
  refine g_putff_r hx dX4_init_17 (nx := 20) rfl fa_X4_13 rfl (fun r h => by cases h; exact ⟨rfl, rfl⟩) hin h20 (by decide) ?_
  refine g_aloadG_n hx dX4_init_20 rfl (nx := 21) rfl rfl ?_
  refine g_bipush hx dX4_init_21 (nx := 23) rfl (v := 8) (by decide) ?_
  refine g_newarrayint hx dX4_init_23 (nx := 25) rfl ac_i (by decide) (N := 8) (by decide) (by decide) (q := 23) (hn 23 (by decide) (by decide)) (by decide) (k' := 3) rfl (n' := 24) rfl (Nat.le_of_ble_eq_true rfl) (Nat.le_of_ble_eq_true rfl) ?_
  refine g_putff_r hx dX4_init_25 (nx := 28) rfl fa_X4_16 rfl (fun r h => by cases h; exact ⟨rfl, rfl⟩) hin h20 (by decide) ?_
  refine g_aloadG_n hx dX4_init_28 rfl (nx := 29) rfl rfl ?_
  refine g_bipush hx dX4_init_29 (nx := 31) rfl (v := 6) (by decide) ?_
  refine g_newarrayint hx dX4_init_31 (nx := 33) rfl ac_i (by decide) (N := 6) (by decide) (by decide) (q := 25) (hn 25 (by decide) (by decide)) (by decide) (k' := 4) rfl (n' := 30) rfl (Nat.le_of_ble_eq_true rfl) (Nat.le_of_ble_eq_true rfl) ?_
  refine g_putff_r hx dX4_init_33 (nx := 36) rfl fa_X4_19 rfl (fun r h => by cases h; exact ⟨rfl, rfl⟩) hin h20 (by decide) ?_
  refine g_aloadG_n hx dX4_init_36 rfl (nx := 37) rfl rfl ?_
  refine g_bipush hx dX4_init_37 (nx := 39) rfl (v := 6) (by decide) ?_
  refine g_newarrayint hx dX4_init_39 (nx := 41) rfl ac_i (by decide) (N := 6) (by decide) (by decide) (q := 26) (hn 26 (by decide) (by decide)) (by decide) (k' := 5) rfl (n' := 36) rfl (Nat.le_of_ble_eq_true rfl) (Nat.le_of_ble_eq_true rfl) ?_
  refine g_putff_r hx dX4_init_41 (nx := 44) rfl fa_X4_22 rfl (fun r h => by cases h; exact ⟨rfl, rfl⟩) hin h20 (by decide) ?_
  refine g_aloadG_n hx dX4_init_44 rfl (nx := 45) rfl rfl ?_
  refine g_bipush hx dX4_init_45 (nx := 47) rfl (v := 6) (by decide) ?_
  refine g_newarrayint hx dX4_init_47 (nx := 49) rfl ac_i (by decide) (N := 6) (by decide) (by decide) (q := 27) (hn 27 (by decide) (by decide)) (by decide) (k' := 6) rfl (n' := 42) rfl (Nat.le_of_ble_eq_true rfl) (Nat.le_of_ble_eq_true rfl) ?_
  refine g_putff_r hx dX4_init_49 (nx := 52) rfl fa_X4_25 rfl (fun r h => by cases h; exact ⟨rfl, rfl⟩) hin h20 (by decide) ?_
  refine g_aloadG_n hx dX4_init_52 rfl (nx := 53) rfl rfl ?_
  refine g_bipush hx dX4_init_53 (nx := 55) rfl (v := 6) (by decide) ?_
  refine g_newarrayint hx dX4_init_55 (nx := 57) rfl ac_i (by decide) (N := 6) (by decide) (by decide) (q := 28) (hn 28 (by decide) (by decide)) (by decide) (k' := 7) rfl (n' := 48) rfl (Nat.le_of_ble_eq_true rfl) (Nat.le_of_ble_eq_true rfl) ?_
  refine g_putff_r hx dX4_init_57 (nx := 60) rfl fa_X4_28 rfl (fun r h => by cases h; exact ⟨rfl, rfl⟩) hin h20 (by decide) ?_
  refine g_aloadG_n hx dX4_init_60 rfl (nx := 61) rfl rfl ?_
  refine g_bipush hx dX4_init_61 (nx := 63) rfl (v := 6) (by decide) ?_
  refine g_newarrayint hx dX4_init_63 (nx := 65) rfl ac_i (by decide) (N := 6) (by decide) (by decide) (q := 29) (hn 29 (by decide) (by decide)) (by decide) (k' := 8) rfl (n' := 54) rfl (Nat.le_of_ble_eq_true rfl) (Nat.le_of_ble_eq_true rfl) ?_
  refine g_putff_r hx dX4_init_65 (nx := 68) rfl fa_X4_31 rfl (fun r h => by cases h; exact ⟨rfl, rfl⟩) hin h20 (by decide) ?_
  refine g_aloadG_n hx dX4_init_68 rfl (nx := 69) rfl rfl ?_
  refine g_bipush hx dX4_init_69 (nx := 71) rfl (v := 6) (by decide) ?_
  refine g_newarrayint hx dX4_init_71 (nx := 73) rfl ac_i (by decide) (N := 6) (by decide) (by decide) (q := 30) (hn 30 (by decide) (by decide)) (by decide) (k' := 9) rfl (n' := 60) rfl (Nat.le_of_ble_eq_true rfl) (Nat.le_of_ble_eq_true rfl) ?_
  refine g_putff_r hx dX4_init_73 (nx := 76) rfl fa_X4_34 rfl (fun r h => by cases h; exact ⟨rfl, rfl⟩) hin h20 (by decide) ?_
  refine g_aloadG_n hx dX4_init_76 rfl (nx := 77) rfl rfl ?_
  refine g_sipush hx dX4_init_77 (nx := 80) rfl (v := 1536) (by decide) ?_
  refine g_newarrayint hx dX4_init_80 (nx := 82) rfl ac_i (by decide) (N := 1536) (by decide) (by decide) (q := 31) (hn 31 (by decide) (by decide)) (by decide) (k' := 10) rfl (n' := 1596) rfl (Nat.le_of_ble_eq_true rfl) (Nat.le_of_ble_eq_true rfl) ?_
  refine g_putff_r hx dX4_init_82 (nx := 85) rfl fa_X4_37 rfl (fun r h => by cases h; exact ⟨rfl, rfl⟩) hin h20 (by decide) ?_
  refine g_aloadG_n hx dX4_init_85 rfl (nx := 86) rfl rfl ?_
  refine g_sipush hx dX4_init_86 (nx := 89) rfl (v := 1536) (by decide) ?_
  refine g_newarrayint hx dX4_init_89 (nx := 91) rfl ac_i (by decide) (N := 1536) (by decide) (by decide) (q := 32) (hn 32 (by decide) (by decide)) (by decide) (k' := 11) rfl (n' := 3132) rfl (Nat.le_of_ble_eq_true rfl) (Nat.le_of_ble_eq_true rfl) ?_
  refine g_putff_r hx dX4_init_91 (nx := 94) rfl fa_X4_40 rfl (fun r h => by cases h; exact ⟨rfl, rfl⟩) hin h20 (by decide) ?_
  refine g_aloadG_n hx dX4_init_94 rfl (nx := 95) rfl rfl ?_
  refine g_iconst hx dX4_init_95 (nx := 96) rfl (v := 4) (by decide) ?_
  refine g_newarrayboolean hx dX4_init_96 (nx := 98) rfl ac_z (by decide) (N := 4) (by decide) (by decide) (q := 33) (hn 33 (by decide) (by decide)) (by decide) (k' := 12) rfl (n' := 3136) rfl (Nat.le_of_ble_eq_true rfl) (Nat.le_of_ble_eq_true rfl) ?_
  refine g_putff_r hx dX4_init_98 (nx := 101) rfl fa_X4_43 rfl (fun r h => by cases h; exact ⟨rfl, rfl⟩) hin h20 (by decide) ?_
  refine g_aloadG_n hx dX4_init_101 rfl (nx := 102) rfl rfl ?_
  refine g_sipush hx dX4_init_102 (nx := 105) rfl (v := 1000) (by decide) ?_
  refine g_putfo_i hx dX4_init_105 (nx := 108) rfl fa_X4_47 rfl rfl rfl (fun r h => by cases h; rfl) h20 (by decide) ?_
  refine g_aloadG_n hx dX4_init_108 rfl (nx := 109) rfl rfl ?_
  refine g_bipush hx dX4_init_109 (nx := 111) rfl (v := 6) (by decide) ?_
  refine g_newarrayint hx dX4_init_111 (nx := 113) rfl ac_i (by decide) (N := 6) (by decide) (by decide) (q := 35) (hn 35 (by decide) (by decide)) (by decide) (k' := 13) rfl (n' := 3142) rfl (Nat.le_of_ble_eq_true rfl) (Nat.le_of_ble_eq_true rfl) ?_
  refine g_putff_r hx dX4_init_113 (nx := 116) rfl fa_X4_51 rfl (fun r h => by cases h; exact ⟨rfl, rfl⟩) hin h20 (by decide) ?_
  refine g_aloadG_n hx dX4_init_116 rfl (nx := 117) rfl rfl ?_
  refine g_bipush hx dX4_init_117 (nx := 119) rfl (v := 36) (by decide) ?_
  refine g_newarrayint hx dX4_init_119 (nx := 121) rfl ac_i (by decide) (N := 36) (by decide) (by decide) (q := 36) (hn 36 (by decide) (by decide)) (by decide) (k' := 14) rfl (n' := 3178) rfl (Nat.le_of_ble_eq_true rfl) (Nat.le_of_ble_eq_true rfl) ?_
  refine g_putff_r hx dX4_init_121 (nx := 124) rfl fa_X4_54 rfl (fun r h => by cases h; exact ⟨rfl, rfl⟩) hin h20 (by decide) ?_
  refine g_aloadG_n hx dX4_init_124 rfl (nx := 125) rfl rfl ?_
  refine g_bipush hx dX4_init_125 (nx := 127) rfl (v := 64) (by decide) ?_
  refine g_newarrayint hx dX4_init_127 (nx := 129) rfl ac_i (by decide) (N := 64) (by decide) (by decide) (q := 37) (hn 37 (by decide) (by decide)) (by decide) (k' := 15) rfl (n' := 3242) rfl (Nat.le_of_ble_eq_true rfl) (Nat.le_of_ble_eq_true rfl) ?_
  refine g_putff_r hx dX4_init_129 (nx := 132) rfl fa_X4_57 rfl (fun r h => by cases h; exact ⟨rfl, rfl⟩) hin h20 (by decide) ?_
  refine g_aloadG_n hx dX4_init_132 rfl (nx := 133) rfl rfl ?_
  refine g_sipush hx dX4_init_133 (nx := 136) rfl (v := 256) (by decide) ?_
  refine g_newarraylong hx dX4_init_136 (nx := 138) rfl ac_l (by decide) (N := 256) (by decide) (by decide) (q := 39) (hn 39 (by decide) (by decide)) (by decide) (k' := 16) rfl (n' := 3498) rfl (Nat.le_of_ble_eq_true rfl) (Nat.le_of_ble_eq_true rfl) ?_
  refine g_putff_r hx dX4_init_138 (nx := 141) rfl fa_X4_60 rfl (fun r h => by cases h; exact ⟨rfl, rfl⟩) hin h20 (by decide) ?_
  refine g_aloadG_n hx dX4_init_141 rfl (nx := 142) rfl rfl ?_
  refine g_sipush hx dX4_init_142 (nx := 145) rfl (v := 256) (by decide) ?_
  refine g_newarrayboolean hx dX4_init_145 (nx := 147) rfl ac_z (by decide) (N := 256) (by decide) (by decide) (q := 40) (hn 40 (by decide) (by decide)) (by decide) (k' := 17) rfl (n' := 3754) rfl (Nat.le_of_ble_eq_true rfl) (Nat.le_of_ble_eq_true rfl) ?_
  refine g_putff_r hx dX4_init_147 (nx := 150) rfl fa_X4_64 rfl (fun r h => by cases h; exact ⟨rfl, rfl⟩) hin h20 (by decide) ?_
  refine g_aloadG_n hx dX4_init_150 rfl (nx := 151) rfl rfl ?_
  refine g_bipush hx dX4_init_151 (nx := 153) rfl (v := 40) (by decide) ?_
  refine g_newarrayint hx dX4_init_153 (nx := 155) rfl ac_i (by decide) (N := 40) (by decide) (by decide) (q := 42) (hn 42 (by decide) (by decide)) (by decide) (k' := 18) rfl (n' := 3794) rfl (Nat.le_of_ble_eq_true rfl) (Nat.le_of_ble_eq_true rfl) ?_
  refine g_putff_r hx dX4_init_155 (nx := 158) rfl fa_X4_67 rfl (fun r h => by cases h; exact ⟨rfl, rfl⟩) hin h20 (by decide) ?_
  refine g_aloadG_n hx dX4_init_158 rfl (nx := 159) rfl rfl ?_
  refine g_bipush hx dX4_init_159 (nx := 161) rfl (v := 40) (by decide) ?_
  refine g_newarrayint hx dX4_init_161 (nx := 163) rfl ac_i (by decide) (N := 40) (by decide) (by decide) (q := 43) (hn 43 (by decide) (by decide)) (by decide) (k' := 19) rfl (n' := 3834) rfl (Nat.le_of_ble_eq_true rfl) (Nat.le_of_ble_eq_true rfl) ?_
  refine g_putff_r hx dX4_init_163 (nx := 166) rfl fa_X4_70 rfl (fun r h => by cases h; exact ⟨rfl, rfl⟩) hin h20 (by decide) ?_
  refine g_aloadG_n hx dX4_init_166 rfl (nx := 167) rfl rfl ?_
  refine g_bipush hx dX4_init_167 (nx := 169) rfl (v := 40) (by decide) ?_
  refine g_newarrayint hx dX4_init_169 (nx := 171) rfl ac_i (by decide) (N := 40) (by decide) (by decide) (q := 44) (hn 44 (by decide) (by decide)) (by decide) (k' := 20) rfl (n' := 3874) rfl (Nat.le_of_ble_eq_true rfl) (Nat.le_of_ble_eq_true rfl) ?_
  refine g_putff_r hx dX4_init_171 (nx := 174) rfl fa_X4_73 rfl (fun r h => by cases h; exact ⟨rfl, rfl⟩) hin h20 (by decide) ?_
  refine g_aloadG_n hx dX4_init_174 rfl (nx := 175) rfl rfl ?_
  refine g_bipush hx dX4_init_175 (nx := 177) rfl (v := 40) (by decide) ?_
  refine g_newarrayint hx dX4_init_177 (nx := 179) rfl ac_i (by decide) (N := 40) (by decide) (by decide) (q := 45) (hn 45 (by decide) (by decide)) (by decide) (k' := 21) rfl (n' := 3914) rfl (Nat.le_of_ble_eq_true rfl) (Nat.le_of_ble_eq_true rfl) ?_
  refine g_putff_r hx dX4_init_179 (nx := 182) rfl fa_X4_76 rfl (fun r h => by cases h; exact ⟨rfl, rfl⟩) hin h20 (by decide) ?_
  refine g_aloadG_n hx dX4_init_182 rfl (nx := 183) rfl rfl ?_
  refine g_bipush hx dX4_init_183 (nx := 185) rfl (v := 40) (by decide) ?_
  refine g_newarrayint hx dX4_init_185 (nx := 187) rfl ac_i (by decide) (N := 40) (by decide) (by decide) (q := 46) (hn 46 (by decide) (by decide)) (by decide) (k' := 22) rfl (n' := 3954) rfl (Nat.le_of_ble_eq_true rfl) (Nat.le_of_ble_eq_true rfl) ?_
  refine g_putff_r hx dX4_init_187 (nx := 190) rfl fa_X4_79 rfl (fun r h => by cases h; exact ⟨rfl, rfl⟩) hin h20 (by decide) ?_
  refine g_aloadG_n hx dX4_init_190 rfl (nx := 191) rfl rfl ?_
  refine g_bipush hx dX4_init_191 (nx := 193) rfl (v := 40) (by decide) ?_
  refine g_newarraylong hx dX4_init_193 (nx := 195) rfl ac_l (by decide) (N := 40) (by decide) (by decide) (q := 47) (hn 47 (by decide) (by decide)) (by decide) (k' := 23) rfl (n' := 3994) rfl (Nat.le_of_ble_eq_true rfl) (Nat.le_of_ble_eq_true rfl) ?_
  refine g_putff_r hx dX4_init_195 (nx := 198) rfl fa_X4_82 rfl (fun r h => by cases h; exact ⟨rfl, rfl⟩) hin h20 (by decide) ?_
  refine g_aloadG_n hx dX4_init_198 rfl (nx := 199) rfl rfl ?_
  refine g_bipush hx dX4_init_199 (nx := 201) rfl (v := 40) (by decide) ?_
  refine g_newarrayint hx dX4_init_201 (nx := 203) rfl ac_i (by decide) (N := 40) (by decide) (by decide) (q := 48) (hn 48 (by decide) (by decide)) (by decide) (k' := 24) rfl (n' := 4034) rfl (Nat.le_of_ble_eq_true rfl) (Nat.le_of_ble_eq_true rfl) ?_
  refine g_putff_r hx dX4_init_203 (nx := 206) rfl fa_X4_85 rfl (fun r h => by cases h; exact ⟨rfl, rfl⟩) hin h20 (by decide) ?_
  refine g_aloadG_n hx dX4_init_206 rfl (nx := 207) rfl rfl ?_
  refine g_bipush hx dX4_init_207 (nx := 209) rfl (v := 40) (by decide) ?_
  refine g_newarraylong hx dX4_init_209 (nx := 211) rfl ac_l (by decide) (N := 40) (by decide) (by decide) (q := 49) (hn 49 (by decide) (by decide)) (by decide) (k' := 25) rfl (n' := 4074) rfl (Nat.le_of_ble_eq_true rfl) (Nat.le_of_ble_eq_true rfl) ?_
  refine g_putff_r hx dX4_init_211 (nx := 214) rfl fa_X4_88 rfl (fun r h => by cases h; exact ⟨rfl, rfl⟩) hin h20 (by decide) ?_
  refine g_aloadG_n hx dX4_init_214 rfl (nx := 215) rfl rfl ?_
  refine g_bipush hx dX4_init_215 (nx := 217) rfl (v := 40) (by decide) ?_
  refine g_newarrayboolean hx dX4_init_217 (nx := 219) rfl ac_z (by decide) (N := 40) (by decide) (by decide) (q := 50) (hn 50 (by decide) (by decide)) (by decide) (k' := 26) rfl (n' := 4114) rfl (Nat.le_of_ble_eq_true rfl) (Nat.le_of_ble_eq_true rfl) ?_
  refine g_putff_r hx dX4_init_219 (nx := 222) rfl fa_X4_91 rfl (fun r h => by cases h; exact ⟨rfl, rfl⟩) hin h20 (by decide) ?_
  refine tail _ _ _ _ ⟨?_, ?_⟩ ?_ (fun hM J h1 h2 h3 => ?_)
  · intro j x h
    match j, h with
    | 0, h => cases h; exact h20
    | 1, h => cases h; rfl
    | 2, h => cases h; rfl
    | 3, h => cases h; rfl
    | 4, h => exact absurd h (by simp [mT])
    | 5, h => cases h; rfl
    | 6, h => cases h; rfl
    | 7, h => cases h; rfl
    | 8, h => cases h; rfl
    | 9, h => cases h; rfl
    | 10, h => cases h; rfl
    | 11, h => cases h; rfl
    | 12, h => cases h; rfl
    | 13, h => cases h; rfl
    | 14, h => exact absurd h (by simp [mT])
    | 15, h => cases h; rfl
    | 16, h => cases h; rfl
    | 17, h => cases h; rfl
    | 18, h => exact absurd h (by simp [mT])
    | 19, h => cases h; rfl
    | 20, h => cases h; rfl
    | 21, h => exact absurd h (by simp [mT])
    | 22, h => cases h; rfl
    | 23, h => cases h; rfl
    | 24, h => cases h; rfl
    | 25, h => cases h; rfl
    | 26, h => cases h; rfl
    | 27, h => cases h; rfl
    | 28, h => cases h; rfl
    | 29, h => cases h; rfl
    | 30, h => cases h; rfl
    | j + 31, h => exact absurd h (by simp [mT])
  · intro j h
    match j, h with
    | 0, h => exact absurd h (by simp [mA, mT])
    | 1, h => rfl
    | 2, h => rfl
    | 3, h => rfl
    | 4, h => exact absurd h (by simp [mA, mT])
    | 5, h => rfl
    | 6, h => rfl
    | 7, h => rfl
    | 8, h => rfl
    | 9, h => rfl
    | 10, h => rfl
    | 11, h => rfl
    | 12, h => rfl
    | 13, h => rfl
    | 14, h => exact absurd h (by simp [mA, mT])
    | 15, h => rfl
    | 16, h => rfl
    | 17, h => rfl
    | 18, h => exact absurd h (by simp [mA, mT])
    | 19, h => rfl
    | 20, h => rfl
    | 21, h => exact absurd h (by simp [mA, mT])
    | 22, h => rfl
    | 23, h => rfl
    | 24, h => rfl
    | 25, h => rfl
    | 26, h => rfl
    | 27, h => rfl
    | 28, h => rfl
    | 29, h => rfl
    | 30, h => rfl
    | j + 31, h => exact absurd h (by simp [mA, mT])
  · intro b; repeat (first | rw [azr_s] | rw [azr_n (by omega)] | rw [au2_n (by omega)])
  refine hk _ J _ _ hM (fun a z => ?_) (fun a b z => ⟨?_, ?_, ?_⟩) (fun b => ?_) h2 h3 (fun b => ?_) (fun b => ?_) (fun b => ?_)
  · repeat (first | rw [azr_n (by omega)] | rw [au2_n (by omega)] | rw [au1_n (by omega)])
  · rw [h1 a b (by omega) (by omega)]; repeat (first | rw [azr_n (by omega)] | rw [au2_n (by omega)] | rw [au1_n (by omega)])
  · repeat (first | rw [azr_n (by omega)] | rw [au2_n (by omega)] | rw [au1_n (by omega)])
  · repeat (first | rw [azr_n (by omega)] | rw [au2_n (by omega)] | rw [au1_n (by omega)])
  · rw [h1 20 b (by decide) (by decide)]
    by_cases e : b = 14
    · subst e; rw [if_pos rfl]; simp [au2, azr]
    · rw [if_neg e]
      repeat (first | rw [azr_n (by omega)] | rw [au2_n (by omega)] | rw [au1_n (by omega)])
      exact hz b
  · rw [h1 32 b (by decide) (by decide)]; repeat (first | rw [azr_s] | rw [azr_n (by omega)] | rw [au2_n (by omega)] | rw [au1_n (by omega)])
  · rw [h1 33 b (by decide) (by decide)]; repeat (first | rw [azr_s] | rw [azr_n (by omega)] | rw [au2_n (by omega)] | rw [au1_n (by omega)])
  · rw [h1 35 b (by decide) (by decide)]; repeat (first | rw [azr_s] | rw [azr_n (by omega)] | rw [au2_n (by omega)] | rw [au1_n (by omega)])

