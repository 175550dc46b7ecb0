/-! the reference: a star settled, the beginning -/
abbrev rmX4_star : Room := { frames := 1, cells := 0, slots := 0, locals := 22 }
set_option maxHeartbeats 4000000 in
set_option maxRecDepth 100000 in
theorem s_X4_star {l : Launch} {E : aE} {S : aS} {I : aI} {L : aL} {Rf : aR} {Kr : aK} {Kx : aX} (hst : l.stackTraces = false) {n sh : Nat} {f g h : Nat → Nat} {x : Int32} (hM : lyM S Rf) (h4 : I 20 4 = nI n) (hn6 : n ≤ 6) (h0 : I 20 0 = nI sh) (h8 : sh ≤ 8) (hsh : ∀ i, i < sh → I 21 i = nI (f i) ∧ I 22 i = nI (g i) ∧ 1 ≤ g i ∧ g i ≤ 99 ∧ I 23 i = nI (h i)) (hcr : 0 < sh → ¬ crS (fun i => I 21 i) (fun i => I 22 i) sh ≤ 0) (hwt : 0 < sh → ¬ wtS (fun i => I 21 i) sh ≤ 0) (hf1 : ¬ rgN x 0 99 → Kr (some (.int 0)) S (au2 I 20 31 1) L Rf) (hf2 : rgN x 0 99 → (sh = 0 ∨ n = 6) → Kr (some (.int 0)) S (au2 I 20 31 2) L Rf) (hk : rgN x 0 99 → n < 6 → 0 < sh → ∀ I', (∀ a b, ¬ (a = 20 ∧ (b = 0 ∨ b = 4 ∨ b = 31)) → ¬ (b = n ∧ 25 ≤ a ∧ a ≤ 30) → I' a b = I a b) → I' 20 0 = 0 → I' 20 4 = nI (n + 1) → I' 20 31 = 0 → I' 25 n = x → I' 26 n = crS (fun i => I 21 i) (fun i => I 22 i) sh → I' 27 n = 10000000 / crS (fun i => I 21 i) (fun i => I 22 i) sh → I' 28 n = slS (fun i => I 22 i) sh → I' 29 n = spS (fun i => I 21 i) (fun i => I 23 i) sh / wtS (fun i => I 21 i) sh → I' 30 n = 3 * (10000000 / crS (fun i => I 21 i) (fun i => I 22 i) sh) + 100 * I 22 0 → Kr (some (.int (nI n))) S I' L Rf) : aMet l E yX4_star cX4_star 7 (some .int) rmX4_star [.ref 20, .int x] (S) (I) (L) (Rf) Kr Kx := by
  refine aMet.of (lv0 := [.ref 20, .int x, aU, aU, aU, aU, aU]) (z := 5) (by decide +kernel) hst rfl (Nat.le_of_ble_eq_true rfl) ?_
  intro p e s m args below meth c io0 hx hin hno
  have hx : aCx p l s m args meth c RX4 cX4_star 7 (some .int) E := hx
  have hJ : ∀ a b, ¬ (a = 20 ∧ b = 31) → au2 I 20 31 0 a b = I a b := fun a b z => au2_n z
  refine g_aloadG_n hx dX4_star_0 rfl (nx := 1) rfl rfl ?_
  refine g_iloadG_n hx dX4_star_1 rfl (nx := 2) rfl rfl ?_
  refine g_iconst hx dX4_star_2 (nx := 3) rfl (v := 0) (by decide) ?_
  refine g_bipush hx dX4_star_3 (nx := 5) rfl (v := 99) (by decide) ?_
  refine g_callS_M hx [_, _, _] (k' := 0) (n' := 0) dX4_star_5 (nx := 8) rfl lk_X4_104 rfl (Nat.le_of_ble_eq_true rfl) (Nat.le_of_ble_eq_true rfl) (Nat.le_of_ble_eq_true rfl) (Nat.le_of_ble_eq_true rfl) (Nat.le_of_ble_eq_true rfl) (Nat.le_of_ble_eq_true rfl) (Nat.le_of_ble_eq_true rfl) (s_X4_isInN hst 0 99 (by decide) (by decide) (fun q => ?_) (fun q => ?_))
  · have hg := q
    refine g_if_ne hx dX4_star_8 (tg := 15) (by decide) (nx := 11) rfl (fun c8 => ?_) (fun c8 => ?_)
    · refine g_aloadG_n hx dX4_star_15 rfl (nx := 16) rfl rfl ?_
      refine g_getfo_i hx dX4_star_16 (nx := 19) rfl fa_X4_111 rfl (hM.1 0 _ rfl) (by decide) ?_
      refine g_if_eq hx dX4_star_19 (tg := 31) (by decide) (nx := 22) rfl (fun c19 => ?_) (fun c19 => ?_)
      · refine g_iconst hx dX4_star_31 (nx := 32) rfl (v := 2) (by decide) ?_
        refine g_goto hx dX4_star_32 (tg := 36) (by decide) ?_
        refine g_callV_M hx [_] (k' := 0) (n' := 0) dX4_star_36 (nx := 39) rfl lk_X4_114 (hM.1 0 _ rfl) (by decide) rfl rfl (Nat.le_of_ble_eq_true rfl) (Nat.le_of_ble_eq_true rfl) (Nat.le_of_ble_eq_true rfl) (Nat.le_of_ble_eq_true rfl) (Nat.le_of_ble_eq_true rfl) (Nat.le_of_ble_eq_true rfl) (Nat.le_of_ble_eq_true rfl) (s_X4_can hst hM (fun z => absurd z (by decide)) (fun _ => ?_))
        refine g_if_ne hx dX4_star_39 (tg := 44) (by decide) (nx := 42) rfl (fun c39 => ?_) (fun c39 => ?_)
        · exact absurd c39 (by decide)
        · refine g_iconst hx dX4_star_42 (nx := 43) rfl (v := 0) (by decide) ?_
          refine g_iret hx dX4_star_43 rfl rfl (Nat.le_of_ble_eq_true rfl) (Nat.le_of_ble_eq_true rfl) ?_
          first
            | exact hf1 q
            | exact hf2 hg (Or.inl ((nI_eq (by omega) (by decide : 0 < 2 ^ 31)).mp (by rw [← h0]; exact c19)))
            | exact hf2 hg (Or.inr ((nI_eq (by omega) (by decide : 6 < 2 ^ 31)).mp (by rw [← h4]; exact c28)))
      · refine g_aloadG_n hx dX4_star_22 rfl (nx := 23) rfl rfl ?_
        refine g_getfo_i hx dX4_star_23 (nx := 26) rfl fa_X4_101 rfl (hM.1 0 _ rfl) (by decide) ?_
        refine g_bipush hx dX4_star_26 (nx := 28) rfl (v := 6) (by decide) ?_
        refine g_icmp_ne hx dX4_star_28 (tg := 35) (by decide) (nx := 31) rfl (fun c28 => ?_) (fun c28 => ?_)
        · refine g_iconst hx dX4_star_35 (nx := 36) rfl (v := 0) (by decide) ?_
          refine g_callV_M hx [_] (k' := 0) (n' := 0) dX4_star_36 (nx := 39) rfl lk_X4_114 (hM.1 0 _ rfl) (by decide) rfl rfl (Nat.le_of_ble_eq_true rfl) (Nat.le_of_ble_eq_true rfl) (Nat.le_of_ble_eq_true rfl) (Nat.le_of_ble_eq_true rfl) (Nat.le_of_ble_eq_true rfl) (Nat.le_of_ble_eq_true rfl) (Nat.le_of_ble_eq_true rfl) (s_X4_can hst hM (fun _ => ?_) (fun z => absurd rfl z))
          refine g_if_ne hx dX4_star_39 (tg := 44) (by decide) (nx := 42) rfl (fun c39 => ?_) (fun c39 => ?_)
          · refine g_iconst hx dX4_star_44 (nx := 45) rfl (v := 0) (by decide) ?_
            refine g_istore_2 hx dX4_star_45 (nx := 46) rfl (by decide) rfl ?_
            refine g_iconst hx dX4_star_46 (nx := 47) rfl (v := 0) (by decide) ?_
            refine g_istore_3 hx dX4_star_47 (nx := 48) rfl (by decide) rfl ?_
            refine g_iconst hx dX4_star_48 (nx := 49) rfl (v := 0) (by decide) ?_
            refine g_istore_4 hx dX4_star_49 (nx := 51) rfl (by decide) rfl ?_
            refine g_iconst hx dX4_star_51 (nx := 52) rfl (v := 0) (by decide) ?_
            refine g_istore_5 hx dX4_star_52 (nx := 54) rfl (by decide) rfl ?_
            refine g_iconst hx dX4_star_54 (nx := 55) rfl (v := 0) (by decide) ?_
            refine g_istore_6 hx dX4_star_55 (nx := 57) rfl (by decide) rfl ?_
            have h00 : 0 < sh := Nat.pos_of_ne_zero (fun z => c19 (by rw [h0, z]; rfl))
            have hlt6 : n < 6 := Nat.lt_of_le_of_ne hn6 (fun z => c28 (by rw [h4, z]; rfl))
            have hnc : (nI n).toNatClampNeg = n := nI_clamp (by omega)
            have hn9 : vp_in (nI n) 6 := vp_in_nI hlt6 (by decide)
            have loop1 : ∀ (r i : Nat) , i + r = sh → aG p l e rmX4_star s m args below meth c E io0 S 7 (vx_MQ below (aQc E io0 S Kr) (aXC E io0 S Kx) args s rmX4_star.cells rmX4_star.slots (aW E)) 57 [.ref 20, .int x, .int (crS (fun i => I 21 i) (fun i => I 22 i) i), .int (slS (fun i => I 22 i) (min (i + 1) sh)), .int (wtS (fun i => I 21 i) i), .int (spS (fun i => I 21 i) (fun i => I 23 i) i), .int (nI i)] [] (S) ((au2 I 20 31 0)) (L) (Rf) 0 0 := by
              intro r
              induction r with
              | zero =>
                intro i hi
                have hi : i = sh := by omega
                have hi : i = sh := by omega
                subst hi
                rw [Nat.min_eq_right (by omega : i ≤ i + 1)]
                refine g_iloadG hx dX4_star_57 (nx := 59) rfl rfl ?_
                refine g_aloadG_n hx dX4_star_59 rfl (nx := 60) rfl rfl ?_
                refine g_getfo_i hx dX4_star_60 (nx := 63) rfl fa_X4_111 rfl (hM.1 0 _ rfl) (by decide) ?_
                refine g_icmp_ge hx dX4_star_63 (tg := 180) (by decide) (nx := 66) rfl (fun c63 => ?_) (fun c63 => ?_)
                · refine g_aloadG_n hx dX4_star_180 rfl (nx := 181) rfl rfl ?_
                  refine g_getfo_R hx dX4_star_181 (nx := 184) rfl fa_X4_19 rfl (r9 := 25) (hM.2 5 rfl) (hM.1 0 _ rfl) (by decide) ?_
                  refine g_aloadG_n hx dX4_star_184 rfl (nx := 185) rfl rfl ?_
                  refine g_getfo_i hx dX4_star_185 (nx := 188) rfl fa_X4_101 rfl (hM.1 0 _ rfl) (by decide) ?_
                  rw [hJ 20 4 (by omega), h4]
                  refine g_iloadG_n hx dX4_star_188 rfl (nx := 189) rfl rfl ?_
                  refine g_iastore hx dX4_star_189 (nx := 190) rfl (hM.1 5 _ rfl) (by decide) hn9 ?_
                  refine g_aloadG_n hx dX4_star_190 rfl (nx := 191) rfl rfl ?_
                  refine g_getfo_R hx dX4_star_191 (nx := 194) rfl fa_X4_22 rfl (r9 := 26) (hM.2 6 rfl) (hM.1 0 _ rfl) (by decide) ?_
                  refine g_aloadG_n hx dX4_star_194 rfl (nx := 195) rfl rfl ?_
                  refine g_getfo_i hx dX4_star_195 (nx := 198) rfl fa_X4_101 rfl (hM.1 0 _ rfl) (by decide) ?_
                  rw [hnc, au2_n (by omega), hJ 20 4 (by omega), h4]
                  refine g_iloadG_n hx dX4_star_198 rfl (nx := 199) rfl rfl ?_
                  refine g_iastore hx dX4_star_199 (nx := 200) rfl (hM.1 6 _ rfl) (by decide) hn9 ?_
                  refine g_aloadG_n hx dX4_star_200 rfl (nx := 201) rfl rfl ?_
                  refine g_getfo_R hx dX4_star_201 (nx := 204) rfl fa_X4_25 rfl (r9 := 27) (hM.2 7 rfl) (hM.1 0 _ rfl) (by decide) ?_
                  refine g_aloadG_n hx dX4_star_204 rfl (nx := 205) rfl rfl ?_
                  refine g_getfo_i hx dX4_star_205 (nx := 208) rfl fa_X4_101 rfl (hM.1 0 _ rfl) (by decide) ?_
                  rw [hnc, au2_n (by omega), au2_n (by omega), hJ 20 4 (by omega), h4]
                  refine g_ldc hx dX4_star_208 (nx := 210) rfl kc_X4_118 ?_
                  refine g_iloadG_n hx dX4_star_210 rfl (nx := 211) rfl rfl ?_
                  refine g_idiv hx dX4_star_211 (nx := 212) rfl (fun z => hcr (by omega) (by rw [z]; exact Int32.le_refl _)) ?_
                  refine g_iastore hx dX4_star_212 (nx := 213) rfl (hM.1 7 _ rfl) (by decide) hn9 ?_
                  refine g_aloadG_n hx dX4_star_213 rfl (nx := 214) rfl rfl ?_
                  refine g_getfo_R hx dX4_star_214 (nx := 217) rfl fa_X4_28 rfl (r9 := 28) (hM.2 8 rfl) (hM.1 0 _ rfl) (by decide) ?_
                  refine g_aloadG_n hx dX4_star_217 rfl (nx := 218) rfl rfl ?_
                  refine g_getfo_i hx dX4_star_218 (nx := 221) rfl fa_X4_101 rfl (hM.1 0 _ rfl) (by decide) ?_
                  rw [hnc, au2_n (by omega), au2_n (by omega), au2_n (by omega), hJ 20 4 (by omega), h4]
                  refine g_iloadG_n hx dX4_star_221 rfl (nx := 222) rfl rfl ?_
                  refine g_iastore hx dX4_star_222 (nx := 223) rfl (hM.1 8 _ rfl) (by decide) hn9 ?_
                  refine g_aloadG_n hx dX4_star_223 rfl (nx := 224) rfl rfl ?_
                  refine g_getfo_R hx dX4_star_224 (nx := 227) rfl fa_X4_31 rfl (r9 := 29) (hM.2 9 rfl) (hM.1 0 _ rfl) (by decide) ?_
                  refine g_aloadG_n hx dX4_star_227 rfl (nx := 228) rfl rfl ?_
                  refine g_getfo_i hx dX4_star_228 (nx := 231) rfl fa_X4_101 rfl (hM.1 0 _ rfl) (by decide) ?_
                  rw [hnc, au2_n (by omega), au2_n (by omega), au2_n (by omega), au2_n (by omega), hJ 20 4 (by omega), h4]
                  refine g_iloadG hx dX4_star_231 (nx := 233) rfl rfl ?_
                  refine g_iloadG hx dX4_star_233 (nx := 235) rfl rfl ?_
                  refine g_idiv hx dX4_star_235 (nx := 236) rfl (fun z => hwt (by omega) (by rw [z]; exact Int32.le_refl _)) ?_
                  refine g_iastore hx dX4_star_236 (nx := 237) rfl (hM.1 9 _ rfl) (by decide) hn9 ?_
                  refine g_aloadG_n hx dX4_star_237 rfl (nx := 238) rfl rfl ?_
                  refine g_getfo_R hx dX4_star_238 (nx := 241) rfl fa_X4_34 rfl (r9 := 30) (hM.2 10 rfl) (hM.1 0 _ rfl) (by decide) ?_
                  refine g_aloadG_n hx dX4_star_241 rfl (nx := 242) rfl rfl ?_
                  refine g_getfo_i hx dX4_star_242 (nx := 245) rfl fa_X4_101 rfl (hM.1 0 _ rfl) (by decide) ?_
                  rw [hnc, au2_n (by omega), au2_n (by omega), au2_n (by omega), au2_n (by omega), au2_n (by omega), hJ 20 4 (by omega), h4]
                  refine g_iconst hx dX4_star_245 (nx := 246) rfl (v := 3) (by decide) ?_
                  refine g_aloadG_n hx dX4_star_246 rfl (nx := 247) rfl rfl ?_
                  refine g_getfo_R hx dX4_star_247 (nx := 250) rfl fa_X4_25 rfl (r9 := 27) (hM.2 7 rfl) (hM.1 0 _ rfl) (by decide) ?_
                  refine g_aloadG_n hx dX4_star_250 rfl (nx := 251) rfl rfl ?_
                  refine g_getfo_i hx dX4_star_251 (nx := 254) rfl fa_X4_101 rfl (hM.1 0 _ rfl) (by decide) ?_
                  rw [au2_n (by omega), au2_n (by omega), au2_n (by omega), au2_n (by omega), au2_n (by omega), hJ 20 4 (by omega), h4]
                  refine g_iaload hx dX4_star_254 (nx := 255) rfl (hM.1 7 _ rfl) (by decide) hn9 ?_
                  rw [hnc, au2_n (by omega), au2_n (by omega), au2_s]
                  refine g_imul hx dX4_star_255 (nx := 256) rfl ?_
                  refine g_bipush hx dX4_star_256 (nx := 258) rfl (v := 100) (by decide) ?_
                  refine g_aloadG_n hx dX4_star_258 rfl (nx := 259) rfl rfl ?_
                  refine g_getfo_R hx dX4_star_259 (nx := 262) rfl fa_X4_13 rfl (r9 := 22) (hM.2 2 rfl) (hM.1 0 _ rfl) (by decide) ?_
                  refine g_iconst hx dX4_star_262 (nx := 263) rfl (v := 0) (by decide) ?_
                  refine g_iaload hx dX4_star_263 (nx := 264) rfl (hM.1 2 _ rfl) (by decide) (vin (by decide)) ?_
                  rw [show (0 : Int32).toNatClampNeg = 0 from rfl, au2_n (by omega), au2_n (by omega), au2_n (by omega), au2_n (by omega), au2_n (by omega), hJ 22 0 (by omega)]
                  refine g_imul hx dX4_star_264 (nx := 265) rfl ?_
                  refine g_iadd hx dX4_star_265 (nx := 266) rfl ?_
                  refine g_iastore hx dX4_star_266 (nx := 267) rfl (hM.1 10 _ rfl) (by decide) hn9 ?_
                  rw [hnc]
                  refine g_aloadG_n hx dX4_star_267 rfl (nx := 268) rfl rfl ?_
                  refine g_iconst hx dX4_star_268 (nx := 269) rfl (v := 0) (by decide) ?_
                  refine g_putfo_i hx dX4_star_269 (nx := 272) rfl fa_X4_111 rfl rfl rfl (fun r h => by cases h; rfl) (hM.1 0 _ rfl) (by decide) ?_
                  refine g_aloadG_n hx dX4_star_272 rfl (nx := 273) rfl rfl ?_
                  refine g_dup hx dX4_star_273 (nx := 274) rfl rfl ?_
                  refine g_getfo_i hx dX4_star_274 (nx := 277) rfl fa_X4_101 rfl (hM.1 0 _ rfl) (by decide) ?_
                  rw [au2_n (by omega), au2_n (by omega), au2_n (by omega), au2_n (by omega), au2_n (by omega), au2_n (by omega), au2_n (by omega), hJ 20 4 (by omega), h4]
                  refine g_iconst hx dX4_star_277 (nx := 278) rfl (v := 1) (by decide) ?_
                  refine g_iadd hx dX4_star_278 (nx := 279) rfl ?_
                  rw [← nI_succ]
                  refine g_putfo_i hx dX4_star_279 (nx := 282) rfl fa_X4_101 rfl rfl rfl (fun r h => by cases h; rfl) (hM.1 0 _ rfl) (by decide) ?_
                  refine g_aloadG_n hx dX4_star_282 rfl (nx := 283) rfl rfl ?_
                  refine g_getfo_i hx dX4_star_283 (nx := 286) rfl fa_X4_101 rfl (hM.1 0 _ rfl) (by decide) ?_
                  refine g_iconst hx dX4_star_286 (nx := 287) rfl (v := 1) (by decide) ?_
                  refine g_isub hx dX4_star_287 (nx := 288) rfl ?_
                  refine g_iret hx dX4_star_288 rfl rfl (Nat.le_of_ble_eq_true rfl) (Nat.le_of_ble_eq_true rfl) ?_
                  rw [au2_s, nI_pred]
                  refine hk hg hlt6 h00 _ (fun a b z1 z2 => ?_) ?_ (au2_s _ _ _ _) ?_ ?_ ?_ ?_ ?_ ?_ ?_
                  · rw [au2_n (by omega), au2_n (by omega), au2_n (by omega), au2_n (by omega), au2_n (by omega), au2_n (by omega), au2_n (by omega), au2_n (by omega), hJ _ _ (by omega)]
                  · rw [au2_n (by omega), au2_s]
                  · rw [au2_n (by omega), au2_n (by omega), au2_n (by omega), au2_n (by omega), au2_n (by omega), au2_n (by omega), au2_n (by omega), au2_n (by omega), au2_s]
                  · rw [au2_n (by omega), au2_n (by omega), au2_n (by omega), au2_n (by omega), au2_n (by omega), au2_n (by omega), au2_n (by omega), au2_s]
                  · rw [au2_n (by omega), au2_n (by omega), au2_n (by omega), au2_n (by omega), au2_n (by omega), au2_n (by omega), au2_s]
                  · rw [au2_n (by omega), au2_n (by omega), au2_n (by omega), au2_n (by omega), au2_n (by omega), au2_s]
                  · rw [au2_n (by omega), au2_n (by omega), au2_n (by omega), au2_n (by omega), au2_s]
                  · rw [au2_n (by omega), au2_n (by omega), au2_n (by omega), au2_s]
                  · rw [au2_n (by omega), au2_n (by omega), au2_s]
                · exact absurd (by rw [hJ 20 0 (by omega), h0]; exact Int32.le_refl _) c63
              | succ r ih =>
                intro i hi
                have hn : (nI i).toNatClampNeg = i := nI_clamp (by omega)
                have hin : vp_in (nI i) 8 := vp_in_nI (by omega) (by decide)
                have hn1 : (nI (i + 1)).toNatClampNeg = i + 1 := nI_clamp (by omega)
                have hin1 : i + 1 < sh → vp_in (nI (i + 1)) 8 := fun z => vp_in_nI (by omega) (by decide)
                refine g_iloadG hx dX4_star_57 (nx := 59) rfl rfl ?_
                refine g_aloadG_n hx dX4_star_59 rfl (nx := 60) rfl rfl ?_
                refine g_getfo_i hx dX4_star_60 (nx := 63) rfl fa_X4_111 rfl (hM.1 0 _ rfl) (by decide) ?_
                refine g_icmp_ge hx dX4_star_63 (tg := 180) (by decide) (nx := 66) rfl (fun c63 => ?_) (fun c63 => ?_)
                · exact absurd c63 (by rw [hJ 20 0 (by omega), h0]; exact nI_ge (by omega) (by omega))
                · refine g_iloadG_n hx dX4_star_66 rfl (nx := 67) rfl rfl ?_
                  refine g_sipush hx dX4_star_67 (nx := 70) rfl (v := 1000) (by decide) ?_
                  refine g_aloadG_n hx dX4_star_70 rfl (nx := 71) rfl rfl ?_
                  refine g_getfo_R hx dX4_star_71 (nx := 74) rfl fa_X4_7 rfl (r9 := 21) (hM.2 1 rfl) (hM.1 0 _ rfl) (by decide) ?_
                  refine g_iloadG hx dX4_star_74 (nx := 76) rfl rfl ?_
                  refine g_iaload hx dX4_star_76 (nx := 77) rfl (hM.1 1 _ rfl) (by decide) hin ?_
                  rw [hn, hJ 21 _ (by omega)]
                  refine g_imul hx dX4_star_77 (nx := 78) rfl ?_
                  refine g_aloadG_n hx dX4_star_78 rfl (nx := 79) rfl rfl ?_
                  refine g_getfo_R hx dX4_star_79 (nx := 82) rfl fa_X4_13 rfl (r9 := 22) (hM.2 2 rfl) (hM.1 0 _ rfl) (by decide) ?_
                  refine g_iloadG hx dX4_star_82 (nx := 84) rfl rfl ?_
                  refine g_iaload hx dX4_star_84 (nx := 85) rfl (hM.1 2 _ rfl) (by decide) hin ?_
                  rw [hn, hJ 22 _ (by omega)]
                  refine g_idiv hx dX4_star_85 (nx := 86) rfl (by rw [(hsh i (by omega)).2.1]; exact nI_ne0 (by have := (hsh i (by omega)).2.2.1; omega) (by have := (hsh i (by omega)).2.2.2.1; omega)) ?_
                  refine g_iadd hx dX4_star_86 (nx := 87) rfl ?_
                  refine g_istore_2 hx dX4_star_87 (nx := 88) rfl (by decide) rfl ?_
                  refine g_iloadG_n hx dX4_star_88 rfl (nx := 89) rfl rfl ?_
                  refine g_iloadG hx dX4_star_89 (nx := 91) rfl rfl ?_
                  refine g_iconst hx dX4_star_91 (nx := 92) rfl (v := 1) (by decide) ?_
                  refine g_iadd hx dX4_star_92 (nx := 93) rfl ?_
                  refine g_aloadG_n hx dX4_star_93 rfl (nx := 94) rfl rfl ?_
                  refine g_getfo_i hx dX4_star_94 (nx := 97) rfl fa_X4_111 rfl (hM.1 0 _ rfl) (by decide) ?_
                  rw [hJ 20 0 (by omega), h0, ← nI_succ]
                  refine g_icmp_ge hx dX4_star_97 (tg := 139) (by decide) (nx := 100) rfl (fun c97 => ?_) (fun c97 => ?_)
                  · refine g_iconst hx dX4_star_139 (nx := 140) rfl (v := 0) (by decide) ?_
                    have hsl : slS (fun i => I 22 i) (min (i + 1 + 1) sh) = slS (fun i => I 22 i) (min (i + 1) sh) + 0 := by
                      rw [Int32.add_zero]
                      by_cases hlt : i + 1 < sh
                      · rw [Nat.min_eq_left (by omega : i + 1 + 1 ≤ sh), Nat.min_eq_left (by omega : i + 1 ≤ sh), slS]
                        obtain ⟨_, g1, g2, g3, _⟩ := hsh i (by omega)
                        obtain ⟨_, k1, k2, k3, _⟩ := hsh (i + 1) hlt
                        have z : g i ≤ g (i + 1) := by
                          first
                            | exact absurd c97 (Int32.not_le.mpr (nI_lt hlt (by omega)))
                            | exact (nI_leI (by omega) (by omega)).mp (by rw [← k1, ← g1]; exact c116)
                        rw [imax, if_neg, Int32.add_zero]
                        show ¬ 0 < I 22 i - I 22 (i + 1)
                        rw [g1, k1]
                        rcases Nat.eq_or_lt_of_le z with w | w
                        · rw [w, Int32.sub_self]; decide
                        · rw [Int32.lt_iff_toInt_lt, Int32.toInt_sub, nI_toInt (by omega), nI_toInt (by omega), Int.bmod_def, Int32.toInt_zero]; split <;> omega
                      · rw [show min (i + 1 + 1) sh = min (i + 1) sh by omega]
                    refine g_iadd hx dX4_star_140 (nx := 141) rfl ?_
                    refine g_istore_3 hx dX4_star_141 (nx := 142) rfl (by decide) rfl ?_
                    refine g_iloadG hx dX4_star_142 (nx := 144) rfl rfl ?_
                    refine g_aloadG_n hx dX4_star_144 rfl (nx := 145) rfl rfl ?_
                    refine g_getfo_R hx dX4_star_145 (nx := 148) rfl fa_X4_7 rfl (r9 := 21) (hM.2 1 rfl) (hM.1 0 _ rfl) (by decide) ?_
                    refine g_iloadG hx dX4_star_148 (nx := 150) rfl rfl ?_
                    refine g_iaload hx dX4_star_150 (nx := 151) rfl (hM.1 1 _ rfl) (by decide) hin ?_
                    rw [hn, hJ 21 _ (by omega)]
                    refine g_iadd hx dX4_star_151 (nx := 152) rfl ?_
                    refine g_istore_4 hx dX4_star_152 (nx := 154) rfl (by decide) rfl ?_
                    refine g_iloadG hx dX4_star_154 (nx := 156) rfl rfl ?_
                    refine g_aloadG_n hx dX4_star_156 rfl (nx := 157) rfl rfl ?_
                    refine g_getfo_R hx dX4_star_157 (nx := 160) rfl fa_X4_7 rfl (r9 := 21) (hM.2 1 rfl) (hM.1 0 _ rfl) (by decide) ?_
                    refine g_iloadG hx dX4_star_160 (nx := 162) rfl rfl ?_
                    refine g_iaload hx dX4_star_162 (nx := 163) rfl (hM.1 1 _ rfl) (by decide) hin ?_
                    rw [hn, hJ 21 _ (by omega)]
                    refine g_aloadG_n hx dX4_star_163 rfl (nx := 164) rfl rfl ?_
                    refine g_getfo_R hx dX4_star_164 (nx := 167) rfl fa_X4_16 rfl (r9 := 23) (hM.2 3 rfl) (hM.1 0 _ rfl) (by decide) ?_
                    refine g_iloadG hx dX4_star_167 (nx := 169) rfl rfl ?_
                    refine g_iaload hx dX4_star_169 (nx := 170) rfl (hM.1 3 _ rfl) (by decide) hin ?_
                    rw [hn, hJ 23 _ (by omega)]
                    refine g_imul hx dX4_star_170 (nx := 171) rfl ?_
                    refine g_iadd hx dX4_star_171 (nx := 172) rfl ?_
                    refine g_istore_5 hx dX4_star_172 (nx := 174) rfl (by decide) rfl ?_
                    refine g_iinc_6 hx dX4_star_174 (nx := 177) rfl (by decide) (v := 1) (by decide) rfl ?_
                    refine g_goto hx dX4_star_177 (tg := 57) (by decide) ?_
                    rw [← nI_succ]
                    have K := ih (i + 1) (by omega)
                    refine cast ?_ K
                    rw [show wtS (fun i => I 21 i) (i + 1) = wtS (fun i => I 21 i) i + I 21 i from rfl, show spS (fun i => I 21 i) (fun i => I 23 i) (i + 1) = spS (fun i => I 21 i) (fun i => I 23 i) i + I 21 i * I 23 i from rfl, show crS (fun i => I 21 i) (fun i => I 22 i) (i + 1) = crS (fun i => I 21 i) (fun i => I 22 i) i + 1000 * I 21 i / I 22 i from rfl]
                    rw [hsl]
                  · refine g_aloadG_n hx dX4_star_100 rfl (nx := 101) rfl rfl ?_
                    refine g_getfo_R hx dX4_star_101 (nx := 104) rfl fa_X4_13 rfl (r9 := 22) (hM.2 2 rfl) (hM.1 0 _ rfl) (by decide) ?_
                    refine g_iloadG hx dX4_star_104 (nx := 106) rfl rfl ?_
                    refine g_iaload hx dX4_star_106 (nx := 107) rfl (hM.1 2 _ rfl) (by decide) hin ?_
                    rw [hn, hJ 22 _ (by omega)]
                    refine g_aloadG_n hx dX4_star_107 rfl (nx := 108) rfl rfl ?_
                    refine g_getfo_R hx dX4_star_108 (nx := 111) rfl fa_X4_13 rfl (r9 := 22) (hM.2 2 rfl) (hM.1 0 _ rfl) (by decide) ?_
                    refine g_iloadG hx dX4_star_111 (nx := 113) rfl rfl ?_
                    refine g_iconst hx dX4_star_113 (nx := 114) rfl (v := 1) (by decide) ?_
                    refine g_iadd hx dX4_star_114 (nx := 115) rfl ?_
                    refine g_iaload hx dX4_star_115 (nx := 116) rfl (hM.1 2 _ rfl) (by decide) (by rw [← nI_succ]; exact hin1 (by have := Int32.not_le.mp c97; exact (nI_ltI (by omega) (by omega)).mp this)) ?_
                    rw [← nI_succ, hn1, hJ 22 _ (by omega)]
                    refine g_icmp_le hx dX4_star_116 (tg := 139) (by decide) (nx := 119) rfl (fun c116 => ?_) (fun c116 => ?_)
                    · refine g_iconst hx dX4_star_139 (nx := 140) rfl (v := 0) (by decide) ?_
                      have hsl : slS (fun i => I 22 i) (min (i + 1 + 1) sh) = slS (fun i => I 22 i) (min (i + 1) sh) + 0 := by
                        rw [Int32.add_zero]
                        by_cases hlt : i + 1 < sh
                        · rw [Nat.min_eq_left (by omega : i + 1 + 1 ≤ sh), Nat.min_eq_left (by omega : i + 1 ≤ sh), slS]
                          obtain ⟨_, g1, g2, g3, _⟩ := hsh i (by omega)
                          obtain ⟨_, k1, k2, k3, _⟩ := hsh (i + 1) hlt
                          have z : g i ≤ g (i + 1) := by
                            first
                              | exact absurd c97 (Int32.not_le.mpr (nI_lt hlt (by omega)))
                              | exact (nI_leI (by omega) (by omega)).mp (by rw [← k1, ← g1]; exact c116)
                          rw [imax, if_neg, Int32.add_zero]
                          show ¬ 0 < I 22 i - I 22 (i + 1)
                          rw [g1, k1]
                          rcases Nat.eq_or_lt_of_le z with w | w
                          · rw [w, Int32.sub_self]; decide
                          · rw [Int32.lt_iff_toInt_lt, Int32.toInt_sub, nI_toInt (by omega), nI_toInt (by omega), Int.bmod_def, Int32.toInt_zero]; split <;> omega
                        · rw [show min (i + 1 + 1) sh = min (i + 1) sh by omega]
                      refine g_iadd hx dX4_star_140 (nx := 141) rfl ?_
                      refine g_istore_3 hx dX4_star_141 (nx := 142) rfl (by decide) rfl ?_
                      refine g_iloadG hx dX4_star_142 (nx := 144) rfl rfl ?_
                      refine g_aloadG_n hx dX4_star_144 rfl (nx := 145) rfl rfl ?_
                      refine g_getfo_R hx dX4_star_145 (nx := 148) rfl fa_X4_7 rfl (r9 := 21) (hM.2 1 rfl) (hM.1 0 _ rfl) (by decide) ?_
                      refine g_iloadG hx dX4_star_148 (nx := 150) rfl rfl ?_
                      refine g_iaload hx dX4_star_150 (nx := 151) rfl (hM.1 1 _ rfl) (by decide) hin ?_
                      rw [hn, hJ 21 _ (by omega)]
                      refine g_iadd hx dX4_star_151 (nx := 152) rfl ?_
                      refine g_istore_4 hx dX4_star_152 (nx := 154) rfl (by decide) rfl ?_
                      refine g_iloadG hx dX4_star_154 (nx := 156) rfl rfl ?_
                      refine g_aloadG_n hx dX4_star_156 rfl (nx := 157) rfl rfl ?_
                      refine g_getfo_R hx dX4_star_157 (nx := 160) rfl fa_X4_7 rfl (r9 := 21) (hM.2 1 rfl) (hM.1 0 _ rfl) (by decide) ?_
                      refine g_iloadG hx dX4_star_160 (nx := 162) rfl rfl ?_
                      refine g_iaload hx dX4_star_162 (nx := 163) rfl (hM.1 1 _ rfl) (by decide) hin ?_
                      rw [hn, hJ 21 _ (by omega)]
                      refine g_aloadG_n hx dX4_star_163 rfl (nx := 164) rfl rfl ?_
                      refine g_getfo_R hx dX4_star_164 (nx := 167) rfl fa_X4_16 rfl (r9 := 23) (hM.2 3 rfl) (hM.1 0 _ rfl) (by decide) ?_
                      refine g_iloadG hx dX4_star_167 (nx := 169) rfl rfl ?_
                      refine g_iaload hx dX4_star_169 (nx := 170) rfl (hM.1 3 _ rfl) (by decide) hin ?_
                      rw [hn, hJ 23 _ (by omega)]
                      refine g_imul hx dX4_star_170 (nx := 171) rfl ?_
                      refine g_iadd hx dX4_star_171 (nx := 172) rfl ?_
                      refine g_istore_5 hx dX4_star_172 (nx := 174) rfl (by decide) rfl ?_
                      refine g_iinc_6 hx dX4_star_174 (nx := 177) rfl (by decide) (v := 1) (by decide) rfl ?_
                      refine g_goto hx dX4_star_177 (tg := 57) (by decide) ?_
                      rw [← nI_succ]
                      have K := ih (i + 1) (by omega)
                      refine cast ?_ K
                      rw [show wtS (fun i => I 21 i) (i + 1) = wtS (fun i => I 21 i) i + I 21 i from rfl, show spS (fun i => I 21 i) (fun i => I 23 i) (i + 1) = spS (fun i => I 21 i) (fun i => I 23 i) i + I 21 i * I 23 i from rfl, show crS (fun i => I 21 i) (fun i => I 22 i) (i + 1) = crS (fun i => I 21 i) (fun i => I 22 i) i + 1000 * I 21 i / I 22 i from rfl]
                      rw [hsl]
                    · refine g_aloadG_n hx dX4_star_119 rfl (nx := 120) rfl rfl ?_
                      refine g_getfo_R hx dX4_star_120 (nx := 123) rfl fa_X4_13 rfl (r9 := 22) (hM.2 2 rfl) (hM.1 0 _ rfl) (by decide) ?_
                      refine g_iloadG hx dX4_star_123 (nx := 125) rfl rfl ?_
                      refine g_iaload hx dX4_star_125 (nx := 126) rfl (hM.1 2 _ rfl) (by decide) hin ?_
                      rw [hn, hJ 22 _ (by omega)]
                      refine g_aloadG_n hx dX4_star_126 rfl (nx := 127) rfl rfl ?_
                      refine g_getfo_R hx dX4_star_127 (nx := 130) rfl fa_X4_13 rfl (r9 := 22) (hM.2 2 rfl) (hM.1 0 _ rfl) (by decide) ?_
                      refine g_iloadG hx dX4_star_130 (nx := 132) rfl rfl ?_
                      refine g_iconst hx dX4_star_132 (nx := 133) rfl (v := 1) (by decide) ?_
                      refine g_iadd hx dX4_star_133 (nx := 134) rfl ?_
                      refine g_iaload hx dX4_star_134 (nx := 135) rfl (hM.1 2 _ rfl) (by decide) (by rw [← nI_succ]; exact hin1 (by have := Int32.not_le.mp c97; exact (nI_ltI (by omega) (by omega)).mp this)) ?_
                      rw [← nI_succ, hn1, hJ 22 _ (by omega)]
                      refine g_isub hx dX4_star_135 (nx := 136) rfl ?_
                      refine g_goto hx dX4_star_136 (tg := 140) (by decide) ?_
                      have hlt : i + 1 < sh := (nI_ltI (by omega) (by omega)).mp (Int32.not_le.mp c97)
                      have hsl : slS (fun i => I 22 i) (min (i + 1 + 1) sh) = slS (fun i => I 22 i) (min (i + 1) sh) + (I 22 i - I 22 (i + 1)) := by
                        rw [Nat.min_eq_left (by omega : i + 1 + 1 ≤ sh), Nat.min_eq_left (by omega : i + 1 ≤ sh), slS]
                        congr 1
                        obtain ⟨_, g1, g2, g3, _⟩ := hsh i (by omega)
                        obtain ⟨_, k1, k2, k3, _⟩ := hsh (i + 1) hlt
                        have z := (nI_ltI (a := g (i + 1)) (b := g i) (by omega) (by omega)).mp (by rw [← k1, ← g1]; exact Int32.not_le.mp c116)
                        rw [imax, if_pos]
                        rw [g1, k1, pk_sub (by omega)]
                        exact nI_lt (a := 0) (b := g i - g (i + 1)) (by omega) (by omega)
                      refine g_iadd hx dX4_star_140 (nx := 141) rfl ?_
                      refine g_istore_3 hx dX4_star_141 (nx := 142) rfl (by decide) rfl ?_
                      refine g_iloadG hx dX4_star_142 (nx := 144) rfl rfl ?_
                      refine g_aloadG_n hx dX4_star_144 rfl (nx := 145) rfl rfl ?_
                      refine g_getfo_R hx dX4_star_145 (nx := 148) rfl fa_X4_7 rfl (r9 := 21) (hM.2 1 rfl) (hM.1 0 _ rfl) (by decide) ?_
                      refine g_iloadG hx dX4_star_148 (nx := 150) rfl rfl ?_
                      refine g_iaload hx dX4_star_150 (nx := 151) rfl (hM.1 1 _ rfl) (by decide) hin ?_
                      rw [hn, hJ 21 _ (by omega)]
                      refine g_iadd hx dX4_star_151 (nx := 152) rfl ?_
                      refine g_istore_4 hx dX4_star_152 (nx := 154) rfl (by decide) rfl ?_
                      refine g_iloadG hx dX4_star_154 (nx := 156) rfl rfl ?_
                      refine g_aloadG_n hx dX4_star_156 rfl (nx := 157) rfl rfl ?_
                      refine g_getfo_R hx dX4_star_157 (nx := 160) rfl fa_X4_7 rfl (r9 := 21) (hM.2 1 rfl) (hM.1 0 _ rfl) (by decide) ?_
                      refine g_iloadG hx dX4_star_160 (nx := 162) rfl rfl ?_
                      refine g_iaload hx dX4_star_162 (nx := 163) rfl (hM.1 1 _ rfl) (by decide) hin ?_
                      rw [hn, hJ 21 _ (by omega)]
                      refine g_aloadG_n hx dX4_star_163 rfl (nx := 164) rfl rfl ?_
                      refine g_getfo_R hx dX4_star_164 (nx := 167) rfl fa_X4_16 rfl (r9 := 23) (hM.2 3 rfl) (hM.1 0 _ rfl) (by decide) ?_
                      refine g_iloadG hx dX4_star_167 (nx := 169) rfl rfl ?_
                      refine g_iaload hx dX4_star_169 (nx := 170) rfl (hM.1 3 _ rfl) (by decide) hin ?_
                      rw [hn, hJ 23 _ (by omega)]
                      refine g_imul hx dX4_star_170 (nx := 171) rfl ?_
                      refine g_iadd hx dX4_star_171 (nx := 172) rfl ?_
                      refine g_istore_5 hx dX4_star_172 (nx := 174) rfl (by decide) rfl ?_
                      refine g_iinc_6 hx dX4_star_174 (nx := 177) rfl (by decide) (v := 1) (by decide) rfl ?_
                      refine g_goto hx dX4_star_177 (tg := 57) (by decide) ?_
                      rw [← nI_succ]
                      have K := ih (i + 1) (by omega)
                      refine cast ?_ K
                      rw [show wtS (fun i => I 21 i) (i + 1) = wtS (fun i => I 21 i) i + I 21 i from rfl, show spS (fun i => I 21 i) (fun i => I 23 i) (i + 1) = spS (fun i => I 21 i) (fun i => I 23 i) i + I 21 i * I 23 i from rfl, show crS (fun i => I 21 i) (fun i => I 22 i) (i + 1) = crS (fun i => I 21 i) (fun i => I 22 i) i + 1000 * I 21 i / I 22 i from rfl]
                      rw [hsl]
            have K := loop1 sh 0 (Nat.zero_add _)
            rw [show min (0 + 1) sh = 1 by omega] at K
            exact K
          · exact absurd c39 (by decide)
        · refine g_iconst hx dX4_star_31 (nx := 32) rfl (v := 2) (by decide) ?_
          refine g_goto hx dX4_star_32 (tg := 36) (by decide) ?_
          refine g_callV_M hx [_] (k' := 0) (n' := 0) dX4_star_36 (nx := 39) rfl lk_X4_114 (hM.1 0 _ rfl) (by decide) rfl rfl (Nat.le_of_ble_eq_true rfl) (Nat.le_of_ble_eq_true rfl) (Nat.le_of_ble_eq_true rfl) (Nat.le_of_ble_eq_true rfl) (Nat.le_of_ble_eq_true rfl) (Nat.le_of_ble_eq_true rfl) (Nat.le_of_ble_eq_true rfl) (s_X4_can hst hM (fun z => absurd z (by decide)) (fun _ => ?_))
          refine g_if_ne hx dX4_star_39 (tg := 44) (by decide) (nx := 42) rfl (fun c39 => ?_) (fun c39 => ?_)
          · exact absurd c39 (by decide)
          · refine g_iconst hx dX4_star_42 (nx := 43) rfl (v := 0) (by decide) ?_
            refine g_iret hx dX4_star_43 rfl rfl (Nat.le_of_ble_eq_true rfl) (Nat.le_of_ble_eq_true rfl) ?_
            first
              | exact hf1 q
              | exact hf2 hg (Or.inl ((nI_eq (by omega) (by decide : 0 < 2 ^ 31)).mp (by rw [← h0]; exact c19)))
              | exact hf2 hg (Or.inr ((nI_eq (by omega) (by decide : 6 < 2 ^ 31)).mp (by rw [← h4]; exact c28)))
    · exact absurd c8 (by decide)
  · refine g_if_ne hx dX4_star_8 (tg := 15) (by decide) (nx := 11) rfl (fun c8 => ?_) (fun c8 => ?_)
    · exact absurd c8 (by decide)
    · refine g_iconst hx dX4_star_11 (nx := 12) rfl (v := 1) (by decide) ?_
      refine g_goto hx dX4_star_12 (tg := 36) (by decide) ?_
      refine g_callV_M hx [_] (k' := 0) (n' := 0) dX4_star_36 (nx := 39) rfl lk_X4_114 (hM.1 0 _ rfl) (by decide) rfl rfl (Nat.le_of_ble_eq_true rfl) (Nat.le_of_ble_eq_true rfl) (Nat.le_of_ble_eq_true rfl) (Nat.le_of_ble_eq_true rfl) (Nat.le_of_ble_eq_true rfl) (Nat.le_of_ble_eq_true rfl) (Nat.le_of_ble_eq_true rfl) (s_X4_can hst hM (fun z => absurd z (by decide)) (fun _ => ?_))
      refine g_if_ne hx dX4_star_39 (tg := 44) (by decide) (nx := 42) rfl (fun c39 => ?_) (fun c39 => ?_)
      · exact absurd c39 (by decide)
      · refine g_iconst hx dX4_star_42 (nx := 43) rfl (v := 0) (by decide) ?_
        refine g_iret hx dX4_star_43 rfl rfl (Nat.le_of_ble_eq_true rfl) (Nat.le_of_ble_eq_true rfl) ?_
        first
          | exact hf1 q
          | exact hf2 hg (Or.inl ((nI_eq (by omega) (by decide : 0 < 2 ^ 31)).mp (by rw [← h0]; exact c19)))
          | exact hf2 hg (Or.inr ((nI_eq (by omega) (by decide : 6 < 2 ^ 31)).mp (by rw [← h4]; exact c28)))

