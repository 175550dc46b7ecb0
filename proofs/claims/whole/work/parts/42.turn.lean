/-! the law: one turn of its loop -/
theorem sc1 (a : Nat) : nI a + 1 = nI (a + 1) := nI_add a 1
theorem sc2 (a : Nat) : nI a + 2 = nI (a + 2) := nI_add a 2
theorem sc3 (a : Nat) : nI a + 3 = nI (a + 3) := nI_add a 3
theorem sc4 (a : Nat) : nI a + 4 = nI (a + 4) := nI_add a 4
theorem cmp_rf (x : Int64) : lg_cmp x x = 0 := by
  unfold lg_cmp
  simp
theorem Rel.ly {N : Nat} {xs : Nat → Int32} {S : aS} {I : aI} {L : aL} {R : aR} (h : Rel N xs S I L R) : lyM S R ∧ rlA N xs S I ∧ S 3 = some (.inr 3) := by
  obtain ⟨n, nc, sh, g1, g2, g3, -⟩ := h
  exact ⟨g2, g3, g1.1.1 0 _ rfl⟩
section AL
variable {p : Program} {l : Launch} {e : Env} {R : Room} {s : State} {m : MethodId} {args : Array Value} {below : List Frame} {meth : Method} {c : Code} {E : aE} {io0 : aM} {S0 : aS} {nL : Nat} {Q : State → Prop}
variable {own : String} {cc : ByteArray} {ret9 : Option FieldType} {pc nx : Nat} {lv lv' st : List Value} {S : aS} {I : aI} {L : aL} {Rf : aR} {k n : Nat}
theorem aG_lv (h : ∀ (i : Nat) (v : Value), lv'[i]? = some v → aKn v = true → lv[i]? = some v) (kk : aG p l e R s m args below meth c E io0 S0 nL Q pc lv' st S I L Rf k n) : aG p l e R s m args below meth c E io0 S0 nL Q pc lv st S I L Rf k n := by
  intro io H locs ls h1 h2 h3 h4 h5 h6
  refine kk io H locs ls h1 h2 (fun v hv q e => ?_) h4 h5 ⟨h6.1, h6.2.1, fun i v hi hk => h6.2.2 i v (h i v hi hk) hk⟩
  obtain ⟨i, hi⟩ := List.getElem?_of_mem hv
  exact h3 v (List.mem_of_getElem? (h i v hi (by rw [e]; rfl))) q e
def rlX (N : Nat) (xs : Nat → Int32) (E : aE) (io0 : aM) (S0 : aS) (s : State) : Prop := va_X (io0 1) N xs s s.heap ∧ io0 1 < s.heap.size ∧ io0 1 < E.2.2.1 ∧ S0 1 ≠ none
theorem g_scr (hx : aCx p l s m args meth c own cc nL ret9 E) {N : Nat} {xs : Nat → Int32} {i : Int32} {j : Nat} (d : decode cc pc = .ok (.iaload, 1)) (hn : pc + 1 = nx) (hX : rlX N xs E io0 S0 s) (hi : i = nI j) (hj : j < N) (hN : N < 2 ^ 31) (kk : aG p l e R s m args below meth c E io0 S0 nL Q nx lv (.int (xs j) :: st) S I L Rf k n) : aG p l e R s m args below meth c E io0 S0 nL Q pc lv (.int i :: .ref 1 :: st) S I L Rf k n := by
  subst hn; subst hi
  intro io H locs ls h1 h2 h3 h4 h5 h6
  show W p l e R s m args below meth c H locs k n Q (F0 m pc ls (.int (nI j) :: .ref (io 1) :: st.map (arn io)))
  rw [(h2 1 hX.2.2.2).1]
  refine va_sld hx.1 hx.2.1 hX.1 hX.2.1 (Nat.not_le.mpr hX.2.2.1) h5 (pk_in j N hj rfl hN) d ?_
  rw [nI_clamp (by omega)]
  exact kk io H locs ls h1 h2 h3 h4.tl.tl.i h5 h6
theorem g_slen (hx : aCx p l s m args meth c own cc nL ret9 E) {N : Nat} {xs : Nat → Int32} (d : decode cc pc = .ok (.arraylength, 1)) (hn : pc + 1 = nx) (hX : rlX N xs E io0 S0 s) (kk : aG p l e R s m args below meth c E io0 S0 nL Q nx lv (.int (nI N) :: st) S I L Rf k n) : aG p l e R s m args below meth c E io0 S0 nL Q pc lv (.ref 1 :: st) S I L Rf k n := by
  subst hn
  intro io H locs ls h1 h2 h3 h4 h5 h6
  show W p l e R s m args below meth c H locs k n Q (F0 m pc ls (.ref (io 1) :: st.map (arn io)))
  rw [(h2 1 hX.2.2.2).1]
  exact va_slen hx.1 hx.2.1 hX.1 hX.2.1 (Nat.not_le.mpr hX.2.2.1) h5 d (kk io H locs ls h1 h2 h3 h4.tl.i h5 h6)
end AL
set_option maxHeartbeats 4000000 in
set_option maxRecDepth 100000 in
theorem lc_0 {p : Program} {l : Launch} {e : Env} {s : State} {m : MethodId} {args : Array Value} {below : List Frame} {meth : Method} {c : Code} {E : aE} {io0 : aM} {S0 : aS} {Q : State → Prop} {S : aS} {I : aI} {L : aL} {Rf : aR} {k n N t : Nat} {xs : Nat → Int32} (hx : aCx p l s m args meth c RL cL_law 8 ret E) (hst : l.stackTraces = false) (hX9 : rlX N xs E io0 S0 s) (hN : 5 * t + 5 ≤ N) (hN3 : N < 2 ^ 31) (hk9 : k + 9 ≤ room_1.cells) (hn9 : n + 568 ≤ room_1.slots) (hR : Rel N xs S I L Rf)
    (go : ∀ (S' : aS) (I' : aI) (L' : aL) (R' : aR) (w5 w6 w7 : Value), Rel N xs S' I' L' R' → aG p l e room_1 s m args below meth c E io0 S0 8 Q 1875 [.ref 1, .ref 3, .ref 20, .ref 10, .int (nI (5 * t)), w5, w6, w7] [] S' I' L' R' (k + 9) (n + 568)) : aG p l e room_1 s m args below meth c E io0 S0 8 Q 152 [.ref 1, .ref 3, .ref 20, .ref 10, .int (nI (5 * t)), aU, aU, aU] [] S I L Rf k n := by
  refine g_aloadG_n hx dL_law_152 rfl (nx := 153) rfl rfl ?_
  refine g_aloadG_n hx dL_law_153 rfl (nx := 154) rfl rfl ?_
  refine g_iloadG hx dL_law_154 (nx := 156) rfl rfl ?_
  refine g_iconst hx dL_law_156 (nx := 157) rfl (v := 1) (by decide) ?_
  refine g_iadd hx dL_law_157 (nx := 158) rfl ?_
  refine g_scr hx dL_law_158 (nx := 159) rfl hX9 (sc1 _) (by omega) hN3 ?_
  refine g_aloadG_n hx dL_law_159 rfl (nx := 160) rfl rfl ?_
  refine g_iloadG hx dL_law_160 (nx := 162) rfl rfl ?_
  refine g_iconst hx dL_law_162 (nx := 163) rfl (v := 2) (by decide) ?_
  refine g_iadd hx dL_law_163 (nx := 164) rfl ?_
  refine g_scr hx dL_law_164 (nx := 165) rfl hX9 (sc2 _) (by omega) hN3 ?_
  refine g_aloadG_n hx dL_law_165 rfl (nx := 166) rfl rfl ?_
  refine g_iloadG hx dL_law_166 (nx := 168) rfl rfl ?_
  refine g_iconst hx dL_law_168 (nx := 169) rfl (v := 3) (by decide) ?_
  refine g_iadd hx dL_law_169 (nx := 170) rfl ?_
  refine g_scr hx dL_law_170 (nx := 171) rfl hX9 (sc3 _) (by omega) hN3 ?_
  refine g_aloadG_n hx dL_law_171 rfl (nx := 172) rfl rfl ?_
  refine g_callW hx [.ref 3, .int (xs (5 * t + 1)), .int (xs (5 * t + 2)), .int (xs (5 * t + 3)), .ref 10] (k' := k + 9) (n' := n + 568) dL_law_172 (nx := 175) rfl lk_L_101 rfl (Nat.le_of_ble_eq_true rfl) (Nat.le_of_ble_eq_true rfl) (Nat.le_of_ble_eq_true rfl) (Nat.add_le_add_left (Nat.le_of_ble_eq_true rfl) k) (Nat.add_le_add_left (Nat.le_of_ble_eq_true rfl) n) hk9 hn9 (st_shell hst hR (fun c9 S1 I1 L1 R1 hm1 hk1 => ?_))
  refine g_istore_5 hx dL_law_175 (nx := 177) rfl (by decide) rfl ?_
  refine g_aloadG_n hx dL_law_177 rfl (nx := 178) rfl rfl ?_
  refine g_aloadG_n hx dL_law_178 rfl (nx := 179) rfl rfl ?_
  refine g_iloadG hx dL_law_179 (nx := 181) rfl rfl ?_
  refine g_iconst hx dL_law_181 (nx := 182) rfl (v := 1) (by decide) ?_
  refine g_iadd hx dL_law_182 (nx := 183) rfl ?_
  refine g_scr hx dL_law_183 (nx := 184) rfl hX9 (sc1 _) (by omega) hN3 ?_
  refine g_aloadG_n hx dL_law_184 rfl (nx := 185) rfl rfl ?_
  refine g_iloadG hx dL_law_185 (nx := 187) rfl rfl ?_
  refine g_iconst hx dL_law_187 (nx := 188) rfl (v := 2) (by decide) ?_
  refine g_iadd hx dL_law_188 (nx := 189) rfl ?_
  refine g_scr hx dL_law_189 (nx := 190) rfl hX9 (sc2 _) (by omega) hN3 ?_
  refine g_aloadG_n hx dL_law_190 rfl (nx := 191) rfl rfl ?_
  refine g_iloadG hx dL_law_191 (nx := 193) rfl rfl ?_
  refine g_iconst hx dL_law_193 (nx := 194) rfl (v := 3) (by decide) ?_
  refine g_iadd hx dL_law_194 (nx := 195) rfl ?_
  refine g_scr hx dL_law_195 (nx := 196) rfl hX9 (sc3 _) (by omega) hN3 ?_
  refine g_callV_M hx [.int (xs (5 * t + 1)), .int (xs (5 * t + 2)), .int (xs (5 * t + 3))] (k' := k + 9) (n' := n + 568) dL_law_196 (nx := 199) rfl lk_L_106 hm1.2 (by decide) rfl rfl (Nat.le_of_ble_eq_true rfl) (Nat.le_of_ble_eq_true rfl) (Nat.le_of_ble_eq_true rfl) (Nat.le_refl _) (Nat.le_refl _) hk9 hn9 (hk1 _ (fun b9 I2 L2 hR2 ht2 ha2 => ?_))
  refine g_istore_6 hx dL_law_199 (nx := 201) rfl (by decide) rfl ?_
  refine g_aloadG_n hx dL_law_201 rfl (nx := 202) rfl rfl ?_
  refine g_callV_M hx [] (k' := k + 9) (n' := n + 568) dL_law_202 (nx := 205) rfl lk_L_107 hm1.2 (by decide) rfl rfl (Nat.le_of_ble_eq_true rfl) (Nat.le_of_ble_eq_true rfl) (Nat.le_of_ble_eq_true rfl) (Nat.le_refl _) (Nat.le_refl _) hk9 hn9 (s_X4_thrown hst hR2.ly.1 ?_)
  refine g_iloadG hx dL_law_205 (nx := 207) rfl rfl ?_
  refine g_icmp_eq hx dL_law_207 (tg := 212) (by decide) (nx := 210) rfl (fun c207 => ?_) (fun c207 => ?_)
  · refine g_iloadG hx dL_law_212 (nx := 214) rfl rfl ?_
    refine g_if_ne hx dL_law_214 (tg := 229) (by decide) (nx := 217) rfl (fun c214 => ?_) (fun c214 => ?_)
    · refine g_goto hx dL_law_229 (tg := 1875) (by decide) ?_
      exact go _ _ _ _ _ _ _ hR2
    · refine g_aloadG_n hx dL_law_217 rfl (nx := 218) rfl rfl ?_
      refine g_iconst hx dL_law_218 (nx := 219) rfl (v := 0) (by decide) ?_
      refine g_laload hx dL_law_219 (nx := 220) rfl hm1.1.2.2 (by decide) (vin (by decide)) ?_
      refine g_iloadG hx dL_law_220 (nx := 222) rfl rfl ?_
      refine g_i2l hx dL_law_222 (nx := 223) rfl ?_
      refine g_lcmp hx dL_law_223 (nx := 224) rfl ?_
      refine g_if_eq hx dL_law_224 (tg := 229) (by decide) (nx := 227) rfl (fun c224 => ?_) (fun c224 => ?_)
      · refine g_goto hx dL_law_229 (tg := 1875) (by decide) ?_
        exact go _ _ _ _ _ _ _ hR2
      · exact absurd (by rw [show L2 10 (Int32.toNatClampNeg 0) = _ from ha2 c214]; exact cmp_rf _) c224
  · exact absurd ht2 c207
set_option maxHeartbeats 4000000 in
set_option maxRecDepth 100000 in
theorem lc_1 {p : Program} {l : Launch} {e : Env} {s : State} {m : MethodId} {args : Array Value} {below : List Frame} {meth : Method} {c : Code} {E : aE} {io0 : aM} {S0 : aS} {Q : State → Prop} {S : aS} {I : aI} {L : aL} {Rf : aR} {k n N t : Nat} {xs : Nat → Int32} (hx : aCx p l s m args meth c RL cL_law 8 ret E) (hst : l.stackTraces = false) (hX9 : rlX N xs E io0 S0 s) (hN : 5 * t + 5 ≤ N) (hN3 : N < 2 ^ 31) (hk9 : k + 9 ≤ room_1.cells) (hn9 : n + 568 ≤ room_1.slots) (hR : Rel N xs S I L Rf)
    (go : ∀ (S' : aS) (I' : aI) (L' : aL) (R' : aR) (w5 w6 w7 : Value), Rel N xs S' I' L' R' → aG p l e room_1 s m args below meth c E io0 S0 8 Q 1875 [.ref 1, .ref 3, .ref 20, .ref 10, .int (nI (5 * t)), w5, w6, w7] [] S' I' L' R' (k + 9) (n + 568)) : aG p l e room_1 s m args below meth c E io0 S0 8 Q 232 [.ref 1, .ref 3, .ref 20, .ref 10, .int (nI (5 * t)), aU, aU, aU] [] S I L Rf k n := by
  refine g_aloadG_n hx dL_law_232 rfl (nx := 233) rfl rfl ?_
  refine g_aloadG_n hx dL_law_233 rfl (nx := 234) rfl rfl ?_
  refine g_iloadG hx dL_law_234 (nx := 236) rfl rfl ?_
  refine g_iconst hx dL_law_236 (nx := 237) rfl (v := 1) (by decide) ?_
  refine g_iadd hx dL_law_237 (nx := 238) rfl ?_
  refine g_scr hx dL_law_238 (nx := 239) rfl hX9 (sc1 _) (by omega) hN3 ?_
  refine g_aloadG_n hx dL_law_239 rfl (nx := 240) rfl rfl ?_
  refine g_callW hx [.ref 3, .int (xs (5 * t + 1)), .ref 10] (k' := k + 9) (n' := n + 568) dL_law_240 (nx := 243) rfl lk_L_111 rfl (Nat.le_of_ble_eq_true rfl) (Nat.le_of_ble_eq_true rfl) (Nat.le_of_ble_eq_true rfl) (Nat.add_le_add_left (Nat.le_of_ble_eq_true rfl) k) (Nat.add_le_add_left (Nat.le_of_ble_eq_true rfl) n) hk9 hn9 (st_star hst hR (fun c9 S1 I1 L1 R1 hm1 hk1 => ?_))
  refine g_istore_5 hx dL_law_243 (nx := 245) rfl (by decide) rfl ?_
  refine g_aloadG_n hx dL_law_245 rfl (nx := 246) rfl rfl ?_
  refine g_aloadG_n hx dL_law_246 rfl (nx := 247) rfl rfl ?_
  refine g_iloadG hx dL_law_247 (nx := 249) rfl rfl ?_
  refine g_iconst hx dL_law_249 (nx := 250) rfl (v := 1) (by decide) ?_
  refine g_iadd hx dL_law_250 (nx := 251) rfl ?_
  refine g_scr hx dL_law_251 (nx := 252) rfl hX9 (sc1 _) (by omega) hN3 ?_
  refine g_callV_M hx [.int (xs (5 * t + 1))] (k' := k + 9) (n' := n + 568) dL_law_252 (nx := 255) rfl lk_L_114 hm1.2 (by decide) rfl rfl (Nat.le_of_ble_eq_true rfl) (Nat.le_of_ble_eq_true rfl) (Nat.le_of_ble_eq_true rfl) (Nat.le_refl _) (Nat.le_refl _) hk9 hn9 (hk1 _ (fun b9 I2 L2 hR2 ht2 ha2 => ?_))
  refine g_istore_6 hx dL_law_255 (nx := 257) rfl (by decide) rfl ?_
  refine g_aloadG_n hx dL_law_257 rfl (nx := 258) rfl rfl ?_
  refine g_callV_M hx [] (k' := k + 9) (n' := n + 568) dL_law_258 (nx := 261) rfl lk_L_107 hm1.2 (by decide) rfl rfl (Nat.le_of_ble_eq_true rfl) (Nat.le_of_ble_eq_true rfl) (Nat.le_of_ble_eq_true rfl) (Nat.le_refl _) (Nat.le_refl _) hk9 hn9 (s_X4_thrown hst hR2.ly.1 ?_)
  refine g_iloadG hx dL_law_261 (nx := 263) rfl rfl ?_
  refine g_icmp_eq hx dL_law_263 (tg := 268) (by decide) (nx := 266) rfl (fun c263 => ?_) (fun c263 => ?_)
  · refine g_iloadG hx dL_law_268 (nx := 270) rfl rfl ?_
    refine g_if_ne hx dL_law_270 (tg := 285) (by decide) (nx := 273) rfl (fun c270 => ?_) (fun c270 => ?_)
    · refine g_goto hx dL_law_285 (tg := 1875) (by decide) ?_
      exact go _ _ _ _ _ _ _ hR2
    · refine g_aloadG_n hx dL_law_273 rfl (nx := 274) rfl rfl ?_
      refine g_iconst hx dL_law_274 (nx := 275) rfl (v := 0) (by decide) ?_
      refine g_laload hx dL_law_275 (nx := 276) rfl hm1.1.2.2 (by decide) (vin (by decide)) ?_
      refine g_iloadG hx dL_law_276 (nx := 278) rfl rfl ?_
      refine g_i2l hx dL_law_278 (nx := 279) rfl ?_
      refine g_lcmp hx dL_law_279 (nx := 280) rfl ?_
      refine g_if_eq hx dL_law_280 (tg := 285) (by decide) (nx := 283) rfl (fun c280 => ?_) (fun c280 => ?_)
      · refine g_goto hx dL_law_285 (tg := 1875) (by decide) ?_
        exact go _ _ _ _ _ _ _ hR2
      · exact absurd (by rw [show L2 10 (Int32.toNatClampNeg 0) = _ from ha2 c270]; exact cmp_rf _) c280
  · exact absurd ht2 c263
set_option maxHeartbeats 4000000 in
set_option maxRecDepth 100000 in
theorem lc_2 {p : Program} {l : Launch} {e : Env} {s : State} {m : MethodId} {args : Array Value} {below : List Frame} {meth : Method} {c : Code} {E : aE} {io0 : aM} {S0 : aS} {Q : State → Prop} {S : aS} {I : aI} {L : aL} {Rf : aR} {k n N t : Nat} {xs : Nat → Int32} (hx : aCx p l s m args meth c RL cL_law 8 ret E) (hst : l.stackTraces = false) (hX9 : rlX N xs E io0 S0 s) (hN : 5 * t + 5 ≤ N) (hN3 : N < 2 ^ 31) (hk9 : k + 9 ≤ room_1.cells) (hn9 : n + 568 ≤ room_1.slots) (hR : Rel N xs S I L Rf)
    (go : ∀ (S' : aS) (I' : aI) (L' : aL) (R' : aR) (w5 w6 w7 : Value), Rel N xs S' I' L' R' → aG p l e room_1 s m args below meth c E io0 S0 8 Q 1875 [.ref 1, .ref 3, .ref 20, .ref 10, .int (nI (5 * t)), w5, w6, w7] [] S' I' L' R' (k + 9) (n + 568)) : aG p l e room_1 s m args below meth c E io0 S0 8 Q 288 [.ref 1, .ref 3, .ref 20, .ref 10, .int (nI (5 * t)), aU, aU, aU] [] S I L Rf k n := by
  refine g_aloadG_n hx dL_law_288 rfl (nx := 289) rfl rfl ?_
  refine g_aloadG_n hx dL_law_289 rfl (nx := 290) rfl rfl ?_
  refine g_iloadG hx dL_law_290 (nx := 292) rfl rfl ?_
  refine g_iconst hx dL_law_292 (nx := 293) rfl (v := 1) (by decide) ?_
  refine g_iadd hx dL_law_293 (nx := 294) rfl ?_
  refine g_scr hx dL_law_294 (nx := 295) rfl hX9 (sc1 _) (by omega) hN3 ?_
  refine g_aloadG_n hx dL_law_295 rfl (nx := 296) rfl rfl ?_
  refine g_iloadG hx dL_law_296 (nx := 298) rfl rfl ?_
  refine g_iconst hx dL_law_298 (nx := 299) rfl (v := 2) (by decide) ?_
  refine g_iadd hx dL_law_299 (nx := 300) rfl ?_
  refine g_scr hx dL_law_300 (nx := 301) rfl hX9 (sc2 _) (by omega) hN3 ?_
  refine g_aloadG_n hx dL_law_301 rfl (nx := 302) rfl rfl ?_
  refine g_iloadG hx dL_law_302 (nx := 304) rfl rfl ?_
  refine g_iconst hx dL_law_304 (nx := 305) rfl (v := 3) (by decide) ?_
  refine g_iadd hx dL_law_305 (nx := 306) rfl ?_
  refine g_scr hx dL_law_306 (nx := 307) rfl hX9 (sc3 _) (by omega) hN3 ?_
  refine g_aloadG_n hx dL_law_307 rfl (nx := 308) rfl rfl ?_
  refine g_iloadG hx dL_law_308 (nx := 310) rfl rfl ?_
  refine g_iconst hx dL_law_310 (nx := 311) rfl (v := 4) (by decide) ?_
  refine g_iadd hx dL_law_311 (nx := 312) rfl ?_
  refine g_scr hx dL_law_312 (nx := 313) rfl hX9 (sc4 _) (by omega) hN3 ?_
  refine g_aloadG_n hx dL_law_313 rfl (nx := 314) rfl rfl ?_
  refine g_callW hx [.ref 3, .int (xs (5 * t + 1)), .int (xs (5 * t + 2)), .int (xs (5 * t + 3)), .int (xs (5 * t + 4)), .ref 10] (k' := k + 9) (n' := n + 568) dL_law_314 (nx := 317) rfl lk_L_115 rfl (Nat.le_of_ble_eq_true rfl) (Nat.le_of_ble_eq_true rfl) (Nat.le_of_ble_eq_true rfl) (Nat.add_le_add_left (Nat.le_of_ble_eq_true rfl) k) (Nat.add_le_add_left (Nat.le_of_ble_eq_true rfl) n) hk9 hn9 (st_frame hst hR (fun c9 S1 I1 L1 R1 hm1 hk1 => ?_))
  refine g_istore_5 hx dL_law_317 (nx := 319) rfl (by decide) rfl ?_
  refine g_aloadG_n hx dL_law_319 rfl (nx := 320) rfl rfl ?_
  refine g_aloadG_n hx dL_law_320 rfl (nx := 321) rfl rfl ?_
  refine g_iloadG hx dL_law_321 (nx := 323) rfl rfl ?_
  refine g_iconst hx dL_law_323 (nx := 324) rfl (v := 1) (by decide) ?_
  refine g_iadd hx dL_law_324 (nx := 325) rfl ?_
  refine g_scr hx dL_law_325 (nx := 326) rfl hX9 (sc1 _) (by omega) hN3 ?_
  refine g_aloadG_n hx dL_law_326 rfl (nx := 327) rfl rfl ?_
  refine g_iloadG hx dL_law_327 (nx := 329) rfl rfl ?_
  refine g_iconst hx dL_law_329 (nx := 330) rfl (v := 2) (by decide) ?_
  refine g_iadd hx dL_law_330 (nx := 331) rfl ?_
  refine g_scr hx dL_law_331 (nx := 332) rfl hX9 (sc2 _) (by omega) hN3 ?_
  refine g_aloadG_n hx dL_law_332 rfl (nx := 333) rfl rfl ?_
  refine g_iloadG hx dL_law_333 (nx := 335) rfl rfl ?_
  refine g_iconst hx dL_law_335 (nx := 336) rfl (v := 3) (by decide) ?_
  refine g_iadd hx dL_law_336 (nx := 337) rfl ?_
  refine g_scr hx dL_law_337 (nx := 338) rfl hX9 (sc3 _) (by omega) hN3 ?_
  refine g_aloadG_n hx dL_law_338 rfl (nx := 339) rfl rfl ?_
  refine g_iloadG hx dL_law_339 (nx := 341) rfl rfl ?_
  refine g_iconst hx dL_law_341 (nx := 342) rfl (v := 4) (by decide) ?_
  refine g_iadd hx dL_law_342 (nx := 343) rfl ?_
  refine g_scr hx dL_law_343 (nx := 344) rfl hX9 (sc4 _) (by omega) hN3 ?_
  refine g_callV_M hx [.int (xs (5 * t + 1)), .int (xs (5 * t + 2)), .int (xs (5 * t + 3)), .int (xs (5 * t + 4))] (k' := k + 9) (n' := n + 568) dL_law_344 (nx := 347) rfl lk_L_118 hm1.2 (by decide) rfl rfl (Nat.le_of_ble_eq_true rfl) (Nat.le_of_ble_eq_true rfl) (Nat.le_of_ble_eq_true rfl) (Nat.le_refl _) (Nat.le_refl _) hk9 hn9 (hk1 _ (fun b9 I2 L2 hR2 ht2 ha2 => ?_))
  refine g_istore_6 hx dL_law_347 (nx := 349) rfl (by decide) rfl ?_
  refine g_aloadG_n hx dL_law_349 rfl (nx := 350) rfl rfl ?_
  refine g_callV_M hx [] (k' := k + 9) (n' := n + 568) dL_law_350 (nx := 353) rfl lk_L_107 hm1.2 (by decide) rfl rfl (Nat.le_of_ble_eq_true rfl) (Nat.le_of_ble_eq_true rfl) (Nat.le_of_ble_eq_true rfl) (Nat.le_refl _) (Nat.le_refl _) hk9 hn9 (s_X4_thrown hst hR2.ly.1 ?_)
  refine g_iloadG hx dL_law_353 (nx := 355) rfl rfl ?_
  refine g_icmp_eq hx dL_law_355 (tg := 360) (by decide) (nx := 358) rfl (fun c355 => ?_) (fun c355 => ?_)
  · refine g_iloadG hx dL_law_360 (nx := 362) rfl rfl ?_
    refine g_if_ne hx dL_law_362 (tg := 377) (by decide) (nx := 365) rfl (fun c362 => ?_) (fun c362 => ?_)
    · refine g_goto hx dL_law_377 (tg := 1875) (by decide) ?_
      exact go _ _ _ _ _ _ _ hR2
    · refine g_aloadG_n hx dL_law_365 rfl (nx := 366) rfl rfl ?_
      refine g_iconst hx dL_law_366 (nx := 367) rfl (v := 0) (by decide) ?_
      refine g_laload hx dL_law_367 (nx := 368) rfl hm1.1.2.2 (by decide) (vin (by decide)) ?_
      refine g_iloadG hx dL_law_368 (nx := 370) rfl rfl ?_
      refine g_i2l hx dL_law_370 (nx := 371) rfl ?_
      refine g_lcmp hx dL_law_371 (nx := 372) rfl ?_
      refine g_if_eq hx dL_law_372 (tg := 377) (by decide) (nx := 375) rfl (fun c372 => ?_) (fun c372 => ?_)
      · refine g_goto hx dL_law_377 (tg := 1875) (by decide) ?_
        exact go _ _ _ _ _ _ _ hR2
      · exact absurd (by rw [show L2 10 (Int32.toNatClampNeg 0) = _ from ha2 c362]; exact cmp_rf _) c372
  · exact absurd ht2 c355
set_option maxHeartbeats 4000000 in
set_option maxRecDepth 100000 in
theorem lc_3 {p : Program} {l : Launch} {e : Env} {s : State} {m : MethodId} {args : Array Value} {below : List Frame} {meth : Method} {c : Code} {E : aE} {io0 : aM} {S0 : aS} {Q : State → Prop} {S : aS} {I : aI} {L : aL} {Rf : aR} {k n N t : Nat} {xs : Nat → Int32} (hx : aCx p l s m args meth c RL cL_law 8 ret E) (hst : l.stackTraces = false) (hX9 : rlX N xs E io0 S0 s) (hN : 5 * t + 5 ≤ N) (hN3 : N < 2 ^ 31) (hk9 : k + 9 ≤ room_1.cells) (hn9 : n + 568 ≤ room_1.slots) (hR : Rel N xs S I L Rf)
    (go : ∀ (S' : aS) (I' : aI) (L' : aL) (R' : aR) (w5 w6 w7 : Value), Rel N xs S' I' L' R' → aG p l e room_1 s m args below meth c E io0 S0 8 Q 1875 [.ref 1, .ref 3, .ref 20, .ref 10, .int (nI (5 * t)), w5, w6, w7] [] S' I' L' R' (k + 9) (n + 568)) : aG p l e room_1 s m args below meth c E io0 S0 8 Q 380 [.ref 1, .ref 3, .ref 20, .ref 10, .int (nI (5 * t)), aU, aU, aU] [] S I L Rf k n := by
  refine g_aloadG_n hx dL_law_380 rfl (nx := 381) rfl rfl ?_
  refine g_aloadG_n hx dL_law_381 rfl (nx := 382) rfl rfl ?_
  refine g_iloadG hx dL_law_382 (nx := 384) rfl rfl ?_
  refine g_iconst hx dL_law_384 (nx := 385) rfl (v := 1) (by decide) ?_
  refine g_iadd hx dL_law_385 (nx := 386) rfl ?_
  refine g_scr hx dL_law_386 (nx := 387) rfl hX9 (sc1 _) (by omega) hN3 ?_
  refine g_aloadG_n hx dL_law_387 rfl (nx := 388) rfl rfl ?_
  refine g_iloadG hx dL_law_388 (nx := 390) rfl rfl ?_
  refine g_iconst hx dL_law_390 (nx := 391) rfl (v := 2) (by decide) ?_
  refine g_iadd hx dL_law_391 (nx := 392) rfl ?_
  refine g_scr hx dL_law_392 (nx := 393) rfl hX9 (sc2 _) (by omega) hN3 ?_
  refine g_aloadG_n hx dL_law_393 rfl (nx := 394) rfl rfl ?_
  refine g_callW hx [.ref 3, .int (xs (5 * t + 1)), .int (xs (5 * t + 2)), .ref 10] (k' := k + 9) (n' := n + 568) dL_law_394 (nx := 397) rfl lk_L_119 rfl (Nat.le_of_ble_eq_true rfl) (Nat.le_of_ble_eq_true rfl) (Nat.le_of_ble_eq_true rfl) (Nat.add_le_add_left (Nat.le_of_ble_eq_true rfl) k) (Nat.add_le_add_left (Nat.le_of_ble_eq_true rfl) n) hk9 hn9 (st_drop hst hR (fun c9 S1 I1 L1 R1 hm1 hk1 => ?_))
  refine g_istore_5 hx dL_law_397 (nx := 399) rfl (by decide) rfl ?_
  refine g_aloadG_n hx dL_law_399 rfl (nx := 400) rfl rfl ?_
  refine g_aloadG_n hx dL_law_400 rfl (nx := 401) rfl rfl ?_
  refine g_iloadG hx dL_law_401 (nx := 403) rfl rfl ?_
  refine g_iconst hx dL_law_403 (nx := 404) rfl (v := 1) (by decide) ?_
  refine g_iadd hx dL_law_404 (nx := 405) rfl ?_
  refine g_scr hx dL_law_405 (nx := 406) rfl hX9 (sc1 _) (by omega) hN3 ?_
  refine g_aloadG_n hx dL_law_406 rfl (nx := 407) rfl rfl ?_
  refine g_iloadG hx dL_law_407 (nx := 409) rfl rfl ?_
  refine g_iconst hx dL_law_409 (nx := 410) rfl (v := 2) (by decide) ?_
  refine g_iadd hx dL_law_410 (nx := 411) rfl ?_
  refine g_scr hx dL_law_411 (nx := 412) rfl hX9 (sc2 _) (by omega) hN3 ?_
  refine g_callV_M hx [.int (xs (5 * t + 1)), .int (xs (5 * t + 2))] (k' := k + 9) (n' := n + 568) dL_law_412 (nx := 415) rfl lk_L_122 hm1.2 (by decide) rfl rfl (Nat.le_of_ble_eq_true rfl) (Nat.le_of_ble_eq_true rfl) (Nat.le_of_ble_eq_true rfl) (Nat.le_refl _) (Nat.le_refl _) hk9 hn9 (hk1 _ (fun b9 I2 L2 hR2 ht2 ha2 => ?_))
  refine g_istore_6 hx dL_law_415 (nx := 417) rfl (by decide) rfl ?_
  refine g_aloadG_n hx dL_law_417 rfl (nx := 418) rfl rfl ?_
  refine g_callV_M hx [] (k' := k + 9) (n' := n + 568) dL_law_418 (nx := 421) rfl lk_L_107 hm1.2 (by decide) rfl rfl (Nat.le_of_ble_eq_true rfl) (Nat.le_of_ble_eq_true rfl) (Nat.le_of_ble_eq_true rfl) (Nat.le_refl _) (Nat.le_refl _) hk9 hn9 (s_X4_thrown hst hR2.ly.1 ?_)
  refine g_iloadG hx dL_law_421 (nx := 423) rfl rfl ?_
  refine g_icmp_eq hx dL_law_423 (tg := 428) (by decide) (nx := 426) rfl (fun c423 => ?_) (fun c423 => ?_)
  · refine g_iloadG hx dL_law_428 (nx := 430) rfl rfl ?_
    refine g_if_ne hx dL_law_430 (tg := 445) (by decide) (nx := 433) rfl (fun c430 => ?_) (fun c430 => ?_)
    · refine g_goto hx dL_law_445 (tg := 1875) (by decide) ?_
      exact go _ _ _ _ _ _ _ hR2
    · refine g_aloadG_n hx dL_law_433 rfl (nx := 434) rfl rfl ?_
      refine g_iconst hx dL_law_434 (nx := 435) rfl (v := 0) (by decide) ?_
      refine g_laload hx dL_law_435 (nx := 436) rfl hm1.1.2.2 (by decide) (vin (by decide)) ?_
      refine g_iloadG hx dL_law_436 (nx := 438) rfl rfl ?_
      refine g_i2l hx dL_law_438 (nx := 439) rfl ?_
      refine g_lcmp hx dL_law_439 (nx := 440) rfl ?_
      refine g_if_eq hx dL_law_440 (tg := 445) (by decide) (nx := 443) rfl (fun c440 => ?_) (fun c440 => ?_)
      · refine g_goto hx dL_law_445 (tg := 1875) (by decide) ?_
        exact go _ _ _ _ _ _ _ hR2
      · exact absurd (by rw [show L2 10 (Int32.toNatClampNeg 0) = _ from ha2 c430]; exact cmp_rf _) c440
  · exact absurd ht2 c423
set_option maxHeartbeats 4000000 in
set_option maxRecDepth 100000 in
theorem lc_4 {p : Program} {l : Launch} {e : Env} {s : State} {m : MethodId} {args : Array Value} {below : List Frame} {meth : Method} {c : Code} {E : aE} {io0 : aM} {S0 : aS} {Q : State → Prop} {S : aS} {I : aI} {L : aL} {Rf : aR} {k n N t : Nat} {xs : Nat → Int32} (hx : aCx p l s m args meth c RL cL_law 8 ret E) (hst : l.stackTraces = false) (hX9 : rlX N xs E io0 S0 s) (hN : 5 * t + 5 ≤ N) (hN3 : N < 2 ^ 31) (hk9 : k + 9 ≤ room_1.cells) (hn9 : n + 568 ≤ room_1.slots) (hR : Rel N xs S I L Rf)
    (go : ∀ (S' : aS) (I' : aI) (L' : aL) (R' : aR) (w5 w6 w7 : Value), Rel N xs S' I' L' R' → aG p l e room_1 s m args below meth c E io0 S0 8 Q 1875 [.ref 1, .ref 3, .ref 20, .ref 10, .int (nI (5 * t)), w5, w6, w7] [] S' I' L' R' (k + 9) (n + 568)) : aG p l e room_1 s m args below meth c E io0 S0 8 Q 448 [.ref 1, .ref 3, .ref 20, .ref 10, .int (nI (5 * t)), aU, aU, aU] [] S I L Rf k n := by
  refine g_aloadG_n hx dL_law_448 rfl (nx := 449) rfl rfl ?_
  refine g_aloadG_n hx dL_law_449 rfl (nx := 450) rfl rfl ?_
  refine g_iloadG hx dL_law_450 (nx := 452) rfl rfl ?_
  refine g_iconst hx dL_law_452 (nx := 453) rfl (v := 1) (by decide) ?_
  refine g_iadd hx dL_law_453 (nx := 454) rfl ?_
  refine g_scr hx dL_law_454 (nx := 455) rfl hX9 (sc1 _) (by omega) hN3 ?_
  refine g_aloadG_n hx dL_law_455 rfl (nx := 456) rfl rfl ?_
  refine g_iloadG hx dL_law_456 (nx := 458) rfl rfl ?_
  refine g_iconst hx dL_law_458 (nx := 459) rfl (v := 2) (by decide) ?_
  refine g_iadd hx dL_law_459 (nx := 460) rfl ?_
  refine g_scr hx dL_law_460 (nx := 461) rfl hX9 (sc2 _) (by omega) hN3 ?_
  refine g_if_eq hx dL_law_461 (tg := 468) (by decide) (nx := 464) rfl (fun c461 => ?_) (fun c461 => ?_)
  · refine g_iconst hx dL_law_468 (nx := 469) rfl (v := 0) (by decide) ?_
    refine g_aloadG_n hx dL_law_469 rfl (nx := 470) rfl rfl ?_
    refine g_callW hx [.ref 3, .int (xs (5 * t + 1)), .int 0, .ref 10] (k' := k + 9) (n' := n + 568) dL_law_470 (nx := 473) rfl lk_L_123 rfl (Nat.le_of_ble_eq_true rfl) (Nat.le_of_ble_eq_true rfl) (Nat.le_of_ble_eq_true rfl) (Nat.add_le_add_left (Nat.le_of_ble_eq_true rfl) k) (Nat.add_le_add_left (Nat.le_of_ble_eq_true rfl) n) hk9 hn9 (st_mask hst (x := xs (5 * t + 1)) (y := 0) (Or.inl rfl) hR (fun c9 S1 I1 L1 R1 hm1 hk1 => ?_))
    refine g_istore_5 hx dL_law_473 (nx := 475) rfl (by decide) rfl ?_
    refine g_aloadG_n hx dL_law_475 rfl (nx := 476) rfl rfl ?_
    refine g_aloadG_n hx dL_law_476 rfl (nx := 477) rfl rfl ?_
    refine g_iloadG hx dL_law_477 (nx := 479) rfl rfl ?_
    refine g_iconst hx dL_law_479 (nx := 480) rfl (v := 1) (by decide) ?_
    refine g_iadd hx dL_law_480 (nx := 481) rfl ?_
    refine g_scr hx dL_law_481 (nx := 482) rfl hX9 (sc1 _) (by omega) hN3 ?_
    refine g_aloadG_n hx dL_law_482 rfl (nx := 483) rfl rfl ?_
    refine g_iloadG hx dL_law_483 (nx := 485) rfl rfl ?_
    refine g_iconst hx dL_law_485 (nx := 486) rfl (v := 2) (by decide) ?_
    refine g_iadd hx dL_law_486 (nx := 487) rfl ?_
    refine g_scr hx dL_law_487 (nx := 488) rfl hX9 (sc2 _) (by omega) hN3 ?_
    refine g_if_eq hx dL_law_488 (tg := 495) (by decide) (nx := 491) rfl (fun c488 => ?_) (fun c488 => ?_)
    · refine g_iconst hx dL_law_495 (nx := 496) rfl (v := 0) (by decide) ?_
      refine g_callV_M hx [.int (xs (5 * t + 1)), .int 0] (k' := k + 9) (n' := n + 568) dL_law_496 (nx := 499) rfl lk_L_126 hm1.2 (by decide) rfl rfl (Nat.le_of_ble_eq_true rfl) (Nat.le_of_ble_eq_true rfl) (Nat.le_of_ble_eq_true rfl) (Nat.le_refl _) (Nat.le_refl _) hk9 hn9 (hk1 _ (fun b9 I2 L2 hR2 ht2 ha2 => ?_))
      refine g_istore_6 hx dL_law_499 (nx := 501) rfl (by decide) rfl ?_
      refine g_aloadG_n hx dL_law_501 rfl (nx := 502) rfl rfl ?_
      refine g_callV_M hx [] (k' := k + 9) (n' := n + 568) dL_law_502 (nx := 505) rfl lk_L_107 hm1.2 (by decide) rfl rfl (Nat.le_of_ble_eq_true rfl) (Nat.le_of_ble_eq_true rfl) (Nat.le_of_ble_eq_true rfl) (Nat.le_refl _) (Nat.le_refl _) hk9 hn9 (s_X4_thrown hst hR2.ly.1 ?_)
      refine g_iloadG hx dL_law_505 (nx := 507) rfl rfl ?_
      refine g_icmp_eq hx dL_law_507 (tg := 512) (by decide) (nx := 510) rfl (fun c507 => ?_) (fun c507 => ?_)
      · refine g_iloadG hx dL_law_512 (nx := 514) rfl rfl ?_
        refine g_if_ne hx dL_law_514 (tg := 536) (by decide) (nx := 517) rfl (fun c514 => ?_) (fun c514 => ?_)
        · refine g_goto hx dL_law_536 (tg := 1875) (by decide) ?_
          exact go _ _ _ _ _ _ _ hR2
        · refine g_aloadG_n hx dL_law_517 rfl (nx := 518) rfl rfl ?_
          refine g_iconst hx dL_law_518 (nx := 519) rfl (v := 0) (by decide) ?_
          refine g_laload hx dL_law_519 (nx := 520) rfl hm1.1.2.2 (by decide) (vin (by decide)) ?_
          refine g_iloadG hx dL_law_520 (nx := 522) rfl rfl ?_
          refine g_if_eq hx dL_law_522 (tg := 529) (by decide) (nx := 525) rfl (fun c522 => ?_) (fun c522 => ?_)
          · refine g_lconst hx dL_law_529 (nx := 530) rfl (v := 0) (by decide) ?_
            refine g_lcmp hx dL_law_530 (nx := 531) rfl ?_
            refine g_if_eq hx dL_law_531 (tg := 536) (by decide) (nx := 534) rfl (fun c531 => ?_) (fun c531 => ?_)
            · refine g_goto hx dL_law_536 (tg := 1875) (by decide) ?_
              exact go _ _ _ _ _ _ _ hR2
            · exact absurd (by rw [show L2 10 (Int32.toNatClampNeg 0) = _ from ha2 c514, if_pos c522]; exact cmp_rf _) c531
          · refine g_lconst hx dL_law_525 (nx := 526) rfl (v := 1) (by decide) ?_
            refine g_goto hx dL_law_526 (tg := 530) (by decide) ?_
            refine g_lcmp hx dL_law_530 (nx := 531) rfl ?_
            refine g_if_eq hx dL_law_531 (tg := 536) (by decide) (nx := 534) rfl (fun c531 => ?_) (fun c531 => ?_)
            · refine g_goto hx dL_law_536 (tg := 1875) (by decide) ?_
              exact go _ _ _ _ _ _ _ hR2
            · exact absurd (by rw [show L2 10 (Int32.toNatClampNeg 0) = _ from ha2 c514, if_neg c522]; exact cmp_rf _) c531
      · exact absurd ht2 c507
    · exact absurd c461 c488
  · refine g_iconst hx dL_law_464 (nx := 465) rfl (v := 1) (by decide) ?_
    refine g_goto hx dL_law_465 (tg := 469) (by decide) ?_
    refine g_aloadG_n hx dL_law_469 rfl (nx := 470) rfl rfl ?_
    refine g_callW hx [.ref 3, .int (xs (5 * t + 1)), .int 1, .ref 10] (k' := k + 9) (n' := n + 568) dL_law_470 (nx := 473) rfl lk_L_123 rfl (Nat.le_of_ble_eq_true rfl) (Nat.le_of_ble_eq_true rfl) (Nat.le_of_ble_eq_true rfl) (Nat.add_le_add_left (Nat.le_of_ble_eq_true rfl) k) (Nat.add_le_add_left (Nat.le_of_ble_eq_true rfl) n) hk9 hn9 (st_mask hst (x := xs (5 * t + 1)) (y := 1) (Or.inr rfl) hR (fun c9 S1 I1 L1 R1 hm1 hk1 => ?_))
    refine g_istore_5 hx dL_law_473 (nx := 475) rfl (by decide) rfl ?_
    refine g_aloadG_n hx dL_law_475 rfl (nx := 476) rfl rfl ?_
    refine g_aloadG_n hx dL_law_476 rfl (nx := 477) rfl rfl ?_
    refine g_iloadG hx dL_law_477 (nx := 479) rfl rfl ?_
    refine g_iconst hx dL_law_479 (nx := 480) rfl (v := 1) (by decide) ?_
    refine g_iadd hx dL_law_480 (nx := 481) rfl ?_
    refine g_scr hx dL_law_481 (nx := 482) rfl hX9 (sc1 _) (by omega) hN3 ?_
    refine g_aloadG_n hx dL_law_482 rfl (nx := 483) rfl rfl ?_
    refine g_iloadG hx dL_law_483 (nx := 485) rfl rfl ?_
    refine g_iconst hx dL_law_485 (nx := 486) rfl (v := 2) (by decide) ?_
    refine g_iadd hx dL_law_486 (nx := 487) rfl ?_
    refine g_scr hx dL_law_487 (nx := 488) rfl hX9 (sc2 _) (by omega) hN3 ?_
    refine g_if_eq hx dL_law_488 (tg := 495) (by decide) (nx := 491) rfl (fun c488 => ?_) (fun c488 => ?_)
    · exact absurd c488 c461
    · refine g_iconst hx dL_law_491 (nx := 492) rfl (v := 1) (by decide) ?_
      refine g_goto hx dL_law_492 (tg := 496) (by decide) ?_
      refine g_callV_M hx [.int (xs (5 * t + 1)), .int 1] (k' := k + 9) (n' := n + 568) dL_law_496 (nx := 499) rfl lk_L_126 hm1.2 (by decide) rfl rfl (Nat.le_of_ble_eq_true rfl) (Nat.le_of_ble_eq_true rfl) (Nat.le_of_ble_eq_true rfl) (Nat.le_refl _) (Nat.le_refl _) hk9 hn9 (hk1 _ (fun b9 I2 L2 hR2 ht2 ha2 => ?_))
      refine g_istore_6 hx dL_law_499 (nx := 501) rfl (by decide) rfl ?_
      refine g_aloadG_n hx dL_law_501 rfl (nx := 502) rfl rfl ?_
      refine g_callV_M hx [] (k' := k + 9) (n' := n + 568) dL_law_502 (nx := 505) rfl lk_L_107 hm1.2 (by decide) rfl rfl (Nat.le_of_ble_eq_true rfl) (Nat.le_of_ble_eq_true rfl) (Nat.le_of_ble_eq_true rfl) (Nat.le_refl _) (Nat.le_refl _) hk9 hn9 (s_X4_thrown hst hR2.ly.1 ?_)
      refine g_iloadG hx dL_law_505 (nx := 507) rfl rfl ?_
      refine g_icmp_eq hx dL_law_507 (tg := 512) (by decide) (nx := 510) rfl (fun c507 => ?_) (fun c507 => ?_)
      · refine g_iloadG hx dL_law_512 (nx := 514) rfl rfl ?_
        refine g_if_ne hx dL_law_514 (tg := 536) (by decide) (nx := 517) rfl (fun c514 => ?_) (fun c514 => ?_)
        · refine g_goto hx dL_law_536 (tg := 1875) (by decide) ?_
          exact go _ _ _ _ _ _ _ hR2
        · refine g_aloadG_n hx dL_law_517 rfl (nx := 518) rfl rfl ?_
          refine g_iconst hx dL_law_518 (nx := 519) rfl (v := 0) (by decide) ?_
          refine g_laload hx dL_law_519 (nx := 520) rfl hm1.1.2.2 (by decide) (vin (by decide)) ?_
          refine g_iloadG hx dL_law_520 (nx := 522) rfl rfl ?_
          refine g_if_eq hx dL_law_522 (tg := 529) (by decide) (nx := 525) rfl (fun c522 => ?_) (fun c522 => ?_)
          · refine g_lconst hx dL_law_529 (nx := 530) rfl (v := 0) (by decide) ?_
            refine g_lcmp hx dL_law_530 (nx := 531) rfl ?_
            refine g_if_eq hx dL_law_531 (tg := 536) (by decide) (nx := 534) rfl (fun c531 => ?_) (fun c531 => ?_)
            · refine g_goto hx dL_law_536 (tg := 1875) (by decide) ?_
              exact go _ _ _ _ _ _ _ hR2
            · exact absurd (by rw [show L2 10 (Int32.toNatClampNeg 0) = _ from ha2 c514, if_pos c522]; exact cmp_rf _) c531
          · refine g_lconst hx dL_law_525 (nx := 526) rfl (v := 1) (by decide) ?_
            refine g_goto hx dL_law_526 (tg := 530) (by decide) ?_
            refine g_lcmp hx dL_law_530 (nx := 531) rfl ?_
            refine g_if_eq hx dL_law_531 (tg := 536) (by decide) (nx := 534) rfl (fun c531 => ?_) (fun c531 => ?_)
            · refine g_goto hx dL_law_536 (tg := 1875) (by decide) ?_
              exact go _ _ _ _ _ _ _ hR2
            · exact absurd (by rw [show L2 10 (Int32.toNatClampNeg 0) = _ from ha2 c514, if_neg c522]; exact cmp_rf _) c531
      · exact absurd ht2 c507
set_option maxHeartbeats 4000000 in
set_option maxRecDepth 100000 in
theorem lc_5 {p : Program} {l : Launch} {e : Env} {s : State} {m : MethodId} {args : Array Value} {below : List Frame} {meth : Method} {c : Code} {E : aE} {io0 : aM} {S0 : aS} {Q : State → Prop} {S : aS} {I : aI} {L : aL} {Rf : aR} {k n N t : Nat} {xs : Nat → Int32} (hx : aCx p l s m args meth c RL cL_law 8 ret E) (hst : l.stackTraces = false) (hX9 : rlX N xs E io0 S0 s) (hN : 5 * t + 5 ≤ N) (hN3 : N < 2 ^ 31) (hk9 : k + 9 ≤ room_1.cells) (hn9 : n + 568 ≤ room_1.slots) (hR : Rel N xs S I L Rf)
    (go : ∀ (S' : aS) (I' : aI) (L' : aL) (R' : aR) (w5 w6 w7 : Value), Rel N xs S' I' L' R' → aG p l e room_1 s m args below meth c E io0 S0 8 Q 1875 [.ref 1, .ref 3, .ref 20, .ref 10, .int (nI (5 * t)), w5, w6, w7] [] S' I' L' R' (k + 9) (n + 568)) : aG p l e room_1 s m args below meth c E io0 S0 8 Q 539 [.ref 1, .ref 3, .ref 20, .ref 10, .int (nI (5 * t)), aU, aU, aU] [] S I L Rf k n := by
  refine g_aloadG_n hx dL_law_539 rfl (nx := 540) rfl rfl ?_
  refine g_aloadG_n hx dL_law_540 rfl (nx := 541) rfl rfl ?_
  refine g_iloadG hx dL_law_541 (nx := 543) rfl rfl ?_
  refine g_iconst hx dL_law_543 (nx := 544) rfl (v := 1) (by decide) ?_
  refine g_iadd hx dL_law_544 (nx := 545) rfl ?_
  refine g_scr hx dL_law_545 (nx := 546) rfl hX9 (sc1 _) (by omega) hN3 ?_
  refine g_aloadG_n hx dL_law_546 rfl (nx := 547) rfl rfl ?_
  refine g_callW hx [.ref 3, .int (xs (5 * t + 1)), .ref 10] (k' := k + 9) (n' := n + 568) dL_law_547 (nx := 550) rfl lk_L_127 rfl (Nat.le_of_ble_eq_true rfl) (Nat.le_of_ble_eq_true rfl) (Nat.le_of_ble_eq_true rfl) (Nat.add_le_add_left (Nat.le_of_ble_eq_true rfl) k) (Nat.add_le_add_left (Nat.le_of_ble_eq_true rfl) n) hk9 hn9 (st_threshold hst hR (fun c9 S1 I1 L1 R1 hm1 hk1 => ?_))
  refine g_istore_5 hx dL_law_550 (nx := 552) rfl (by decide) rfl ?_
  refine g_aloadG_n hx dL_law_552 rfl (nx := 553) rfl rfl ?_
  refine g_aloadG_n hx dL_law_553 rfl (nx := 554) rfl rfl ?_
  refine g_iloadG hx dL_law_554 (nx := 556) rfl rfl ?_
  refine g_iconst hx dL_law_556 (nx := 557) rfl (v := 1) (by decide) ?_
  refine g_iadd hx dL_law_557 (nx := 558) rfl ?_
  refine g_scr hx dL_law_558 (nx := 559) rfl hX9 (sc1 _) (by omega) hN3 ?_
  refine g_callV_M hx [.int (xs (5 * t + 1))] (k' := k + 9) (n' := n + 568) dL_law_559 (nx := 562) rfl lk_L_129 hm1.2 (by decide) rfl rfl (Nat.le_of_ble_eq_true rfl) (Nat.le_of_ble_eq_true rfl) (Nat.le_of_ble_eq_true rfl) (Nat.le_refl _) (Nat.le_refl _) hk9 hn9 (hk1 _ (fun b9 I2 L2 hR2 ht2 ha2 => ?_))
  refine g_istore_6 hx dL_law_562 (nx := 564) rfl (by decide) rfl ?_
  refine g_aloadG_n hx dL_law_564 rfl (nx := 565) rfl rfl ?_
  refine g_callV_M hx [] (k' := k + 9) (n' := n + 568) dL_law_565 (nx := 568) rfl lk_L_107 hm1.2 (by decide) rfl rfl (Nat.le_of_ble_eq_true rfl) (Nat.le_of_ble_eq_true rfl) (Nat.le_of_ble_eq_true rfl) (Nat.le_refl _) (Nat.le_refl _) hk9 hn9 (s_X4_thrown hst hR2.ly.1 ?_)
  refine g_iloadG hx dL_law_568 (nx := 570) rfl rfl ?_
  refine g_icmp_eq hx dL_law_570 (tg := 575) (by decide) (nx := 573) rfl (fun c570 => ?_) (fun c570 => ?_)
  · refine g_iloadG hx dL_law_575 (nx := 577) rfl rfl ?_
    refine g_if_ne hx dL_law_577 (tg := 592) (by decide) (nx := 580) rfl (fun c577 => ?_) (fun c577 => ?_)
    · refine g_goto hx dL_law_592 (tg := 1875) (by decide) ?_
      exact go _ _ _ _ _ _ _ hR2
    · refine g_aloadG_n hx dL_law_580 rfl (nx := 581) rfl rfl ?_
      refine g_iconst hx dL_law_581 (nx := 582) rfl (v := 0) (by decide) ?_
      refine g_laload hx dL_law_582 (nx := 583) rfl hm1.1.2.2 (by decide) (vin (by decide)) ?_
      refine g_iloadG hx dL_law_583 (nx := 585) rfl rfl ?_
      refine g_i2l hx dL_law_585 (nx := 586) rfl ?_
      refine g_lcmp hx dL_law_586 (nx := 587) rfl ?_
      refine g_if_eq hx dL_law_587 (tg := 592) (by decide) (nx := 590) rfl (fun c587 => ?_) (fun c587 => ?_)
      · refine g_goto hx dL_law_592 (tg := 1875) (by decide) ?_
        exact go _ _ _ _ _ _ _ hR2
      · exact absurd (by rw [show L2 10 (Int32.toNatClampNeg 0) = _ from ha2 c577]; exact cmp_rf _) c587
  · exact absurd ht2 c570
set_option maxHeartbeats 4000000 in
set_option maxRecDepth 100000 in
theorem lc_6 {p : Program} {l : Launch} {e : Env} {s : State} {m : MethodId} {args : Array Value} {below : List Frame} {meth : Method} {c : Code} {E : aE} {io0 : aM} {S0 : aS} {Q : State → Prop} {S : aS} {I : aI} {L : aL} {Rf : aR} {k n N t : Nat} {xs : Nat → Int32} (hx : aCx p l s m args meth c RL cL_law 8 ret E) (hst : l.stackTraces = false) (hX9 : rlX N xs E io0 S0 s) (hN : 5 * t + 5 ≤ N) (hN3 : N < 2 ^ 31) (hk9 : k + 9 ≤ room_1.cells) (hn9 : n + 568 ≤ room_1.slots) (hR : Rel N xs S I L Rf)
    (go : ∀ (S' : aS) (I' : aI) (L' : aL) (R' : aR) (w5 w6 w7 : Value), Rel N xs S' I' L' R' → aG p l e room_1 s m args below meth c E io0 S0 8 Q 1875 [.ref 1, .ref 3, .ref 20, .ref 10, .int (nI (5 * t)), w5, w6, w7] [] S' I' L' R' (k + 9) (n + 568)) : aG p l e room_1 s m args below meth c E io0 S0 8 Q 595 [.ref 1, .ref 3, .ref 20, .ref 10, .int (nI (5 * t)), aU, aU, aU] [] S I L Rf k n := by
  refine g_aloadG_n hx dL_law_595 rfl (nx := 596) rfl rfl ?_
  refine g_aloadG_n hx dL_law_596 rfl (nx := 597) rfl rfl ?_
  refine g_iloadG hx dL_law_597 (nx := 599) rfl rfl ?_
  refine g_iconst hx dL_law_599 (nx := 600) rfl (v := 1) (by decide) ?_
  refine g_iadd hx dL_law_600 (nx := 601) rfl ?_
  refine g_scr hx dL_law_601 (nx := 602) rfl hX9 (sc1 _) (by omega) hN3 ?_
  refine g_aloadG_n hx dL_law_602 rfl (nx := 603) rfl rfl ?_
  refine g_iloadG hx dL_law_603 (nx := 605) rfl rfl ?_
  refine g_iconst hx dL_law_605 (nx := 606) rfl (v := 2) (by decide) ?_
  refine g_iadd hx dL_law_606 (nx := 607) rfl ?_
  refine g_scr hx dL_law_607 (nx := 608) rfl hX9 (sc2 _) (by omega) hN3 ?_
  refine g_aloadG_n hx dL_law_608 rfl (nx := 609) rfl rfl ?_
  refine g_callW hx [.ref 3, .int (xs (5 * t + 1)), .int (xs (5 * t + 2)), .ref 10] (k' := k + 9) (n' := n + 568) dL_law_609 (nx := 612) rfl lk_L_130 rfl (Nat.le_of_ble_eq_true rfl) (Nat.le_of_ble_eq_true rfl) (Nat.le_of_ble_eq_true rfl) (Nat.add_le_add_left (Nat.le_of_ble_eq_true rfl) k) (Nat.add_le_add_left (Nat.le_of_ble_eq_true rfl) n) hk9 hn9 (st_takeOut hst hR (fun c9 S1 I1 L1 R1 hm1 hk1 => ?_))
  refine g_istore_5 hx dL_law_612 (nx := 614) rfl (by decide) rfl ?_
  refine g_aloadG_n hx dL_law_614 rfl (nx := 615) rfl rfl ?_
  refine g_aloadG_n hx dL_law_615 rfl (nx := 616) rfl rfl ?_
  refine g_iloadG hx dL_law_616 (nx := 618) rfl rfl ?_
  refine g_iconst hx dL_law_618 (nx := 619) rfl (v := 1) (by decide) ?_
  refine g_iadd hx dL_law_619 (nx := 620) rfl ?_
  refine g_scr hx dL_law_620 (nx := 621) rfl hX9 (sc1 _) (by omega) hN3 ?_
  refine g_aloadG_n hx dL_law_621 rfl (nx := 622) rfl rfl ?_
  refine g_iloadG hx dL_law_622 (nx := 624) rfl rfl ?_
  refine g_iconst hx dL_law_624 (nx := 625) rfl (v := 2) (by decide) ?_
  refine g_iadd hx dL_law_625 (nx := 626) rfl ?_
  refine g_scr hx dL_law_626 (nx := 627) rfl hX9 (sc2 _) (by omega) hN3 ?_
  refine g_callV_M hx [.int (xs (5 * t + 1)), .int (xs (5 * t + 2))] (k' := k + 9) (n' := n + 568) dL_law_627 (nx := 630) rfl lk_L_132 hm1.2 (by decide) rfl rfl (Nat.le_of_ble_eq_true rfl) (Nat.le_of_ble_eq_true rfl) (Nat.le_of_ble_eq_true rfl) (Nat.le_refl _) (Nat.le_refl _) hk9 hn9 (hk1 _ (fun b9 I2 L2 hR2 ht2 ha2 => ?_))
  refine g_istore_6 hx dL_law_630 (nx := 632) rfl (by decide) rfl ?_
  refine g_aloadG_n hx dL_law_632 rfl (nx := 633) rfl rfl ?_
  refine g_callV_M hx [] (k' := k + 9) (n' := n + 568) dL_law_633 (nx := 636) rfl lk_L_107 hm1.2 (by decide) rfl rfl (Nat.le_of_ble_eq_true rfl) (Nat.le_of_ble_eq_true rfl) (Nat.le_of_ble_eq_true rfl) (Nat.le_refl _) (Nat.le_refl _) hk9 hn9 (s_X4_thrown hst hR2.ly.1 ?_)
  refine g_iloadG hx dL_law_636 (nx := 638) rfl rfl ?_
  refine g_icmp_eq hx dL_law_638 (tg := 643) (by decide) (nx := 641) rfl (fun c638 => ?_) (fun c638 => ?_)
  · refine g_iloadG hx dL_law_643 (nx := 645) rfl rfl ?_
    refine g_if_ne hx dL_law_645 (tg := 660) (by decide) (nx := 648) rfl (fun c645 => ?_) (fun c645 => ?_)
    · refine g_goto hx dL_law_660 (tg := 1875) (by decide) ?_
      exact go _ _ _ _ _ _ _ hR2
    · refine g_aloadG_n hx dL_law_648 rfl (nx := 649) rfl rfl ?_
      refine g_iconst hx dL_law_649 (nx := 650) rfl (v := 0) (by decide) ?_
      refine g_laload hx dL_law_650 (nx := 651) rfl hm1.1.2.2 (by decide) (vin (by decide)) ?_
      refine g_iloadG hx dL_law_651 (nx := 653) rfl rfl ?_
      refine g_i2l hx dL_law_653 (nx := 654) rfl ?_
      refine g_lcmp hx dL_law_654 (nx := 655) rfl ?_
      refine g_if_eq hx dL_law_655 (tg := 660) (by decide) (nx := 658) rfl (fun c655 => ?_) (fun c655 => ?_)
      · refine g_goto hx dL_law_660 (tg := 1875) (by decide) ?_
        exact go _ _ _ _ _ _ _ hR2
      · exact absurd (by rw [show L2 10 (Int32.toNatClampNeg 0) = _ from ha2 c645]; exact cmp_rf _) c655
  · exact absurd ht2 c638
set_option maxHeartbeats 4000000 in
set_option maxRecDepth 100000 in
theorem lc_7 {p : Program} {l : Launch} {e : Env} {s : State} {m : MethodId} {args : Array Value} {below : List Frame} {meth : Method} {c : Code} {E : aE} {io0 : aM} {S0 : aS} {Q : State → Prop} {S : aS} {I : aI} {L : aL} {Rf : aR} {k n N t : Nat} {xs : Nat → Int32} (hx : aCx p l s m args meth c RL cL_law 8 ret E) (hst : l.stackTraces = false) (hX9 : rlX N xs E io0 S0 s) (hN : 5 * t + 5 ≤ N) (hN3 : N < 2 ^ 31) (hk9 : k + 9 ≤ room_1.cells) (hn9 : n + 568 ≤ room_1.slots) (hR : Rel N xs S I L Rf)
    (go : ∀ (S' : aS) (I' : aI) (L' : aL) (R' : aR) (w5 w6 w7 : Value), Rel N xs S' I' L' R' → aG p l e room_1 s m args below meth c E io0 S0 8 Q 1875 [.ref 1, .ref 3, .ref 20, .ref 10, .int (nI (5 * t)), w5, w6, w7] [] S' I' L' R' (k + 9) (n + 568)) : aG p l e room_1 s m args below meth c E io0 S0 8 Q 663 [.ref 1, .ref 3, .ref 20, .ref 10, .int (nI (5 * t)), aU, aU, aU] [] S I L Rf k n := by
  refine g_aloadG_n hx dL_law_663 rfl (nx := 664) rfl rfl ?_
  refine g_aloadG_n hx dL_law_664 rfl (nx := 665) rfl rfl ?_
  refine g_iloadG hx dL_law_665 (nx := 667) rfl rfl ?_
  refine g_iconst hx dL_law_667 (nx := 668) rfl (v := 1) (by decide) ?_
  refine g_iadd hx dL_law_668 (nx := 669) rfl ?_
  refine g_scr hx dL_law_669 (nx := 670) rfl hX9 (sc1 _) (by omega) hN3 ?_
  refine g_aloadG_n hx dL_law_670 rfl (nx := 671) rfl rfl ?_
  refine g_callW hx [.ref 3, .int (xs (5 * t + 1)), .ref 10] (k' := k + 9) (n' := n + 568) dL_law_671 (nx := 674) rfl lk_L_133 rfl (Nat.le_of_ble_eq_true rfl) (Nat.le_of_ble_eq_true rfl) (Nat.le_of_ble_eq_true rfl) (Nat.add_le_add_left (Nat.le_of_ble_eq_true rfl) k) (Nat.add_le_add_left (Nat.le_of_ble_eq_true rfl) n) hk9 hn9 (st_putBack hst hR (fun c9 S1 I1 L1 R1 hm1 hk1 => ?_))
  refine g_istore_5 hx dL_law_674 (nx := 676) rfl (by decide) rfl ?_
  refine g_aloadG_n hx dL_law_676 rfl (nx := 677) rfl rfl ?_
  refine g_aloadG_n hx dL_law_677 rfl (nx := 678) rfl rfl ?_
  refine g_iloadG hx dL_law_678 (nx := 680) rfl rfl ?_
  refine g_iconst hx dL_law_680 (nx := 681) rfl (v := 1) (by decide) ?_
  refine g_iadd hx dL_law_681 (nx := 682) rfl ?_
  refine g_scr hx dL_law_682 (nx := 683) rfl hX9 (sc1 _) (by omega) hN3 ?_
  refine g_callV_M hx [.int (xs (5 * t + 1))] (k' := k + 9) (n' := n + 568) dL_law_683 (nx := 686) rfl lk_L_135 hm1.2 (by decide) rfl rfl (Nat.le_of_ble_eq_true rfl) (Nat.le_of_ble_eq_true rfl) (Nat.le_of_ble_eq_true rfl) (Nat.le_refl _) (Nat.le_refl _) hk9 hn9 (hk1 _ (fun b9 I2 L2 hR2 ht2 ha2 => ?_))
  refine g_istore_6 hx dL_law_686 (nx := 688) rfl (by decide) rfl ?_
  refine g_aloadG_n hx dL_law_688 rfl (nx := 689) rfl rfl ?_
  refine g_callV_M hx [] (k' := k + 9) (n' := n + 568) dL_law_689 (nx := 692) rfl lk_L_107 hm1.2 (by decide) rfl rfl (Nat.le_of_ble_eq_true rfl) (Nat.le_of_ble_eq_true rfl) (Nat.le_of_ble_eq_true rfl) (Nat.le_refl _) (Nat.le_refl _) hk9 hn9 (s_X4_thrown hst hR2.ly.1 ?_)
  refine g_iloadG hx dL_law_692 (nx := 694) rfl rfl ?_
  refine g_icmp_eq hx dL_law_694 (tg := 699) (by decide) (nx := 697) rfl (fun c694 => ?_) (fun c694 => ?_)
  · refine g_iloadG hx dL_law_699 (nx := 701) rfl rfl ?_
    refine g_if_ne hx dL_law_701 (tg := 716) (by decide) (nx := 704) rfl (fun c701 => ?_) (fun c701 => ?_)
    · refine g_goto hx dL_law_716 (tg := 1875) (by decide) ?_
      exact go _ _ _ _ _ _ _ hR2
    · refine g_aloadG_n hx dL_law_704 rfl (nx := 705) rfl rfl ?_
      refine g_iconst hx dL_law_705 (nx := 706) rfl (v := 0) (by decide) ?_
      refine g_laload hx dL_law_706 (nx := 707) rfl hm1.1.2.2 (by decide) (vin (by decide)) ?_
      refine g_iloadG hx dL_law_707 (nx := 709) rfl rfl ?_
      refine g_i2l hx dL_law_709 (nx := 710) rfl ?_
      refine g_lcmp hx dL_law_710 (nx := 711) rfl ?_
      refine g_if_eq hx dL_law_711 (tg := 716) (by decide) (nx := 714) rfl (fun c711 => ?_) (fun c711 => ?_)
      · refine g_goto hx dL_law_716 (tg := 1875) (by decide) ?_
        exact go _ _ _ _ _ _ _ hR2
      · exact absurd (by rw [show L2 10 (Int32.toNatClampNeg 0) = _ from ha2 c701]; exact cmp_rf _) c711
  · exact absurd ht2 c694
set_option maxHeartbeats 4000000 in
set_option maxRecDepth 100000 in
theorem lc_8 {p : Program} {l : Launch} {e : Env} {s : State} {m : MethodId} {args : Array Value} {below : List Frame} {meth : Method} {c : Code} {E : aE} {io0 : aM} {S0 : aS} {Q : State → Prop} {S : aS} {I : aI} {L : aL} {Rf : aR} {k n N t : Nat} {xs : Nat → Int32} (hx : aCx p l s m args meth c RL cL_law 8 ret E) (hst : l.stackTraces = false) (hX9 : rlX N xs E io0 S0 s) (hN : 5 * t + 5 ≤ N) (hN3 : N < 2 ^ 31) (hk9 : k + 9 ≤ room_1.cells) (hn9 : n + 568 ≤ room_1.slots) (hR : Rel N xs S I L Rf)
    (go : ∀ (S' : aS) (I' : aI) (L' : aL) (R' : aR) (w5 w6 w7 : Value), Rel N xs S' I' L' R' → aG p l e room_1 s m args below meth c E io0 S0 8 Q 1875 [.ref 1, .ref 3, .ref 20, .ref 10, .int (nI (5 * t)), w5, w6, w7] [] S' I' L' R' (k + 9) (n + 568)) : aG p l e room_1 s m args below meth c E io0 S0 8 Q 719 [.ref 1, .ref 3, .ref 20, .ref 10, .int (nI (5 * t)), aU, aU, aU] [] S I L Rf k n := by
  refine g_aloadG_n hx dL_law_719 rfl (nx := 720) rfl rfl ?_
  refine g_aloadG_n hx dL_law_720 rfl (nx := 721) rfl rfl ?_
  refine g_iloadG hx dL_law_721 (nx := 723) rfl rfl ?_
  refine g_iconst hx dL_law_723 (nx := 724) rfl (v := 1) (by decide) ?_
  refine g_iadd hx dL_law_724 (nx := 725) rfl ?_
  refine g_scr hx dL_law_725 (nx := 726) rfl hX9 (sc1 _) (by omega) hN3 ?_
  refine g_aloadG_n hx dL_law_726 rfl (nx := 727) rfl rfl ?_
  refine g_iloadG hx dL_law_727 (nx := 729) rfl rfl ?_
  refine g_iconst hx dL_law_729 (nx := 730) rfl (v := 2) (by decide) ?_
  refine g_iadd hx dL_law_730 (nx := 731) rfl ?_
  refine g_scr hx dL_law_731 (nx := 732) rfl hX9 (sc2 _) (by omega) hN3 ?_
  refine g_aloadG_n hx dL_law_732 rfl (nx := 733) rfl rfl ?_
  refine g_iloadG hx dL_law_733 (nx := 735) rfl rfl ?_
  refine g_iconst hx dL_law_735 (nx := 736) rfl (v := 3) (by decide) ?_
  refine g_iadd hx dL_law_736 (nx := 737) rfl ?_
  refine g_scr hx dL_law_737 (nx := 738) rfl hX9 (sc3 _) (by omega) hN3 ?_
  refine g_aloadG_n hx dL_law_738 rfl (nx := 739) rfl rfl ?_
  refine g_callW hx [.ref 3, .int (xs (5 * t + 1)), .int (xs (5 * t + 2)), .int (xs (5 * t + 3)), .ref 10] (k' := k + 9) (n' := n + 568) dL_law_739 (nx := 742) rfl lk_L_136 rfl (Nat.le_of_ble_eq_true rfl) (Nat.le_of_ble_eq_true rfl) (Nat.le_of_ble_eq_true rfl) (Nat.add_le_add_left (Nat.le_of_ble_eq_true rfl) k) (Nat.add_le_add_left (Nat.le_of_ble_eq_true rfl) n) hk9 hn9 (st_claimTone hst hR (fun c9 S1 I1 L1 R1 hm1 hk1 => ?_))
  refine g_istore_5 hx dL_law_742 (nx := 744) rfl (by decide) rfl ?_
  refine g_aloadG_n hx dL_law_744 rfl (nx := 745) rfl rfl ?_
  refine g_aloadG_n hx dL_law_745 rfl (nx := 746) rfl rfl ?_
  refine g_iloadG hx dL_law_746 (nx := 748) rfl rfl ?_
  refine g_iconst hx dL_law_748 (nx := 749) rfl (v := 1) (by decide) ?_
  refine g_iadd hx dL_law_749 (nx := 750) rfl ?_
  refine g_scr hx dL_law_750 (nx := 751) rfl hX9 (sc1 _) (by omega) hN3 ?_
  refine g_aloadG_n hx dL_law_751 rfl (nx := 752) rfl rfl ?_
  refine g_iloadG hx dL_law_752 (nx := 754) rfl rfl ?_
  refine g_iconst hx dL_law_754 (nx := 755) rfl (v := 2) (by decide) ?_
  refine g_iadd hx dL_law_755 (nx := 756) rfl ?_
  refine g_scr hx dL_law_756 (nx := 757) rfl hX9 (sc2 _) (by omega) hN3 ?_
  refine g_aloadG_n hx dL_law_757 rfl (nx := 758) rfl rfl ?_
  refine g_iloadG hx dL_law_758 (nx := 760) rfl rfl ?_
  refine g_iconst hx dL_law_760 (nx := 761) rfl (v := 3) (by decide) ?_
  refine g_iadd hx dL_law_761 (nx := 762) rfl ?_
  refine g_scr hx dL_law_762 (nx := 763) rfl hX9 (sc3 _) (by omega) hN3 ?_
  refine g_callV_M hx [.int (xs (5 * t + 1)), .int (xs (5 * t + 2)), .int (xs (5 * t + 3))] (k' := k + 9) (n' := n + 568) dL_law_763 (nx := 766) rfl lk_L_138 hm1.2 (by decide) rfl rfl (Nat.le_of_ble_eq_true rfl) (Nat.le_of_ble_eq_true rfl) (Nat.le_of_ble_eq_true rfl) (Nat.le_refl _) (Nat.le_refl _) hk9 hn9 (hk1 _ (fun b9 I2 L2 hR2 ht2 ha2 => ?_))
  refine g_istore_6 hx dL_law_766 (nx := 768) rfl (by decide) rfl ?_
  refine g_aloadG_n hx dL_law_768 rfl (nx := 769) rfl rfl ?_
  refine g_callV_M hx [] (k' := k + 9) (n' := n + 568) dL_law_769 (nx := 772) rfl lk_L_107 hm1.2 (by decide) rfl rfl (Nat.le_of_ble_eq_true rfl) (Nat.le_of_ble_eq_true rfl) (Nat.le_of_ble_eq_true rfl) (Nat.le_refl _) (Nat.le_refl _) hk9 hn9 (s_X4_thrown hst hR2.ly.1 ?_)
  refine g_iloadG hx dL_law_772 (nx := 774) rfl rfl ?_
  refine g_icmp_eq hx dL_law_774 (tg := 779) (by decide) (nx := 777) rfl (fun c774 => ?_) (fun c774 => ?_)
  · refine g_iloadG hx dL_law_779 (nx := 781) rfl rfl ?_
    refine g_if_ne hx dL_law_781 (tg := 796) (by decide) (nx := 784) rfl (fun c781 => ?_) (fun c781 => ?_)
    · refine g_goto hx dL_law_796 (tg := 1875) (by decide) ?_
      exact go _ _ _ _ _ _ _ hR2
    · refine g_aloadG_n hx dL_law_784 rfl (nx := 785) rfl rfl ?_
      refine g_iconst hx dL_law_785 (nx := 786) rfl (v := 0) (by decide) ?_
      refine g_laload hx dL_law_786 (nx := 787) rfl hm1.1.2.2 (by decide) (vin (by decide)) ?_
      refine g_iloadG hx dL_law_787 (nx := 789) rfl rfl ?_
      refine g_i2l hx dL_law_789 (nx := 790) rfl ?_
      refine g_lcmp hx dL_law_790 (nx := 791) rfl ?_
      refine g_if_eq hx dL_law_791 (tg := 796) (by decide) (nx := 794) rfl (fun c791 => ?_) (fun c791 => ?_)
      · refine g_goto hx dL_law_796 (tg := 1875) (by decide) ?_
        exact go _ _ _ _ _ _ _ hR2
      · exact absurd (by rw [show L2 10 (Int32.toNatClampNeg 0) = _ from ha2 c781]; exact cmp_rf _) c791
  · exact absurd ht2 c774
set_option maxHeartbeats 4000000 in
set_option maxRecDepth 100000 in
theorem lc_9 {p : Program} {l : Launch} {e : Env} {s : State} {m : MethodId} {args : Array Value} {below : List Frame} {meth : Method} {c : Code} {E : aE} {io0 : aM} {S0 : aS} {Q : State → Prop} {S : aS} {I : aI} {L : aL} {Rf : aR} {k n N t : Nat} {xs : Nat → Int32} (hx : aCx p l s m args meth c RL cL_law 8 ret E) (hst : l.stackTraces = false) (hX9 : rlX N xs E io0 S0 s) (hN : 5 * t + 5 ≤ N) (hN3 : N < 2 ^ 31) (hk9 : k + 9 ≤ room_1.cells) (hn9 : n + 568 ≤ room_1.slots) (hR : Rel N xs S I L Rf)
    (go : ∀ (S' : aS) (I' : aI) (L' : aL) (R' : aR) (w5 w6 w7 : Value), Rel N xs S' I' L' R' → aG p l e room_1 s m args below meth c E io0 S0 8 Q 1875 [.ref 1, .ref 3, .ref 20, .ref 10, .int (nI (5 * t)), w5, w6, w7] [] S' I' L' R' (k + 9) (n + 568)) : aG p l e room_1 s m args below meth c E io0 S0 8 Q 799 [.ref 1, .ref 3, .ref 20, .ref 10, .int (nI (5 * t)), aU, aU, aU] [] S I L Rf k n := by
  refine g_aloadG_n hx dL_law_799 rfl (nx := 800) rfl rfl ?_
  refine g_aloadG_n hx dL_law_800 rfl (nx := 801) rfl rfl ?_
  refine g_iloadG hx dL_law_801 (nx := 803) rfl rfl ?_
  refine g_iconst hx dL_law_803 (nx := 804) rfl (v := 1) (by decide) ?_
  refine g_iadd hx dL_law_804 (nx := 805) rfl ?_
  refine g_scr hx dL_law_805 (nx := 806) rfl hX9 (sc1 _) (by omega) hN3 ?_
  refine g_aloadG_n hx dL_law_806 rfl (nx := 807) rfl rfl ?_
  refine g_iloadG hx dL_law_807 (nx := 809) rfl rfl ?_
  refine g_iconst hx dL_law_809 (nx := 810) rfl (v := 2) (by decide) ?_
  refine g_iadd hx dL_law_810 (nx := 811) rfl ?_
  refine g_scr hx dL_law_811 (nx := 812) rfl hX9 (sc2 _) (by omega) hN3 ?_
  refine g_aloadG_n hx dL_law_812 rfl (nx := 813) rfl rfl ?_
  refine g_callW hx [.ref 3, .int (xs (5 * t + 1)), .int (xs (5 * t + 2)), .ref 10] (k' := k + 9) (n' := n + 568) dL_law_813 (nx := 816) rfl lk_L_139 rfl (Nat.le_of_ble_eq_true rfl) (Nat.le_of_ble_eq_true rfl) (Nat.le_of_ble_eq_true rfl) (Nat.add_le_add_left (Nat.le_of_ble_eq_true rfl) k) (Nat.add_le_add_left (Nat.le_of_ble_eq_true rfl) n) hk9 hn9 (st_claimAge hst hR (fun c9 S1 I1 L1 R1 hm1 hk1 => ?_))
  refine g_istore_5 hx dL_law_816 (nx := 818) rfl (by decide) rfl ?_
  refine g_aloadG_n hx dL_law_818 rfl (nx := 819) rfl rfl ?_
  refine g_aloadG_n hx dL_law_819 rfl (nx := 820) rfl rfl ?_
  refine g_iloadG hx dL_law_820 (nx := 822) rfl rfl ?_
  refine g_iconst hx dL_law_822 (nx := 823) rfl (v := 1) (by decide) ?_
  refine g_iadd hx dL_law_823 (nx := 824) rfl ?_
  refine g_scr hx dL_law_824 (nx := 825) rfl hX9 (sc1 _) (by omega) hN3 ?_
  refine g_aloadG_n hx dL_law_825 rfl (nx := 826) rfl rfl ?_
  refine g_iloadG hx dL_law_826 (nx := 828) rfl rfl ?_
  refine g_iconst hx dL_law_828 (nx := 829) rfl (v := 2) (by decide) ?_
  refine g_iadd hx dL_law_829 (nx := 830) rfl ?_
  refine g_scr hx dL_law_830 (nx := 831) rfl hX9 (sc2 _) (by omega) hN3 ?_
  refine g_callV_M hx [.int (xs (5 * t + 1)), .int (xs (5 * t + 2))] (k' := k + 9) (n' := n + 568) dL_law_831 (nx := 834) rfl lk_L_141 hm1.2 (by decide) rfl rfl (Nat.le_of_ble_eq_true rfl) (Nat.le_of_ble_eq_true rfl) (Nat.le_of_ble_eq_true rfl) (Nat.le_refl _) (Nat.le_refl _) hk9 hn9 (hk1 _ (fun b9 I2 L2 hR2 ht2 ha2 => ?_))
  refine g_istore_6 hx dL_law_834 (nx := 836) rfl (by decide) rfl ?_
  refine g_aloadG_n hx dL_law_836 rfl (nx := 837) rfl rfl ?_
  refine g_callV_M hx [] (k' := k + 9) (n' := n + 568) dL_law_837 (nx := 840) rfl lk_L_107 hm1.2 (by decide) rfl rfl (Nat.le_of_ble_eq_true rfl) (Nat.le_of_ble_eq_true rfl) (Nat.le_of_ble_eq_true rfl) (Nat.le_refl _) (Nat.le_refl _) hk9 hn9 (s_X4_thrown hst hR2.ly.1 ?_)
  refine g_iloadG hx dL_law_840 (nx := 842) rfl rfl ?_
  refine g_icmp_eq hx dL_law_842 (tg := 847) (by decide) (nx := 845) rfl (fun c842 => ?_) (fun c842 => ?_)
  · refine g_iloadG hx dL_law_847 (nx := 849) rfl rfl ?_
    refine g_if_ne hx dL_law_849 (tg := 864) (by decide) (nx := 852) rfl (fun c849 => ?_) (fun c849 => ?_)
    · refine g_goto hx dL_law_864 (tg := 1875) (by decide) ?_
      exact go _ _ _ _ _ _ _ hR2
    · refine g_aloadG_n hx dL_law_852 rfl (nx := 853) rfl rfl ?_
      refine g_iconst hx dL_law_853 (nx := 854) rfl (v := 0) (by decide) ?_
      refine g_laload hx dL_law_854 (nx := 855) rfl hm1.1.2.2 (by decide) (vin (by decide)) ?_
      refine g_iloadG hx dL_law_855 (nx := 857) rfl rfl ?_
      refine g_i2l hx dL_law_857 (nx := 858) rfl ?_
      refine g_lcmp hx dL_law_858 (nx := 859) rfl ?_
      refine g_if_eq hx dL_law_859 (tg := 864) (by decide) (nx := 862) rfl (fun c859 => ?_) (fun c859 => ?_)
      · refine g_goto hx dL_law_864 (tg := 1875) (by decide) ?_
        exact go _ _ _ _ _ _ _ hR2
      · exact absurd (by rw [show L2 10 (Int32.toNatClampNeg 0) = _ from ha2 c849]; exact cmp_rf _) c859
  · exact absurd ht2 c842
set_option maxHeartbeats 4000000 in
set_option maxRecDepth 100000 in
theorem lc_10 {p : Program} {l : Launch} {e : Env} {s : State} {m : MethodId} {args : Array Value} {below : List Frame} {meth : Method} {c : Code} {E : aE} {io0 : aM} {S0 : aS} {Q : State → Prop} {S : aS} {I : aI} {L : aL} {Rf : aR} {k n N t : Nat} {xs : Nat → Int32} (hx : aCx p l s m args meth c RL cL_law 8 ret E) (hst : l.stackTraces = false) (hX9 : rlX N xs E io0 S0 s) (hN : 5 * t + 5 ≤ N) (hN3 : N < 2 ^ 31) (hk9 : k + 9 ≤ room_1.cells) (hn9 : n + 568 ≤ room_1.slots) (hR : Rel N xs S I L Rf)
    (go : ∀ (S' : aS) (I' : aI) (L' : aL) (R' : aR) (w5 w6 w7 : Value), Rel N xs S' I' L' R' → aG p l e room_1 s m args below meth c E io0 S0 8 Q 1875 [.ref 1, .ref 3, .ref 20, .ref 10, .int (nI (5 * t)), w5, w6, w7] [] S' I' L' R' (k + 9) (n + 568)) : aG p l e room_1 s m args below meth c E io0 S0 8 Q 867 [.ref 1, .ref 3, .ref 20, .ref 10, .int (nI (5 * t)), aU, aU, aU] [] S I L Rf k n := by
  refine g_aloadG_n hx dL_law_867 rfl (nx := 868) rfl rfl ?_
  refine g_aloadG_n hx dL_law_868 rfl (nx := 869) rfl rfl ?_
  refine g_iloadG hx dL_law_869 (nx := 871) rfl rfl ?_
  refine g_iconst hx dL_law_871 (nx := 872) rfl (v := 1) (by decide) ?_
  refine g_iadd hx dL_law_872 (nx := 873) rfl ?_
  refine g_scr hx dL_law_873 (nx := 874) rfl hX9 (sc1 _) (by omega) hN3 ?_
  refine g_aloadG_n hx dL_law_874 rfl (nx := 875) rfl rfl ?_
  refine g_callW hx [.ref 3, .int (xs (5 * t + 1)), .ref 10] (k' := k + 9) (n' := n + 568) dL_law_875 (nx := 878) rfl lk_L_142 rfl (Nat.le_of_ble_eq_true rfl) (Nat.le_of_ble_eq_true rfl) (Nat.le_of_ble_eq_true rfl) (Nat.add_le_add_left (Nat.le_of_ble_eq_true rfl) k) (Nat.add_le_add_left (Nat.le_of_ble_eq_true rfl) n) hk9 hn9 (st_claimPlanet hst hR (fun c9 S1 I1 L1 R1 hm1 hk1 => ?_))
  refine g_istore_5 hx dL_law_878 (nx := 880) rfl (by decide) rfl ?_
  refine g_aloadG_n hx dL_law_880 rfl (nx := 881) rfl rfl ?_
  refine g_aloadG_n hx dL_law_881 rfl (nx := 882) rfl rfl ?_
  refine g_iloadG hx dL_law_882 (nx := 884) rfl rfl ?_
  refine g_iconst hx dL_law_884 (nx := 885) rfl (v := 1) (by decide) ?_
  refine g_iadd hx dL_law_885 (nx := 886) rfl ?_
  refine g_scr hx dL_law_886 (nx := 887) rfl hX9 (sc1 _) (by omega) hN3 ?_
  refine g_callV_M hx [.int (xs (5 * t + 1))] (k' := k + 9) (n' := n + 568) dL_law_887 (nx := 890) rfl lk_L_144 hm1.2 (by decide) rfl rfl (Nat.le_of_ble_eq_true rfl) (Nat.le_of_ble_eq_true rfl) (Nat.le_of_ble_eq_true rfl) (Nat.le_refl _) (Nat.le_refl _) hk9 hn9 (hk1 _ (fun b9 I2 L2 hR2 ht2 ha2 => ?_))
  refine g_istore_6 hx dL_law_890 (nx := 892) rfl (by decide) rfl ?_
  refine g_aloadG_n hx dL_law_892 rfl (nx := 893) rfl rfl ?_
  refine g_callV_M hx [] (k' := k + 9) (n' := n + 568) dL_law_893 (nx := 896) rfl lk_L_107 hm1.2 (by decide) rfl rfl (Nat.le_of_ble_eq_true rfl) (Nat.le_of_ble_eq_true rfl) (Nat.le_of_ble_eq_true rfl) (Nat.le_refl _) (Nat.le_refl _) hk9 hn9 (s_X4_thrown hst hR2.ly.1 ?_)
  refine g_iloadG hx dL_law_896 (nx := 898) rfl rfl ?_
  refine g_icmp_eq hx dL_law_898 (tg := 903) (by decide) (nx := 901) rfl (fun c898 => ?_) (fun c898 => ?_)
  · refine g_iloadG hx dL_law_903 (nx := 905) rfl rfl ?_
    refine g_if_ne hx dL_law_905 (tg := 920) (by decide) (nx := 908) rfl (fun c905 => ?_) (fun c905 => ?_)
    · refine g_goto hx dL_law_920 (tg := 1875) (by decide) ?_
      exact go _ _ _ _ _ _ _ hR2
    · refine g_aloadG_n hx dL_law_908 rfl (nx := 909) rfl rfl ?_
      refine g_iconst hx dL_law_909 (nx := 910) rfl (v := 0) (by decide) ?_
      refine g_laload hx dL_law_910 (nx := 911) rfl hm1.1.2.2 (by decide) (vin (by decide)) ?_
      refine g_iloadG hx dL_law_911 (nx := 913) rfl rfl ?_
      refine g_i2l hx dL_law_913 (nx := 914) rfl ?_
      refine g_lcmp hx dL_law_914 (nx := 915) rfl ?_
      refine g_if_eq hx dL_law_915 (tg := 920) (by decide) (nx := 918) rfl (fun c915 => ?_) (fun c915 => ?_)
      · refine g_goto hx dL_law_920 (tg := 1875) (by decide) ?_
        exact go _ _ _ _ _ _ _ hR2
      · exact absurd (by rw [show L2 10 (Int32.toNatClampNeg 0) = _ from ha2 c905]; exact cmp_rf _) c915
  · exact absurd ht2 c898
set_option maxHeartbeats 4000000 in
set_option maxRecDepth 100000 in
theorem lc_11 {p : Program} {l : Launch} {e : Env} {s : State} {m : MethodId} {args : Array Value} {below : List Frame} {meth : Method} {c : Code} {E : aE} {io0 : aM} {S0 : aS} {Q : State → Prop} {S : aS} {I : aI} {L : aL} {Rf : aR} {k n N t : Nat} {xs : Nat → Int32} (hx : aCx p l s m args meth c RL cL_law 8 ret E) (hst : l.stackTraces = false) (hX9 : rlX N xs E io0 S0 s) (hN : 5 * t + 5 ≤ N) (hN3 : N < 2 ^ 31) (hk9 : k + 9 ≤ room_1.cells) (hn9 : n + 568 ≤ room_1.slots) (hR : Rel N xs S I L Rf)
    (go : ∀ (S' : aS) (I' : aI) (L' : aL) (R' : aR) (w5 w6 w7 : Value), Rel N xs S' I' L' R' → aG p l e room_1 s m args below meth c E io0 S0 8 Q 1875 [.ref 1, .ref 3, .ref 20, .ref 10, .int (nI (5 * t)), w5, w6, w7] [] S' I' L' R' (k + 9) (n + 568)) : aG p l e room_1 s m args below meth c E io0 S0 8 Q 923 [.ref 1, .ref 3, .ref 20, .ref 10, .int (nI (5 * t)), aU, aU, aU] [] S I L Rf k n := by
  refine g_aloadG_n hx dL_law_923 rfl (nx := 924) rfl rfl ?_
  refine g_aloadG_n hx dL_law_924 rfl (nx := 925) rfl rfl ?_
  refine g_iloadG hx dL_law_925 (nx := 927) rfl rfl ?_
  refine g_iconst hx dL_law_927 (nx := 928) rfl (v := 1) (by decide) ?_
  refine g_iadd hx dL_law_928 (nx := 929) rfl ?_
  refine g_scr hx dL_law_929 (nx := 930) rfl hX9 (sc1 _) (by omega) hN3 ?_
  refine g_aloadG_n hx dL_law_930 rfl (nx := 931) rfl rfl ?_
  refine g_iloadG hx dL_law_931 (nx := 933) rfl rfl ?_
  refine g_iconst hx dL_law_933 (nx := 934) rfl (v := 2) (by decide) ?_
  refine g_iadd hx dL_law_934 (nx := 935) rfl ?_
  refine g_scr hx dL_law_935 (nx := 936) rfl hX9 (sc2 _) (by omega) hN3 ?_
  refine g_aloadG_n hx dL_law_936 rfl (nx := 937) rfl rfl ?_
  refine g_callW hx [.ref 3, .int (xs (5 * t + 1)), .int (xs (5 * t + 2)), .ref 10] (k' := k + 9) (n' := n + 568) dL_law_937 (nx := 940) rfl lk_L_145 rfl (Nat.le_of_ble_eq_true rfl) (Nat.le_of_ble_eq_true rfl) (Nat.le_of_ble_eq_true rfl) (Nat.add_le_add_left (Nat.le_of_ble_eq_true rfl) k) (Nat.add_le_add_left (Nat.le_of_ble_eq_true rfl) n) hk9 hn9 (st_cite hst hR (fun c9 S1 I1 L1 R1 hm1 hk1 => ?_))
  refine g_istore_5 hx dL_law_940 (nx := 942) rfl (by decide) rfl ?_
  refine g_aloadG_n hx dL_law_942 rfl (nx := 943) rfl rfl ?_
  refine g_aloadG_n hx dL_law_943 rfl (nx := 944) rfl rfl ?_
  refine g_iloadG hx dL_law_944 (nx := 946) rfl rfl ?_
  refine g_iconst hx dL_law_946 (nx := 947) rfl (v := 1) (by decide) ?_
  refine g_iadd hx dL_law_947 (nx := 948) rfl ?_
  refine g_scr hx dL_law_948 (nx := 949) rfl hX9 (sc1 _) (by omega) hN3 ?_
  refine g_aloadG_n hx dL_law_949 rfl (nx := 950) rfl rfl ?_
  refine g_iloadG hx dL_law_950 (nx := 952) rfl rfl ?_
  refine g_iconst hx dL_law_952 (nx := 953) rfl (v := 2) (by decide) ?_
  refine g_iadd hx dL_law_953 (nx := 954) rfl ?_
  refine g_scr hx dL_law_954 (nx := 955) rfl hX9 (sc2 _) (by omega) hN3 ?_
  refine g_callV_M hx [.int (xs (5 * t + 1)), .int (xs (5 * t + 2))] (k' := k + 9) (n' := n + 568) dL_law_955 (nx := 958) rfl lk_L_147 hm1.2 (by decide) rfl rfl (Nat.le_of_ble_eq_true rfl) (Nat.le_of_ble_eq_true rfl) (Nat.le_of_ble_eq_true rfl) (Nat.le_refl _) (Nat.le_refl _) hk9 hn9 (hk1 _ (fun b9 I2 L2 hR2 ht2 ha2 => ?_))
  refine g_istore_6 hx dL_law_958 (nx := 960) rfl (by decide) rfl ?_
  refine g_aloadG_n hx dL_law_960 rfl (nx := 961) rfl rfl ?_
  refine g_callV_M hx [] (k' := k + 9) (n' := n + 568) dL_law_961 (nx := 964) rfl lk_L_107 hm1.2 (by decide) rfl rfl (Nat.le_of_ble_eq_true rfl) (Nat.le_of_ble_eq_true rfl) (Nat.le_of_ble_eq_true rfl) (Nat.le_refl _) (Nat.le_refl _) hk9 hn9 (s_X4_thrown hst hR2.ly.1 ?_)
  refine g_iloadG hx dL_law_964 (nx := 966) rfl rfl ?_
  refine g_icmp_eq hx dL_law_966 (tg := 971) (by decide) (nx := 969) rfl (fun c966 => ?_) (fun c966 => ?_)
  · refine g_iloadG hx dL_law_971 (nx := 973) rfl rfl ?_
    refine g_if_ne hx dL_law_973 (tg := 988) (by decide) (nx := 976) rfl (fun c973 => ?_) (fun c973 => ?_)
    · refine g_goto hx dL_law_988 (tg := 1875) (by decide) ?_
      exact go _ _ _ _ _ _ _ hR2
    · refine g_aloadG_n hx dL_law_976 rfl (nx := 977) rfl rfl ?_
      refine g_iconst hx dL_law_977 (nx := 978) rfl (v := 0) (by decide) ?_
      refine g_laload hx dL_law_978 (nx := 979) rfl hm1.1.2.2 (by decide) (vin (by decide)) ?_
      refine g_iloadG hx dL_law_979 (nx := 981) rfl rfl ?_
      refine g_i2l hx dL_law_981 (nx := 982) rfl ?_
      refine g_lcmp hx dL_law_982 (nx := 983) rfl ?_
      refine g_if_eq hx dL_law_983 (tg := 988) (by decide) (nx := 986) rfl (fun c983 => ?_) (fun c983 => ?_)
      · refine g_goto hx dL_law_988 (tg := 1875) (by decide) ?_
        exact go _ _ _ _ _ _ _ hR2
      · exact absurd (by rw [show L2 10 (Int32.toNatClampNeg 0) = _ from ha2 c973]; exact cmp_rf _) c983
  · exact absurd ht2 c966
set_option maxHeartbeats 4000000 in
set_option maxRecDepth 100000 in
theorem lc_12 {p : Program} {l : Launch} {e : Env} {s : State} {m : MethodId} {args : Array Value} {below : List Frame} {meth : Method} {c : Code} {E : aE} {io0 : aM} {S0 : aS} {Q : State → Prop} {S : aS} {I : aI} {L : aL} {Rf : aR} {k n N t : Nat} {xs : Nat → Int32} (hx : aCx p l s m args meth c RL cL_law 8 ret E) (hst : l.stackTraces = false) (hX9 : rlX N xs E io0 S0 s) (hN : 5 * t + 5 ≤ N) (hN3 : N < 2 ^ 31) (hk9 : k + 9 ≤ room_1.cells) (hn9 : n + 568 ≤ room_1.slots) (hR : Rel N xs S I L Rf)
    (go : ∀ (S' : aS) (I' : aI) (L' : aL) (R' : aR) (w5 w6 w7 : Value), Rel N xs S' I' L' R' → aG p l e room_1 s m args below meth c E io0 S0 8 Q 1875 [.ref 1, .ref 3, .ref 20, .ref 10, .int (nI (5 * t)), w5, w6, w7] [] S' I' L' R' (k + 9) (n + 568)) : aG p l e room_1 s m args below meth c E io0 S0 8 Q 991 [.ref 1, .ref 3, .ref 20, .ref 10, .int (nI (5 * t)), aU, aU, aU] [] S I L Rf k n := by
  refine g_aloadG_n hx dL_law_991 rfl (nx := 992) rfl rfl ?_
  refine g_aloadG_n hx dL_law_992 rfl (nx := 993) rfl rfl ?_
  refine g_iloadG hx dL_law_993 (nx := 995) rfl rfl ?_
  refine g_iconst hx dL_law_995 (nx := 996) rfl (v := 1) (by decide) ?_
  refine g_iadd hx dL_law_996 (nx := 997) rfl ?_
  refine g_scr hx dL_law_997 (nx := 998) rfl hX9 (sc1 _) (by omega) hN3 ?_
  refine g_aloadG_n hx dL_law_998 rfl (nx := 999) rfl rfl ?_
  refine g_callW hx [.ref 3, .int (xs (5 * t + 1)), .ref 10] (k' := k + 9) (n' := n + 568) dL_law_999 (nx := 1002) rfl lk_L_148 rfl (Nat.le_of_ble_eq_true rfl) (Nat.le_of_ble_eq_true rfl) (Nat.le_of_ble_eq_true rfl) (Nat.add_le_add_left (Nat.le_of_ble_eq_true rfl) k) (Nat.add_le_add_left (Nat.le_of_ble_eq_true rfl) n) hk9 hn9 (st_withdraw hst hR (fun c9 S1 I1 L1 R1 hm1 hk1 => ?_))
  refine g_istore_5 hx dL_law_1002 (nx := 1004) rfl (by decide) rfl ?_
  refine g_aloadG_n hx dL_law_1004 rfl (nx := 1005) rfl rfl ?_
  refine g_aloadG_n hx dL_law_1005 rfl (nx := 1006) rfl rfl ?_
  refine g_iloadG hx dL_law_1006 (nx := 1008) rfl rfl ?_
  refine g_iconst hx dL_law_1008 (nx := 1009) rfl (v := 1) (by decide) ?_
  refine g_iadd hx dL_law_1009 (nx := 1010) rfl ?_
  refine g_scr hx dL_law_1010 (nx := 1011) rfl hX9 (sc1 _) (by omega) hN3 ?_
  refine g_callV_M hx [.int (xs (5 * t + 1))] (k' := k + 9) (n' := n + 568) dL_law_1011 (nx := 1014) rfl lk_L_150 hm1.2 (by decide) rfl rfl (Nat.le_of_ble_eq_true rfl) (Nat.le_of_ble_eq_true rfl) (Nat.le_of_ble_eq_true rfl) (Nat.le_refl _) (Nat.le_refl _) hk9 hn9 (hk1 _ (fun b9 I2 L2 hR2 ht2 ha2 => ?_))
  refine g_istore_6 hx dL_law_1014 (nx := 1016) rfl (by decide) rfl ?_
  refine g_aloadG_n hx dL_law_1016 rfl (nx := 1017) rfl rfl ?_
  refine g_callV_M hx [] (k' := k + 9) (n' := n + 568) dL_law_1017 (nx := 1020) rfl lk_L_107 hm1.2 (by decide) rfl rfl (Nat.le_of_ble_eq_true rfl) (Nat.le_of_ble_eq_true rfl) (Nat.le_of_ble_eq_true rfl) (Nat.le_refl _) (Nat.le_refl _) hk9 hn9 (s_X4_thrown hst hR2.ly.1 ?_)
  refine g_iloadG hx dL_law_1020 (nx := 1022) rfl rfl ?_
  refine g_icmp_eq hx dL_law_1022 (tg := 1027) (by decide) (nx := 1025) rfl (fun c1022 => ?_) (fun c1022 => ?_)
  · refine g_iloadG hx dL_law_1027 (nx := 1029) rfl rfl ?_
    refine g_if_ne hx dL_law_1029 (tg := 1044) (by decide) (nx := 1032) rfl (fun c1029 => ?_) (fun c1029 => ?_)
    · refine g_goto hx dL_law_1044 (tg := 1875) (by decide) ?_
      exact go _ _ _ _ _ _ _ hR2
    · refine g_aloadG_n hx dL_law_1032 rfl (nx := 1033) rfl rfl ?_
      refine g_iconst hx dL_law_1033 (nx := 1034) rfl (v := 0) (by decide) ?_
      refine g_laload hx dL_law_1034 (nx := 1035) rfl hm1.1.2.2 (by decide) (vin (by decide)) ?_
      refine g_iloadG hx dL_law_1035 (nx := 1037) rfl rfl ?_
      refine g_i2l hx dL_law_1037 (nx := 1038) rfl ?_
      refine g_lcmp hx dL_law_1038 (nx := 1039) rfl ?_
      refine g_if_eq hx dL_law_1039 (tg := 1044) (by decide) (nx := 1042) rfl (fun c1039 => ?_) (fun c1039 => ?_)
      · refine g_goto hx dL_law_1044 (tg := 1875) (by decide) ?_
        exact go _ _ _ _ _ _ _ hR2
      · exact absurd (by rw [show L2 10 (Int32.toNatClampNeg 0) = _ from ha2 c1029]; exact cmp_rf _) c1039
  · exact absurd ht2 c1022
set_option maxHeartbeats 4000000 in
set_option maxRecDepth 100000 in
theorem lc_13 {p : Program} {l : Launch} {e : Env} {s : State} {m : MethodId} {args : Array Value} {below : List Frame} {meth : Method} {c : Code} {E : aE} {io0 : aM} {S0 : aS} {Q : State → Prop} {S : aS} {I : aI} {L : aL} {Rf : aR} {k n N t : Nat} {xs : Nat → Int32} (hx : aCx p l s m args meth c RL cL_law 8 ret E) (hst : l.stackTraces = false) (hX9 : rlX N xs E io0 S0 s) (hN : 5 * t + 5 ≤ N) (hN3 : N < 2 ^ 31) (hk9 : k + 9 ≤ room_1.cells) (hn9 : n + 568 ≤ room_1.slots) (hR : Rel N xs S I L Rf)
    (go : ∀ (S' : aS) (I' : aI) (L' : aL) (R' : aR) (w5 w6 w7 : Value), Rel N xs S' I' L' R' → aG p l e room_1 s m args below meth c E io0 S0 8 Q 1875 [.ref 1, .ref 3, .ref 20, .ref 10, .int (nI (5 * t)), w5, w6, w7] [] S' I' L' R' (k + 9) (n + 568)) : aG p l e room_1 s m args below meth c E io0 S0 8 Q 1047 [.ref 1, .ref 3, .ref 20, .ref 10, .int (nI (5 * t)), aU, aU, aU] [] S I L Rf k n := by
  refine g_aloadG_n hx dL_law_1047 rfl (nx := 1048) rfl rfl ?_
  refine g_callV_M hx [] (k' := k + 9) (n' := n + 568) dL_law_1048 (nx := 1051) rfl lk_L_151 hR.ly.2.2 (by decide) rfl rfl (Nat.le_of_ble_eq_true rfl) (Nat.le_of_ble_eq_true rfl) (Nat.le_of_ble_eq_true rfl) (Nat.add_le_add_left (Nat.le_of_ble_eq_true rfl) k) (Nat.add_le_add_left (Nat.le_of_ble_eq_true rfl) n) hk9 hn9 (st_audit hst hR (fun r9 I1 L1 hm1 hk1 => ?_))
  refine g_aloadG_n hx dL_law_1051 rfl (nx := 1052) rfl rfl ?_
  refine g_callV_M hx [] (k' := k + 9) (n' := n + 568) dL_law_1052 (nx := 1055) rfl lk_L_154 hm1.2 (by decide) rfl rfl (Nat.le_of_ble_eq_true rfl) (Nat.le_of_ble_eq_true rfl) (Nat.le_of_ble_eq_true rfl) (Nat.le_refl _) (Nat.le_refl _) hk9 hn9 (hk1 _ (fun I2 L2 hR2 => ?_))
  refine g_icmp_eq hx dL_law_1055 (tg := 1875) (by decide) (nx := 1058) rfl (fun c1055 => ?_) (fun c1055 => ?_)
  · exact go _ _ _ _ _ _ _ hR2
  · exact absurd rfl c1055
set_option maxHeartbeats 4000000 in
set_option maxRecDepth 100000 in
theorem lc_14 {p : Program} {l : Launch} {e : Env} {s : State} {m : MethodId} {args : Array Value} {below : List Frame} {meth : Method} {c : Code} {E : aE} {io0 : aM} {S0 : aS} {Q : State → Prop} {S : aS} {I : aI} {L : aL} {Rf : aR} {k n N t : Nat} {xs : Nat → Int32} (hx : aCx p l s m args meth c RL cL_law 8 ret E) (hst : l.stackTraces = false) (hX9 : rlX N xs E io0 S0 s) (hN : 5 * t + 5 ≤ N) (hN3 : N < 2 ^ 31) (hk9 : k + 9 ≤ room_1.cells) (hn9 : n + 568 ≤ room_1.slots) (hR : Rel N xs S I L Rf)
    (go : ∀ (S' : aS) (I' : aI) (L' : aL) (R' : aR) (w5 w6 w7 : Value), Rel N xs S' I' L' R' → aG p l e room_1 s m args below meth c E io0 S0 8 Q 1875 [.ref 1, .ref 3, .ref 20, .ref 10, .int (nI (5 * t)), w5, w6, w7] [] S' I' L' R' (k + 9) (n + 568)) : aG p l e room_1 s m args below meth c E io0 S0 8 Q 1060 [.ref 1, .ref 3, .ref 20, .ref 10, .int (nI (5 * t)), aU, aU, aU] [] S I L Rf k n := by
  refine g_aloadG_n hx dL_law_1060 rfl (nx := 1061) rfl rfl ?_
  refine g_aloadG_n hx dL_law_1061 rfl (nx := 1062) rfl rfl ?_
  refine g_iloadG hx dL_law_1062 (nx := 1064) rfl rfl ?_
  refine g_iconst hx dL_law_1064 (nx := 1065) rfl (v := 1) (by decide) ?_
  refine g_iadd hx dL_law_1065 (nx := 1066) rfl ?_
  refine g_scr hx dL_law_1066 (nx := 1067) rfl hX9 (sc1 _) (by omega) hN3 ?_
  refine g_aloadG_n hx dL_law_1067 rfl (nx := 1068) rfl rfl ?_
  refine g_iloadG hx dL_law_1068 (nx := 1070) rfl rfl ?_
  refine g_iconst hx dL_law_1070 (nx := 1071) rfl (v := 2) (by decide) ?_
  refine g_iadd hx dL_law_1071 (nx := 1072) rfl ?_
  refine g_scr hx dL_law_1072 (nx := 1073) rfl hX9 (sc2 _) (by omega) hN3 ?_
  refine g_aloadG_n hx dL_law_1073 rfl (nx := 1074) rfl rfl ?_
  refine g_callW hx [.ref 3, .int (xs (5 * t + 1)), .int (xs (5 * t + 2)), .ref 10] (k' := k + 9) (n' := n + 568) dL_law_1074 (nx := 1077) rfl lk_L_155 rfl (Nat.le_of_ble_eq_true rfl) (Nat.le_of_ble_eq_true rfl) (Nat.le_of_ble_eq_true rfl) (Nat.add_le_add_left (Nat.le_of_ble_eq_true rfl) k) (Nat.add_le_add_left (Nat.le_of_ble_eq_true rfl) n) hk9 hn9 (st_ofStar hst hR (fun c9 S1 I1 L1 R1 hm1 hk1 => ?_))
  refine g_istore_5 hx dL_law_1077 (nx := 1079) rfl (by decide) rfl ?_
  refine g_aloadG_n hx dL_law_1079 rfl (nx := 1080) rfl rfl ?_
  refine g_aloadG_n hx dL_law_1080 rfl (nx := 1081) rfl rfl ?_
  refine g_iloadG hx dL_law_1081 (nx := 1083) rfl rfl ?_
  refine g_iconst hx dL_law_1083 (nx := 1084) rfl (v := 1) (by decide) ?_
  refine g_iadd hx dL_law_1084 (nx := 1085) rfl ?_
  refine g_scr hx dL_law_1085 (nx := 1086) rfl hX9 (sc1 _) (by omega) hN3 ?_
  refine g_aloadG_n hx dL_law_1086 rfl (nx := 1087) rfl rfl ?_
  refine g_iloadG hx dL_law_1087 (nx := 1089) rfl rfl ?_
  refine g_iconst hx dL_law_1089 (nx := 1090) rfl (v := 2) (by decide) ?_
  refine g_iadd hx dL_law_1090 (nx := 1091) rfl ?_
  refine g_scr hx dL_law_1091 (nx := 1092) rfl hX9 (sc2 _) (by omega) hN3 ?_
  refine g_callV_M hx [.int (xs (5 * t + 1)), .int (xs (5 * t + 2))] (k' := k + 9) (n' := n + 568) dL_law_1092 (nx := 1095) rfl lk_L_157 hm1.2 (by decide) rfl rfl (Nat.le_of_ble_eq_true rfl) (Nat.le_of_ble_eq_true rfl) (Nat.le_of_ble_eq_true rfl) (Nat.le_refl _) (Nat.le_refl _) hk9 hn9 (hk1 _ (fun b9 I2 L2 hR2 ht2 ha2 => ?_))
  refine g_istore_6 hx dL_law_1095 (nx := 1097) rfl (by decide) rfl ?_
  refine g_aloadG_n hx dL_law_1097 rfl (nx := 1098) rfl rfl ?_
  refine g_callV_M hx [] (k' := k + 9) (n' := n + 568) dL_law_1098 (nx := 1101) rfl lk_L_107 hm1.2 (by decide) rfl rfl (Nat.le_of_ble_eq_true rfl) (Nat.le_of_ble_eq_true rfl) (Nat.le_of_ble_eq_true rfl) (Nat.le_refl _) (Nat.le_refl _) hk9 hn9 (s_X4_thrown hst hR2.ly.1 ?_)
  refine g_iloadG hx dL_law_1101 (nx := 1103) rfl rfl ?_
  refine g_icmp_eq hx dL_law_1103 (tg := 1108) (by decide) (nx := 1106) rfl (fun c1103 => ?_) (fun c1103 => ?_)
  · refine g_iloadG hx dL_law_1108 (nx := 1110) rfl rfl ?_
    refine g_if_ne hx dL_law_1110 (tg := 1125) (by decide) (nx := 1113) rfl (fun c1110 => ?_) (fun c1110 => ?_)
    · refine g_goto hx dL_law_1125 (tg := 1875) (by decide) ?_
      exact go _ _ _ _ _ _ _ hR2
    · refine g_aloadG_n hx dL_law_1113 rfl (nx := 1114) rfl rfl ?_
      refine g_iconst hx dL_law_1114 (nx := 1115) rfl (v := 0) (by decide) ?_
      refine g_laload hx dL_law_1115 (nx := 1116) rfl hm1.1.2.2 (by decide) (vin (by decide)) ?_
      refine g_iloadG hx dL_law_1116 (nx := 1118) rfl rfl ?_
      refine g_i2l hx dL_law_1118 (nx := 1119) rfl ?_
      refine g_lcmp hx dL_law_1119 (nx := 1120) rfl ?_
      refine g_if_eq hx dL_law_1120 (tg := 1125) (by decide) (nx := 1123) rfl (fun c1120 => ?_) (fun c1120 => ?_)
      · refine g_goto hx dL_law_1125 (tg := 1875) (by decide) ?_
        exact go _ _ _ _ _ _ _ hR2
      · exact absurd (by rw [show L2 10 (Int32.toNatClampNeg 0) = _ from ha2 c1110]; exact cmp_rf _) c1120
  · exact absurd ht2 c1103
set_option maxHeartbeats 4000000 in
set_option maxRecDepth 100000 in
theorem lc_15 {p : Program} {l : Launch} {e : Env} {s : State} {m : MethodId} {args : Array Value} {below : List Frame} {meth : Method} {c : Code} {E : aE} {io0 : aM} {S0 : aS} {Q : State → Prop} {S : aS} {I : aI} {L : aL} {Rf : aR} {k n N t : Nat} {xs : Nat → Int32} (hx : aCx p l s m args meth c RL cL_law 8 ret E) (hst : l.stackTraces = false) (hX9 : rlX N xs E io0 S0 s) (hN : 5 * t + 5 ≤ N) (hN3 : N < 2 ^ 31) (hk9 : k + 9 ≤ room_1.cells) (hn9 : n + 568 ≤ room_1.slots) (hR : Rel N xs S I L Rf)
    (go : ∀ (S' : aS) (I' : aI) (L' : aL) (R' : aR) (w5 w6 w7 : Value), Rel N xs S' I' L' R' → aG p l e room_1 s m args below meth c E io0 S0 8 Q 1875 [.ref 1, .ref 3, .ref 20, .ref 10, .int (nI (5 * t)), w5, w6, w7] [] S' I' L' R' (k + 9) (n + 568)) : aG p l e room_1 s m args below meth c E io0 S0 8 Q 1128 [.ref 1, .ref 3, .ref 20, .ref 10, .int (nI (5 * t)), aU, aU, aU] [] S I L Rf k n := by
  refine g_aloadG_n hx dL_law_1128 rfl (nx := 1129) rfl rfl ?_
  refine g_aloadG_n hx dL_law_1129 rfl (nx := 1130) rfl rfl ?_
  refine g_iloadG hx dL_law_1130 (nx := 1132) rfl rfl ?_
  refine g_iconst hx dL_law_1132 (nx := 1133) rfl (v := 1) (by decide) ?_
  refine g_iadd hx dL_law_1133 (nx := 1134) rfl ?_
  refine g_scr hx dL_law_1134 (nx := 1135) rfl hX9 (sc1 _) (by omega) hN3 ?_
  refine g_aloadG_n hx dL_law_1135 rfl (nx := 1136) rfl rfl ?_
  refine g_callW hx [.ref 3, .int (xs (5 * t + 1)), .ref 10] (k' := k + 9) (n' := n + 568) dL_law_1136 (nx := 1139) rfl lk_L_158 rfl (Nat.le_of_ble_eq_true rfl) (Nat.le_of_ble_eq_true rfl) (Nat.le_of_ble_eq_true rfl) (Nat.add_le_add_left (Nat.le_of_ble_eq_true rfl) k) (Nat.add_le_add_left (Nat.le_of_ble_eq_true rfl) n) hk9 hn9 (st_crossingAnew hst hR (fun c9 S1 I1 L1 R1 hm1 hk1 => ?_))
  refine g_istore_5 hx dL_law_1139 (nx := 1141) rfl (by decide) rfl ?_
  refine g_aloadG_n hx dL_law_1141 rfl (nx := 1142) rfl rfl ?_
  refine g_aloadG_n hx dL_law_1142 rfl (nx := 1143) rfl rfl ?_
  refine g_iloadG hx dL_law_1143 (nx := 1145) rfl rfl ?_
  refine g_iconst hx dL_law_1145 (nx := 1146) rfl (v := 1) (by decide) ?_
  refine g_iadd hx dL_law_1146 (nx := 1147) rfl ?_
  refine g_scr hx dL_law_1147 (nx := 1148) rfl hX9 (sc1 _) (by omega) hN3 ?_
  refine g_callV_M hx [.int (xs (5 * t + 1))] (k' := k + 9) (n' := n + 568) dL_law_1148 (nx := 1151) rfl lk_L_160 hm1.2 (by decide) rfl rfl (Nat.le_of_ble_eq_true rfl) (Nat.le_of_ble_eq_true rfl) (Nat.le_of_ble_eq_true rfl) (Nat.le_refl _) (Nat.le_refl _) hk9 hn9 (hk1 _ (fun b9 I2 L2 hR2 ht2 ha2 => ?_))
  refine g_istore_6 hx dL_law_1151 (nx := 1153) rfl (by decide) rfl ?_
  refine g_aloadG_n hx dL_law_1153 rfl (nx := 1154) rfl rfl ?_
  refine g_callV_M hx [] (k' := k + 9) (n' := n + 568) dL_law_1154 (nx := 1157) rfl lk_L_107 hm1.2 (by decide) rfl rfl (Nat.le_of_ble_eq_true rfl) (Nat.le_of_ble_eq_true rfl) (Nat.le_of_ble_eq_true rfl) (Nat.le_refl _) (Nat.le_refl _) hk9 hn9 (s_X4_thrown hst hR2.ly.1 ?_)
  refine g_iloadG hx dL_law_1157 (nx := 1159) rfl rfl ?_
  refine g_icmp_eq hx dL_law_1159 (tg := 1164) (by decide) (nx := 1162) rfl (fun c1159 => ?_) (fun c1159 => ?_)
  · refine g_iloadG hx dL_law_1164 (nx := 1166) rfl rfl ?_
    refine g_if_ne hx dL_law_1166 (tg := 1181) (by decide) (nx := 1169) rfl (fun c1166 => ?_) (fun c1166 => ?_)
    · refine g_goto hx dL_law_1181 (tg := 1875) (by decide) ?_
      exact go _ _ _ _ _ _ _ hR2
    · refine g_aloadG_n hx dL_law_1169 rfl (nx := 1170) rfl rfl ?_
      refine g_iconst hx dL_law_1170 (nx := 1171) rfl (v := 0) (by decide) ?_
      refine g_laload hx dL_law_1171 (nx := 1172) rfl hm1.1.2.2 (by decide) (vin (by decide)) ?_
      refine g_iloadG hx dL_law_1172 (nx := 1174) rfl rfl ?_
      refine g_i2l hx dL_law_1174 (nx := 1175) rfl ?_
      refine g_lcmp hx dL_law_1175 (nx := 1176) rfl ?_
      refine g_if_eq hx dL_law_1176 (tg := 1181) (by decide) (nx := 1179) rfl (fun c1176 => ?_) (fun c1176 => ?_)
      · refine g_goto hx dL_law_1181 (tg := 1875) (by decide) ?_
        exact go _ _ _ _ _ _ _ hR2
      · exact absurd (by rw [show L2 10 (Int32.toNatClampNeg 0) = _ from ha2 c1166]; exact cmp_rf _) c1176
  · exact absurd ht2 c1159
set_option maxHeartbeats 4000000 in
set_option maxRecDepth 100000 in
theorem lc_16 {p : Program} {l : Launch} {e : Env} {s : State} {m : MethodId} {args : Array Value} {below : List Frame} {meth : Method} {c : Code} {E : aE} {io0 : aM} {S0 : aS} {Q : State → Prop} {S : aS} {I : aI} {L : aL} {Rf : aR} {k n N t : Nat} {xs : Nat → Int32} (hx : aCx p l s m args meth c RL cL_law 8 ret E) (hst : l.stackTraces = false) (hX9 : rlX N xs E io0 S0 s) (hN : 5 * t + 5 ≤ N) (hN3 : N < 2 ^ 31) (hk9 : k + 9 ≤ room_1.cells) (hn9 : n + 568 ≤ room_1.slots) (hR : Rel N xs S I L Rf)
    (go : ∀ (S' : aS) (I' : aI) (L' : aL) (R' : aR) (w5 w6 w7 : Value), Rel N xs S' I' L' R' → aG p l e room_1 s m args below meth c E io0 S0 8 Q 1875 [.ref 1, .ref 3, .ref 20, .ref 10, .int (nI (5 * t)), w5, w6, w7] [] S' I' L' R' (k + 9) (n + 568)) : aG p l e room_1 s m args below meth c E io0 S0 8 Q 1184 [.ref 1, .ref 3, .ref 20, .ref 10, .int (nI (5 * t)), aU, aU, aU] [] S I L Rf k n := by
  refine g_aloadG_n hx dL_law_1184 rfl (nx := 1185) rfl rfl ?_
  refine g_aloadG_n hx dL_law_1185 rfl (nx := 1186) rfl rfl ?_
  refine g_iloadG hx dL_law_1186 (nx := 1188) rfl rfl ?_
  refine g_iconst hx dL_law_1188 (nx := 1189) rfl (v := 1) (by decide) ?_
  refine g_iadd hx dL_law_1189 (nx := 1190) rfl ?_
  refine g_scr hx dL_law_1190 (nx := 1191) rfl hX9 (sc1 _) (by omega) hN3 ?_
  refine g_aloadG_n hx dL_law_1191 rfl (nx := 1192) rfl rfl ?_
  refine g_iloadG hx dL_law_1192 (nx := 1194) rfl rfl ?_
  refine g_iconst hx dL_law_1194 (nx := 1195) rfl (v := 2) (by decide) ?_
  refine g_iadd hx dL_law_1195 (nx := 1196) rfl ?_
  refine g_scr hx dL_law_1196 (nx := 1197) rfl hX9 (sc2 _) (by omega) hN3 ?_
  refine g_aloadG_n hx dL_law_1197 rfl (nx := 1198) rfl rfl ?_
  refine g_iloadG hx dL_law_1198 (nx := 1200) rfl rfl ?_
  refine g_iconst hx dL_law_1200 (nx := 1201) rfl (v := 3) (by decide) ?_
  refine g_iadd hx dL_law_1201 (nx := 1202) rfl ?_
  refine g_scr hx dL_law_1202 (nx := 1203) rfl hX9 (sc3 _) (by omega) hN3 ?_
  refine g_aloadG_n hx dL_law_1203 rfl (nx := 1204) rfl rfl ?_
  refine g_iloadG hx dL_law_1204 (nx := 1206) rfl rfl ?_
  refine g_iconst hx dL_law_1206 (nx := 1207) rfl (v := 4) (by decide) ?_
  refine g_iadd hx dL_law_1207 (nx := 1208) rfl ?_
  refine g_scr hx dL_law_1208 (nx := 1209) rfl hX9 (sc4 _) (by omega) hN3 ?_
  refine g_aloadG_n hx dL_law_1209 rfl (nx := 1210) rfl rfl ?_
  refine g_callW hx [.ref 3, .int (xs (5 * t + 1)), .int (xs (5 * t + 2)), .int (xs (5 * t + 3)), .int (xs (5 * t + 4)), .ref 10] (k' := k + 9) (n' := n + 568) dL_law_1210 (nx := 1213) rfl lk_L_161 rfl (Nat.le_of_ble_eq_true rfl) (Nat.le_of_ble_eq_true rfl) (Nat.le_of_ble_eq_true rfl) (Nat.add_le_add_left (Nat.le_of_ble_eq_true rfl) k) (Nat.add_le_add_left (Nat.le_of_ble_eq_true rfl) n) hk9 hn9 (st_tone hst hR (fun c9 S1 I1 L1 R1 hm1 hk1 => ?_))
  refine g_istore_5 hx dL_law_1213 (nx := 1215) rfl (by decide) rfl ?_
  refine g_aloadG_n hx dL_law_1215 rfl (nx := 1216) rfl rfl ?_
  refine g_aloadG_n hx dL_law_1216 rfl (nx := 1217) rfl rfl ?_
  refine g_iloadG hx dL_law_1217 (nx := 1219) rfl rfl ?_
  refine g_iconst hx dL_law_1219 (nx := 1220) rfl (v := 1) (by decide) ?_
  refine g_iadd hx dL_law_1220 (nx := 1221) rfl ?_
  refine g_scr hx dL_law_1221 (nx := 1222) rfl hX9 (sc1 _) (by omega) hN3 ?_
  refine g_aloadG_n hx dL_law_1222 rfl (nx := 1223) rfl rfl ?_
  refine g_iloadG hx dL_law_1223 (nx := 1225) rfl rfl ?_
  refine g_iconst hx dL_law_1225 (nx := 1226) rfl (v := 2) (by decide) ?_
  refine g_iadd hx dL_law_1226 (nx := 1227) rfl ?_
  refine g_scr hx dL_law_1227 (nx := 1228) rfl hX9 (sc2 _) (by omega) hN3 ?_
  refine g_aloadG_n hx dL_law_1228 rfl (nx := 1229) rfl rfl ?_
  refine g_iloadG hx dL_law_1229 (nx := 1231) rfl rfl ?_
  refine g_iconst hx dL_law_1231 (nx := 1232) rfl (v := 3) (by decide) ?_
  refine g_iadd hx dL_law_1232 (nx := 1233) rfl ?_
  refine g_scr hx dL_law_1233 (nx := 1234) rfl hX9 (sc3 _) (by omega) hN3 ?_
  refine g_aloadG_n hx dL_law_1234 rfl (nx := 1235) rfl rfl ?_
  refine g_iloadG hx dL_law_1235 (nx := 1237) rfl rfl ?_
  refine g_iconst hx dL_law_1237 (nx := 1238) rfl (v := 4) (by decide) ?_
  refine g_iadd hx dL_law_1238 (nx := 1239) rfl ?_
  refine g_scr hx dL_law_1239 (nx := 1240) rfl hX9 (sc4 _) (by omega) hN3 ?_
  refine g_callV_M hx [.int (xs (5 * t + 1)), .int (xs (5 * t + 2)), .int (xs (5 * t + 3)), .int (xs (5 * t + 4))] (k' := k + 9) (n' := n + 568) dL_law_1240 (nx := 1243) rfl lk_L_163 hm1.2 (by decide) rfl rfl (Nat.le_of_ble_eq_true rfl) (Nat.le_of_ble_eq_true rfl) (Nat.le_of_ble_eq_true rfl) (Nat.le_refl _) (Nat.le_refl _) hk9 hn9 (hk1 _ (fun b9 I2 L2 hR2 ht2 ha2 => ?_))
  refine g_istore_6 hx dL_law_1243 (nx := 1245) rfl (by decide) rfl ?_
  refine g_aloadG_n hx dL_law_1245 rfl (nx := 1246) rfl rfl ?_
  refine g_callV_M hx [] (k' := k + 9) (n' := n + 568) dL_law_1246 (nx := 1249) rfl lk_L_107 hm1.2 (by decide) rfl rfl (Nat.le_of_ble_eq_true rfl) (Nat.le_of_ble_eq_true rfl) (Nat.le_of_ble_eq_true rfl) (Nat.le_refl _) (Nat.le_refl _) hk9 hn9 (s_X4_thrown hst hR2.ly.1 ?_)
  refine g_iloadG hx dL_law_1249 (nx := 1251) rfl rfl ?_
  refine g_icmp_eq hx dL_law_1251 (tg := 1256) (by decide) (nx := 1254) rfl (fun c1251 => ?_) (fun c1251 => ?_)
  · refine g_iloadG hx dL_law_1256 (nx := 1258) rfl rfl ?_
    refine g_if_ne hx dL_law_1258 (tg := 1273) (by decide) (nx := 1261) rfl (fun c1258 => ?_) (fun c1258 => ?_)
    · refine g_goto hx dL_law_1273 (tg := 1875) (by decide) ?_
      exact go _ _ _ _ _ _ _ hR2
    · refine g_aloadG_n hx dL_law_1261 rfl (nx := 1262) rfl rfl ?_
      refine g_iconst hx dL_law_1262 (nx := 1263) rfl (v := 0) (by decide) ?_
      refine g_laload hx dL_law_1263 (nx := 1264) rfl hm1.1.2.2 (by decide) (vin (by decide)) ?_
      refine g_iloadG hx dL_law_1264 (nx := 1266) rfl rfl ?_
      refine g_i2l hx dL_law_1266 (nx := 1267) rfl ?_
      refine g_lcmp hx dL_law_1267 (nx := 1268) rfl ?_
      refine g_if_eq hx dL_law_1268 (tg := 1273) (by decide) (nx := 1271) rfl (fun c1268 => ?_) (fun c1268 => ?_)
      · refine g_goto hx dL_law_1273 (tg := 1875) (by decide) ?_
        exact go _ _ _ _ _ _ _ hR2
      · exact absurd (by rw [show L2 10 (Int32.toNatClampNeg 0) = _ from ha2 c1258]; exact cmp_rf _) c1268
  · exact absurd ht2 c1251
set_option maxHeartbeats 4000000 in
set_option maxRecDepth 100000 in
theorem lc_17 {p : Program} {l : Launch} {e : Env} {s : State} {m : MethodId} {args : Array Value} {below : List Frame} {meth : Method} {c : Code} {E : aE} {io0 : aM} {S0 : aS} {Q : State → Prop} {S : aS} {I : aI} {L : aL} {Rf : aR} {k n N t : Nat} {xs : Nat → Int32} (hx : aCx p l s m args meth c RL cL_law 8 ret E) (hst : l.stackTraces = false) (hX9 : rlX N xs E io0 S0 s) (hN : 5 * t + 5 ≤ N) (hN3 : N < 2 ^ 31) (hk9 : k + 9 ≤ room_1.cells) (hn9 : n + 568 ≤ room_1.slots) (hR : Rel N xs S I L Rf)
    (go : ∀ (S' : aS) (I' : aI) (L' : aL) (R' : aR) (w5 w6 w7 : Value), Rel N xs S' I' L' R' → aG p l e room_1 s m args below meth c E io0 S0 8 Q 1875 [.ref 1, .ref 3, .ref 20, .ref 10, .int (nI (5 * t)), w5, w6, w7] [] S' I' L' R' (k + 9) (n + 568)) : aG p l e room_1 s m args below meth c E io0 S0 8 Q 1276 [.ref 1, .ref 3, .ref 20, .ref 10, .int (nI (5 * t)), aU, aU, aU] [] S I L Rf k n := by
  refine g_aloadG_n hx dL_law_1276 rfl (nx := 1277) rfl rfl ?_
  refine g_aloadG_n hx dL_law_1277 rfl (nx := 1278) rfl rfl ?_
  refine g_iloadG hx dL_law_1278 (nx := 1280) rfl rfl ?_
  refine g_iconst hx dL_law_1280 (nx := 1281) rfl (v := 1) (by decide) ?_
  refine g_iadd hx dL_law_1281 (nx := 1282) rfl ?_
  refine g_scr hx dL_law_1282 (nx := 1283) rfl hX9 (sc1 _) (by omega) hN3 ?_
  refine g_aloadG_n hx dL_law_1283 rfl (nx := 1284) rfl rfl ?_
  refine g_callW hx [.ref 3, .int (xs (5 * t + 1)), .ref 10] (k' := k + 9) (n' := n + 568) dL_law_1284 (nx := 1287) rfl lk_L_164 rfl (Nat.le_of_ble_eq_true rfl) (Nat.le_of_ble_eq_true rfl) (Nat.le_of_ble_eq_true rfl) (Nat.add_le_add_left (Nat.le_of_ble_eq_true rfl) k) (Nat.add_le_add_left (Nat.le_of_ble_eq_true rfl) n) hk9 hn9 (st_frames hst hR (fun c9 S1 I1 L1 R1 hm1 hk1 => ?_))
  refine g_istore_5 hx dL_law_1287 (nx := 1289) rfl (by decide) rfl ?_
  refine g_aloadG_n hx dL_law_1289 rfl (nx := 1290) rfl rfl ?_
  refine g_aloadG_n hx dL_law_1290 rfl (nx := 1291) rfl rfl ?_
  refine g_iloadG hx dL_law_1291 (nx := 1293) rfl rfl ?_
  refine g_iconst hx dL_law_1293 (nx := 1294) rfl (v := 1) (by decide) ?_
  refine g_iadd hx dL_law_1294 (nx := 1295) rfl ?_
  refine g_scr hx dL_law_1295 (nx := 1296) rfl hX9 (sc1 _) (by omega) hN3 ?_
  refine g_callV_M hx [.int (xs (5 * t + 1))] (k' := k + 9) (n' := n + 568) dL_law_1296 (nx := 1299) rfl lk_L_166 hm1.2 (by decide) rfl rfl (Nat.le_of_ble_eq_true rfl) (Nat.le_of_ble_eq_true rfl) (Nat.le_of_ble_eq_true rfl) (Nat.le_refl _) (Nat.le_refl _) hk9 hn9 (hk1 _ (fun b9 I2 L2 hR2 ht2 ha2 => ?_))
  refine g_istore_6 hx dL_law_1299 (nx := 1301) rfl (by decide) rfl ?_
  refine g_aloadG_n hx dL_law_1301 rfl (nx := 1302) rfl rfl ?_
  refine g_callV_M hx [] (k' := k + 9) (n' := n + 568) dL_law_1302 (nx := 1305) rfl lk_L_107 hm1.2 (by decide) rfl rfl (Nat.le_of_ble_eq_true rfl) (Nat.le_of_ble_eq_true rfl) (Nat.le_of_ble_eq_true rfl) (Nat.le_refl _) (Nat.le_refl _) hk9 hn9 (s_X4_thrown hst hR2.ly.1 ?_)
  refine g_iloadG hx dL_law_1305 (nx := 1307) rfl rfl ?_
  refine g_icmp_eq hx dL_law_1307 (tg := 1312) (by decide) (nx := 1310) rfl (fun c1307 => ?_) (fun c1307 => ?_)
  · refine g_iloadG hx dL_law_1312 (nx := 1314) rfl rfl ?_
    refine g_if_ne hx dL_law_1314 (tg := 1329) (by decide) (nx := 1317) rfl (fun c1314 => ?_) (fun c1314 => ?_)
    · refine g_goto hx dL_law_1329 (tg := 1875) (by decide) ?_
      exact go _ _ _ _ _ _ _ hR2
    · refine g_aloadG_n hx dL_law_1317 rfl (nx := 1318) rfl rfl ?_
      refine g_iconst hx dL_law_1318 (nx := 1319) rfl (v := 0) (by decide) ?_
      refine g_laload hx dL_law_1319 (nx := 1320) rfl hm1.1.2.2 (by decide) (vin (by decide)) ?_
      refine g_iloadG hx dL_law_1320 (nx := 1322) rfl rfl ?_
      refine g_i2l hx dL_law_1322 (nx := 1323) rfl ?_
      refine g_lcmp hx dL_law_1323 (nx := 1324) rfl ?_
      refine g_if_eq hx dL_law_1324 (tg := 1329) (by decide) (nx := 1327) rfl (fun c1324 => ?_) (fun c1324 => ?_)
      · refine g_goto hx dL_law_1329 (tg := 1875) (by decide) ?_
        exact go _ _ _ _ _ _ _ hR2
      · exact absurd (by rw [show L2 10 (Int32.toNatClampNeg 0) = _ from ha2 c1314]; exact cmp_rf _) c1324
  · exact absurd ht2 c1307
set_option maxHeartbeats 4000000 in
set_option maxRecDepth 100000 in
theorem lc_18 {p : Program} {l : Launch} {e : Env} {s : State} {m : MethodId} {args : Array Value} {below : List Frame} {meth : Method} {c : Code} {E : aE} {io0 : aM} {S0 : aS} {Q : State → Prop} {S : aS} {I : aI} {L : aL} {Rf : aR} {k n N t : Nat} {xs : Nat → Int32} (hx : aCx p l s m args meth c RL cL_law 8 ret E) (hst : l.stackTraces = false) (hX9 : rlX N xs E io0 S0 s) (hN : 5 * t + 5 ≤ N) (hN3 : N < 2 ^ 31) (hk9 : k + 9 ≤ room_1.cells) (hn9 : n + 568 ≤ room_1.slots) (hR : Rel N xs S I L Rf)
    (go : ∀ (S' : aS) (I' : aI) (L' : aL) (R' : aR) (w5 w6 w7 : Value), Rel N xs S' I' L' R' → aG p l e room_1 s m args below meth c E io0 S0 8 Q 1875 [.ref 1, .ref 3, .ref 20, .ref 10, .int (nI (5 * t)), w5, w6, w7] [] S' I' L' R' (k + 9) (n + 568)) : aG p l e room_1 s m args below meth c E io0 S0 8 Q 1332 [.ref 1, .ref 3, .ref 20, .ref 10, .int (nI (5 * t)), aU, aU, aU] [] S I L Rf k n := by
  refine g_aloadG_n hx dL_law_1332 rfl (nx := 1333) rfl rfl ?_
  refine g_aloadG_n hx dL_law_1333 rfl (nx := 1334) rfl rfl ?_
  refine g_iloadG hx dL_law_1334 (nx := 1336) rfl rfl ?_
  refine g_iconst hx dL_law_1336 (nx := 1337) rfl (v := 1) (by decide) ?_
  refine g_iadd hx dL_law_1337 (nx := 1338) rfl ?_
  refine g_scr hx dL_law_1338 (nx := 1339) rfl hX9 (sc1 _) (by omega) hN3 ?_
  refine g_aloadG_n hx dL_law_1339 rfl (nx := 1340) rfl rfl ?_
  refine g_iloadG hx dL_law_1340 (nx := 1342) rfl rfl ?_
  refine g_iconst hx dL_law_1342 (nx := 1343) rfl (v := 2) (by decide) ?_
  refine g_iadd hx dL_law_1343 (nx := 1344) rfl ?_
  refine g_scr hx dL_law_1344 (nx := 1345) rfl hX9 (sc2 _) (by omega) hN3 ?_
  refine g_aloadG_n hx dL_law_1345 rfl (nx := 1346) rfl rfl ?_
  refine g_iloadG hx dL_law_1346 (nx := 1348) rfl rfl ?_
  refine g_iconst hx dL_law_1348 (nx := 1349) rfl (v := 3) (by decide) ?_
  refine g_iadd hx dL_law_1349 (nx := 1350) rfl ?_
  refine g_scr hx dL_law_1350 (nx := 1351) rfl hX9 (sc3 _) (by omega) hN3 ?_
  refine g_aloadG_n hx dL_law_1351 rfl (nx := 1352) rfl rfl ?_
  refine g_callW hx [.ref 3, .int (xs (5 * t + 1)), .int (xs (5 * t + 2)), .int (xs (5 * t + 3)), .ref 10] (k' := k + 9) (n' := n + 568) dL_law_1352 (nx := 1355) rfl lk_L_167 rfl (Nat.le_of_ble_eq_true rfl) (Nat.le_of_ble_eq_true rfl) (Nat.le_of_ble_eq_true rfl) (Nat.add_le_add_left (Nat.le_of_ble_eq_true rfl) k) (Nat.add_le_add_left (Nat.le_of_ble_eq_true rfl) n) hk9 hn9 (st_value hst hR (fun c9 S1 I1 L1 R1 hm1 hk1 => ?_))
  refine g_istore_5 hx dL_law_1355 (nx := 1357) rfl (by decide) rfl ?_
  refine g_aloadG_n hx dL_law_1357 rfl (nx := 1358) rfl rfl ?_
  refine g_aloadG_n hx dL_law_1358 rfl (nx := 1359) rfl rfl ?_
  refine g_iloadG hx dL_law_1359 (nx := 1361) rfl rfl ?_
  refine g_iconst hx dL_law_1361 (nx := 1362) rfl (v := 1) (by decide) ?_
  refine g_iadd hx dL_law_1362 (nx := 1363) rfl ?_
  refine g_scr hx dL_law_1363 (nx := 1364) rfl hX9 (sc1 _) (by omega) hN3 ?_
  refine g_aloadG_n hx dL_law_1364 rfl (nx := 1365) rfl rfl ?_
  refine g_iloadG hx dL_law_1365 (nx := 1367) rfl rfl ?_
  refine g_iconst hx dL_law_1367 (nx := 1368) rfl (v := 2) (by decide) ?_
  refine g_iadd hx dL_law_1368 (nx := 1369) rfl ?_
  refine g_scr hx dL_law_1369 (nx := 1370) rfl hX9 (sc2 _) (by omega) hN3 ?_
  refine g_aloadG_n hx dL_law_1370 rfl (nx := 1371) rfl rfl ?_
  refine g_iloadG hx dL_law_1371 (nx := 1373) rfl rfl ?_
  refine g_iconst hx dL_law_1373 (nx := 1374) rfl (v := 3) (by decide) ?_
  refine g_iadd hx dL_law_1374 (nx := 1375) rfl ?_
  refine g_scr hx dL_law_1375 (nx := 1376) rfl hX9 (sc3 _) (by omega) hN3 ?_
  refine g_callV_M hx [.int (xs (5 * t + 1)), .int (xs (5 * t + 2)), .int (xs (5 * t + 3))] (k' := k + 9) (n' := n + 568) dL_law_1376 (nx := 1379) rfl lk_L_169 hm1.2 (by decide) rfl rfl (Nat.le_of_ble_eq_true rfl) (Nat.le_of_ble_eq_true rfl) (Nat.le_of_ble_eq_true rfl) (Nat.le_refl _) (Nat.le_refl _) hk9 hn9 (hk1 _ (fun b9 I2 L2 hR2 ht2 ha2 => ?_))
  refine g_istore_6 hx dL_law_1379 (nx := 1381) rfl (by decide) rfl ?_
  refine g_aloadG_n hx dL_law_1381 rfl (nx := 1382) rfl rfl ?_
  refine g_callV_M hx [] (k' := k + 9) (n' := n + 568) dL_law_1382 (nx := 1385) rfl lk_L_107 hm1.2 (by decide) rfl rfl (Nat.le_of_ble_eq_true rfl) (Nat.le_of_ble_eq_true rfl) (Nat.le_of_ble_eq_true rfl) (Nat.le_refl _) (Nat.le_refl _) hk9 hn9 (s_X4_thrown hst hR2.ly.1 ?_)
  refine g_iloadG hx dL_law_1385 (nx := 1387) rfl rfl ?_
  refine g_icmp_eq hx dL_law_1387 (tg := 1392) (by decide) (nx := 1390) rfl (fun c1387 => ?_) (fun c1387 => ?_)
  · refine g_iloadG hx dL_law_1392 (nx := 1394) rfl rfl ?_
    refine g_if_ne hx dL_law_1394 (tg := 1409) (by decide) (nx := 1397) rfl (fun c1394 => ?_) (fun c1394 => ?_)
    · refine g_goto hx dL_law_1409 (tg := 1875) (by decide) ?_
      exact go _ _ _ _ _ _ _ hR2
    · refine g_aloadG_n hx dL_law_1397 rfl (nx := 1398) rfl rfl ?_
      refine g_iconst hx dL_law_1398 (nx := 1399) rfl (v := 0) (by decide) ?_
      refine g_laload hx dL_law_1399 (nx := 1400) rfl hm1.1.2.2 (by decide) (vin (by decide)) ?_
      refine g_iloadG hx dL_law_1400 (nx := 1402) rfl rfl ?_
      refine g_i2l hx dL_law_1402 (nx := 1403) rfl ?_
      refine g_lcmp hx dL_law_1403 (nx := 1404) rfl ?_
      refine g_if_eq hx dL_law_1404 (tg := 1409) (by decide) (nx := 1407) rfl (fun c1404 => ?_) (fun c1404 => ?_)
      · refine g_goto hx dL_law_1409 (tg := 1875) (by decide) ?_
        exact go _ _ _ _ _ _ _ hR2
      · exact absurd (by rw [show L2 10 (Int32.toNatClampNeg 0) = _ from ha2 c1394]; exact cmp_rf _) c1404
  · exact absurd ht2 c1387
set_option maxHeartbeats 4000000 in
set_option maxRecDepth 100000 in
theorem lc_19 {p : Program} {l : Launch} {e : Env} {s : State} {m : MethodId} {args : Array Value} {below : List Frame} {meth : Method} {c : Code} {E : aE} {io0 : aM} {S0 : aS} {Q : State → Prop} {S : aS} {I : aI} {L : aL} {Rf : aR} {k n N t : Nat} {xs : Nat → Int32} (hx : aCx p l s m args meth c RL cL_law 8 ret E) (hst : l.stackTraces = false) (hX9 : rlX N xs E io0 S0 s) (hN : 5 * t + 5 ≤ N) (hN3 : N < 2 ^ 31) (hk9 : k + 9 ≤ room_1.cells) (hn9 : n + 568 ≤ room_1.slots) (hR : Rel N xs S I L Rf)
    (go : ∀ (S' : aS) (I' : aI) (L' : aL) (R' : aR) (w5 w6 w7 : Value), Rel N xs S' I' L' R' → aG p l e room_1 s m args below meth c E io0 S0 8 Q 1875 [.ref 1, .ref 3, .ref 20, .ref 10, .int (nI (5 * t)), w5, w6, w7] [] S' I' L' R' (k + 9) (n + 568)) : aG p l e room_1 s m args below meth c E io0 S0 8 Q 1412 [.ref 1, .ref 3, .ref 20, .ref 10, .int (nI (5 * t)), aU, aU, aU] [] S I L Rf k n := by
  refine g_aloadG_n hx dL_law_1412 rfl (nx := 1413) rfl rfl ?_
  refine g_aloadG_n hx dL_law_1413 rfl (nx := 1414) rfl rfl ?_
  refine g_iloadG hx dL_law_1414 (nx := 1416) rfl rfl ?_
  refine g_iconst hx dL_law_1416 (nx := 1417) rfl (v := 1) (by decide) ?_
  refine g_iadd hx dL_law_1417 (nx := 1418) rfl ?_
  refine g_scr hx dL_law_1418 (nx := 1419) rfl hX9 (sc1 _) (by omega) hN3 ?_
  refine g_aloadG_n hx dL_law_1419 rfl (nx := 1420) rfl rfl ?_
  refine g_iloadG hx dL_law_1420 (nx := 1422) rfl rfl ?_
  refine g_iconst hx dL_law_1422 (nx := 1423) rfl (v := 2) (by decide) ?_
  refine g_iadd hx dL_law_1423 (nx := 1424) rfl ?_
  refine g_scr hx dL_law_1424 (nx := 1425) rfl hX9 (sc2 _) (by omega) hN3 ?_
  refine g_aloadG_n hx dL_law_1425 rfl (nx := 1426) rfl rfl ?_
  refine g_iloadG hx dL_law_1426 (nx := 1428) rfl rfl ?_
  refine g_iconst hx dL_law_1428 (nx := 1429) rfl (v := 3) (by decide) ?_
  refine g_iadd hx dL_law_1429 (nx := 1430) rfl ?_
  refine g_scr hx dL_law_1430 (nx := 1431) rfl hX9 (sc3 _) (by omega) hN3 ?_
  refine g_aloadG_n hx dL_law_1431 rfl (nx := 1432) rfl rfl ?_
  refine g_callW hx [.ref 3, .int (xs (5 * t + 1)), .int (xs (5 * t + 2)), .int (xs (5 * t + 3)), .ref 10] (k' := k + 9) (n' := n + 568) dL_law_1432 (nx := 1435) rfl lk_L_170 rfl (Nat.le_of_ble_eq_true rfl) (Nat.le_of_ble_eq_true rfl) (Nat.le_of_ble_eq_true rfl) (Nat.add_le_add_left (Nat.le_of_ble_eq_true rfl) k) (Nat.add_le_add_left (Nat.le_of_ble_eq_true rfl) n) hk9 hn9 (st_power hst hR (fun c9 S1 I1 L1 R1 hm1 hk1 => ?_))
  refine g_istore_5 hx dL_law_1435 (nx := 1437) rfl (by decide) rfl ?_
  refine g_aloadG_n hx dL_law_1437 rfl (nx := 1438) rfl rfl ?_
  refine g_aloadG_n hx dL_law_1438 rfl (nx := 1439) rfl rfl ?_
  refine g_iloadG hx dL_law_1439 (nx := 1441) rfl rfl ?_
  refine g_iconst hx dL_law_1441 (nx := 1442) rfl (v := 1) (by decide) ?_
  refine g_iadd hx dL_law_1442 (nx := 1443) rfl ?_
  refine g_scr hx dL_law_1443 (nx := 1444) rfl hX9 (sc1 _) (by omega) hN3 ?_
  refine g_aloadG_n hx dL_law_1444 rfl (nx := 1445) rfl rfl ?_
  refine g_iloadG hx dL_law_1445 (nx := 1447) rfl rfl ?_
  refine g_iconst hx dL_law_1447 (nx := 1448) rfl (v := 2) (by decide) ?_
  refine g_iadd hx dL_law_1448 (nx := 1449) rfl ?_
  refine g_scr hx dL_law_1449 (nx := 1450) rfl hX9 (sc2 _) (by omega) hN3 ?_
  refine g_aloadG_n hx dL_law_1450 rfl (nx := 1451) rfl rfl ?_
  refine g_iloadG hx dL_law_1451 (nx := 1453) rfl rfl ?_
  refine g_iconst hx dL_law_1453 (nx := 1454) rfl (v := 3) (by decide) ?_
  refine g_iadd hx dL_law_1454 (nx := 1455) rfl ?_
  refine g_scr hx dL_law_1455 (nx := 1456) rfl hX9 (sc3 _) (by omega) hN3 ?_
  refine g_callV_M hx [.int (xs (5 * t + 1)), .int (xs (5 * t + 2)), .int (xs (5 * t + 3))] (k' := k + 9) (n' := n + 568) dL_law_1456 (nx := 1459) rfl lk_L_172 hm1.2 (by decide) rfl rfl (Nat.le_of_ble_eq_true rfl) (Nat.le_of_ble_eq_true rfl) (Nat.le_of_ble_eq_true rfl) (Nat.le_refl _) (Nat.le_refl _) hk9 hn9 (hk1 _ (fun b9 I2 L2 hR2 ht2 ha2 => ?_))
  refine g_lstore_6 hx dL_law_1459 (nx := 1461) rfl (by decide) rfl ?_
  refine g_aloadG_n hx dL_law_1461 rfl (nx := 1462) rfl rfl ?_
  refine g_callV_M hx [] (k' := k + 9) (n' := n + 568) dL_law_1462 (nx := 1465) rfl lk_L_107 hm1.2 (by decide) rfl rfl (Nat.le_of_ble_eq_true rfl) (Nat.le_of_ble_eq_true rfl) (Nat.le_of_ble_eq_true rfl) (Nat.le_refl _) (Nat.le_refl _) hk9 hn9 (s_X4_thrown hst hR2.ly.1 ?_)
  refine g_iloadG hx dL_law_1465 (nx := 1467) rfl rfl ?_
  refine g_icmp_eq hx dL_law_1467 (tg := 1472) (by decide) (nx := 1470) rfl (fun c1467 => ?_) (fun c1467 => ?_)
  · refine g_iloadG hx dL_law_1472 (nx := 1474) rfl rfl ?_
    refine g_if_ne hx dL_law_1474 (tg := 1488) (by decide) (nx := 1477) rfl (fun c1474 => ?_) (fun c1474 => ?_)
    · refine g_goto hx dL_law_1488 (tg := 1875) (by decide) ?_
      exact go _ _ _ _ _ _ _ hR2
    · refine g_aloadG_n hx dL_law_1477 rfl (nx := 1478) rfl rfl ?_
      refine g_iconst hx dL_law_1478 (nx := 1479) rfl (v := 0) (by decide) ?_
      refine g_laload hx dL_law_1479 (nx := 1480) rfl hm1.1.2.2 (by decide) (vin (by decide)) ?_
      refine g_lloadG hx dL_law_1480 (nx := 1482) rfl rfl ?_
      refine g_lcmp hx dL_law_1482 (nx := 1483) rfl ?_
      refine g_if_eq hx dL_law_1483 (tg := 1488) (by decide) (nx := 1486) rfl (fun c1483 => ?_) (fun c1483 => ?_)
      · refine g_goto hx dL_law_1488 (tg := 1875) (by decide) ?_
        exact go _ _ _ _ _ _ _ hR2
      · exact absurd (by rw [show L2 10 (Int32.toNatClampNeg 0) = _ from ha2 c1474]; exact cmp_rf _) c1483
  · exact absurd ht2 c1467
set_option maxHeartbeats 4000000 in
set_option maxRecDepth 100000 in
theorem lc_20 {p : Program} {l : Launch} {e : Env} {s : State} {m : MethodId} {args : Array Value} {below : List Frame} {meth : Method} {c : Code} {E : aE} {io0 : aM} {S0 : aS} {Q : State → Prop} {S : aS} {I : aI} {L : aL} {Rf : aR} {k n N t : Nat} {xs : Nat → Int32} (hx : aCx p l s m args meth c RL cL_law 8 ret E) (hst : l.stackTraces = false) (hX9 : rlX N xs E io0 S0 s) (hN : 5 * t + 5 ≤ N) (hN3 : N < 2 ^ 31) (hk9 : k + 9 ≤ room_1.cells) (hn9 : n + 568 ≤ room_1.slots) (hR : Rel N xs S I L Rf)
    (go : ∀ (S' : aS) (I' : aI) (L' : aL) (R' : aR) (w5 w6 w7 : Value), Rel N xs S' I' L' R' → aG p l e room_1 s m args below meth c E io0 S0 8 Q 1875 [.ref 1, .ref 3, .ref 20, .ref 10, .int (nI (5 * t)), w5, w6, w7] [] S' I' L' R' (k + 9) (n + 568)) : aG p l e room_1 s m args below meth c E io0 S0 8 Q 1491 [.ref 1, .ref 3, .ref 20, .ref 10, .int (nI (5 * t)), aU, aU, aU] [] S I L Rf k n := by
  refine g_aloadG_n hx dL_law_1491 rfl (nx := 1492) rfl rfl ?_
  refine g_aloadG_n hx dL_law_1492 rfl (nx := 1493) rfl rfl ?_
  refine g_iloadG hx dL_law_1493 (nx := 1495) rfl rfl ?_
  refine g_iconst hx dL_law_1495 (nx := 1496) rfl (v := 1) (by decide) ?_
  refine g_iadd hx dL_law_1496 (nx := 1497) rfl ?_
  refine g_scr hx dL_law_1497 (nx := 1498) rfl hX9 (sc1 _) (by omega) hN3 ?_
  refine g_aloadG_n hx dL_law_1498 rfl (nx := 1499) rfl rfl ?_
  refine g_iloadG hx dL_law_1499 (nx := 1501) rfl rfl ?_
  refine g_iconst hx dL_law_1501 (nx := 1502) rfl (v := 2) (by decide) ?_
  refine g_iadd hx dL_law_1502 (nx := 1503) rfl ?_
  refine g_scr hx dL_law_1503 (nx := 1504) rfl hX9 (sc2 _) (by omega) hN3 ?_
  refine g_aloadG_n hx dL_law_1504 rfl (nx := 1505) rfl rfl ?_
  refine g_callW hx [.ref 3, .int (xs (5 * t + 1)), .int (xs (5 * t + 2)), .ref 10] (k' := k + 9) (n' := n + 568) dL_law_1505 (nx := 1508) rfl lk_L_173 rfl (Nat.le_of_ble_eq_true rfl) (Nat.le_of_ble_eq_true rfl) (Nat.le_of_ble_eq_true rfl) (Nat.add_le_add_left (Nat.le_of_ble_eq_true rfl) k) (Nat.add_le_add_left (Nat.le_of_ble_eq_true rfl) n) hk9 hn9 (st_window hst hR (fun c9 S1 I1 L1 R1 hm1 hk1 => ?_))
  refine g_istore_5 hx dL_law_1508 (nx := 1510) rfl (by decide) rfl ?_
  refine g_aloadG_n hx dL_law_1510 rfl (nx := 1511) rfl rfl ?_
  refine g_aloadG_n hx dL_law_1511 rfl (nx := 1512) rfl rfl ?_
  refine g_iloadG hx dL_law_1512 (nx := 1514) rfl rfl ?_
  refine g_iconst hx dL_law_1514 (nx := 1515) rfl (v := 1) (by decide) ?_
  refine g_iadd hx dL_law_1515 (nx := 1516) rfl ?_
  refine g_scr hx dL_law_1516 (nx := 1517) rfl hX9 (sc1 _) (by omega) hN3 ?_
  refine g_aloadG_n hx dL_law_1517 rfl (nx := 1518) rfl rfl ?_
  refine g_iloadG hx dL_law_1518 (nx := 1520) rfl rfl ?_
  refine g_iconst hx dL_law_1520 (nx := 1521) rfl (v := 2) (by decide) ?_
  refine g_iadd hx dL_law_1521 (nx := 1522) rfl ?_
  refine g_scr hx dL_law_1522 (nx := 1523) rfl hX9 (sc2 _) (by omega) hN3 ?_
  refine g_callV_M hx [.int (xs (5 * t + 1)), .int (xs (5 * t + 2))] (k' := k + 9) (n' := n + 568) dL_law_1523 (nx := 1526) rfl lk_L_175 hm1.2 (by decide) rfl rfl (Nat.le_of_ble_eq_true rfl) (Nat.le_of_ble_eq_true rfl) (Nat.le_of_ble_eq_true rfl) (Nat.le_refl _) (Nat.le_refl _) hk9 hn9 (hk1 _ (fun b9 I2 L2 hR2 ht2 ha2 => ?_))
  refine g_lstore_6 hx dL_law_1526 (nx := 1528) rfl (by decide) rfl ?_
  refine g_aloadG_n hx dL_law_1528 rfl (nx := 1529) rfl rfl ?_
  refine g_callV_M hx [] (k' := k + 9) (n' := n + 568) dL_law_1529 (nx := 1532) rfl lk_L_107 hm1.2 (by decide) rfl rfl (Nat.le_of_ble_eq_true rfl) (Nat.le_of_ble_eq_true rfl) (Nat.le_of_ble_eq_true rfl) (Nat.le_refl _) (Nat.le_refl _) hk9 hn9 (s_X4_thrown hst hR2.ly.1 ?_)
  refine g_iloadG hx dL_law_1532 (nx := 1534) rfl rfl ?_
  refine g_icmp_eq hx dL_law_1534 (tg := 1539) (by decide) (nx := 1537) rfl (fun c1534 => ?_) (fun c1534 => ?_)
  · refine g_iloadG hx dL_law_1539 (nx := 1541) rfl rfl ?_
    refine g_if_ne hx dL_law_1541 (tg := 1555) (by decide) (nx := 1544) rfl (fun c1541 => ?_) (fun c1541 => ?_)
    · refine g_goto hx dL_law_1555 (tg := 1875) (by decide) ?_
      exact go _ _ _ _ _ _ _ hR2
    · refine g_aloadG_n hx dL_law_1544 rfl (nx := 1545) rfl rfl ?_
      refine g_iconst hx dL_law_1545 (nx := 1546) rfl (v := 0) (by decide) ?_
      refine g_laload hx dL_law_1546 (nx := 1547) rfl hm1.1.2.2 (by decide) (vin (by decide)) ?_
      refine g_lloadG hx dL_law_1547 (nx := 1549) rfl rfl ?_
      refine g_lcmp hx dL_law_1549 (nx := 1550) rfl ?_
      refine g_if_eq hx dL_law_1550 (tg := 1555) (by decide) (nx := 1553) rfl (fun c1550 => ?_) (fun c1550 => ?_)
      · refine g_goto hx dL_law_1555 (tg := 1875) (by decide) ?_
        exact go _ _ _ _ _ _ _ hR2
      · exact absurd (by rw [show L2 10 (Int32.toNatClampNeg 0) = _ from ha2 c1541]; exact cmp_rf _) c1550
  · exact absurd ht2 c1534
set_option maxHeartbeats 4000000 in
set_option maxRecDepth 100000 in
theorem lc_21 {p : Program} {l : Launch} {e : Env} {s : State} {m : MethodId} {args : Array Value} {below : List Frame} {meth : Method} {c : Code} {E : aE} {io0 : aM} {S0 : aS} {Q : State → Prop} {S : aS} {I : aI} {L : aL} {Rf : aR} {k n N t : Nat} {xs : Nat → Int32} (hx : aCx p l s m args meth c RL cL_law 8 ret E) (hst : l.stackTraces = false) (hX9 : rlX N xs E io0 S0 s) (hN : 5 * t + 5 ≤ N) (hN3 : N < 2 ^ 31) (hk9 : k + 9 ≤ room_1.cells) (hn9 : n + 568 ≤ room_1.slots) (hR : Rel N xs S I L Rf)
    (go : ∀ (S' : aS) (I' : aI) (L' : aL) (R' : aR) (w5 w6 w7 : Value), Rel N xs S' I' L' R' → aG p l e room_1 s m args below meth c E io0 S0 8 Q 1875 [.ref 1, .ref 3, .ref 20, .ref 10, .int (nI (5 * t)), w5, w6, w7] [] S' I' L' R' (k + 9) (n + 568)) : aG p l e room_1 s m args below meth c E io0 S0 8 Q 1558 [.ref 1, .ref 3, .ref 20, .ref 10, .int (nI (5 * t)), aU, aU, aU] [] S I L Rf k n := by
  refine g_aloadG_n hx dL_law_1558 rfl (nx := 1559) rfl rfl ?_
  refine g_aloadG_n hx dL_law_1559 rfl (nx := 1560) rfl rfl ?_
  refine g_iloadG hx dL_law_1560 (nx := 1562) rfl rfl ?_
  refine g_iconst hx dL_law_1562 (nx := 1563) rfl (v := 1) (by decide) ?_
  refine g_iadd hx dL_law_1563 (nx := 1564) rfl ?_
  refine g_scr hx dL_law_1564 (nx := 1565) rfl hX9 (sc1 _) (by omega) hN3 ?_
  refine g_aloadG_n hx dL_law_1565 rfl (nx := 1566) rfl rfl ?_
  refine g_iloadG hx dL_law_1566 (nx := 1568) rfl rfl ?_
  refine g_iconst hx dL_law_1568 (nx := 1569) rfl (v := 2) (by decide) ?_
  refine g_iadd hx dL_law_1569 (nx := 1570) rfl ?_
  refine g_scr hx dL_law_1570 (nx := 1571) rfl hX9 (sc2 _) (by omega) hN3 ?_
  refine g_aloadG_n hx dL_law_1571 rfl (nx := 1572) rfl rfl ?_
  refine g_iloadG hx dL_law_1572 (nx := 1574) rfl rfl ?_
  refine g_iconst hx dL_law_1574 (nx := 1575) rfl (v := 3) (by decide) ?_
  refine g_iadd hx dL_law_1575 (nx := 1576) rfl ?_
  refine g_scr hx dL_law_1576 (nx := 1577) rfl hX9 (sc3 _) (by omega) hN3 ?_
  refine g_aloadG_n hx dL_law_1577 rfl (nx := 1578) rfl rfl ?_
  refine g_callW hx [.ref 3, .int (xs (5 * t + 1)), .int (xs (5 * t + 2)), .int (xs (5 * t + 3)), .ref 10] (k' := k + 9) (n' := n + 568) dL_law_1578 (nx := 1581) rfl lk_L_176 rfl (Nat.le_of_ble_eq_true rfl) (Nat.le_of_ble_eq_true rfl) (Nat.le_of_ble_eq_true rfl) (Nat.add_le_add_left (Nat.le_of_ble_eq_true rfl) k) (Nat.add_le_add_left (Nat.le_of_ble_eq_true rfl) n) hk9 hn9 (st_isPeak hst hR (fun c9 S1 I1 L1 R1 hm1 hk1 => ?_))
  refine g_istore_5 hx dL_law_1581 (nx := 1583) rfl (by decide) rfl ?_
  refine g_aloadG_n hx dL_law_1583 rfl (nx := 1584) rfl rfl ?_
  refine g_aloadG_n hx dL_law_1584 rfl (nx := 1585) rfl rfl ?_
  refine g_iloadG hx dL_law_1585 (nx := 1587) rfl rfl ?_
  refine g_iconst hx dL_law_1587 (nx := 1588) rfl (v := 1) (by decide) ?_
  refine g_iadd hx dL_law_1588 (nx := 1589) rfl ?_
  refine g_scr hx dL_law_1589 (nx := 1590) rfl hX9 (sc1 _) (by omega) hN3 ?_
  refine g_aloadG_n hx dL_law_1590 rfl (nx := 1591) rfl rfl ?_
  refine g_iloadG hx dL_law_1591 (nx := 1593) rfl rfl ?_
  refine g_iconst hx dL_law_1593 (nx := 1594) rfl (v := 2) (by decide) ?_
  refine g_iadd hx dL_law_1594 (nx := 1595) rfl ?_
  refine g_scr hx dL_law_1595 (nx := 1596) rfl hX9 (sc2 _) (by omega) hN3 ?_
  refine g_aloadG_n hx dL_law_1596 rfl (nx := 1597) rfl rfl ?_
  refine g_iloadG hx dL_law_1597 (nx := 1599) rfl rfl ?_
  refine g_iconst hx dL_law_1599 (nx := 1600) rfl (v := 3) (by decide) ?_
  refine g_iadd hx dL_law_1600 (nx := 1601) rfl ?_
  refine g_scr hx dL_law_1601 (nx := 1602) rfl hX9 (sc3 _) (by omega) hN3 ?_
  refine g_callV_M hx [.int (xs (5 * t + 1)), .int (xs (5 * t + 2)), .int (xs (5 * t + 3))] (k' := k + 9) (n' := n + 568) dL_law_1602 (nx := 1605) rfl lk_L_178 hm1.2 (by decide) rfl rfl (Nat.le_of_ble_eq_true rfl) (Nat.le_of_ble_eq_true rfl) (Nat.le_of_ble_eq_true rfl) (Nat.le_refl _) (Nat.le_refl _) hk9 hn9 (hk1 _ (fun b9 I2 L2 hR2 ht2 ha2 => ?_))
  refine g_istore_6 hx dL_law_1605 (nx := 1607) rfl (by decide) rfl ?_
  refine g_aloadG_n hx dL_law_1607 rfl (nx := 1608) rfl rfl ?_
  refine g_callV_M hx [] (k' := k + 9) (n' := n + 568) dL_law_1608 (nx := 1611) rfl lk_L_107 hm1.2 (by decide) rfl rfl (Nat.le_of_ble_eq_true rfl) (Nat.le_of_ble_eq_true rfl) (Nat.le_of_ble_eq_true rfl) (Nat.le_refl _) (Nat.le_refl _) hk9 hn9 (s_X4_thrown hst hR2.ly.1 ?_)
  refine g_iloadG hx dL_law_1611 (nx := 1613) rfl rfl ?_
  refine g_icmp_eq hx dL_law_1613 (tg := 1618) (by decide) (nx := 1616) rfl (fun c1613 => ?_) (fun c1613 => ?_)
  · refine g_iloadG hx dL_law_1618 (nx := 1620) rfl rfl ?_
    refine g_if_ne hx dL_law_1620 (tg := 1642) (by decide) (nx := 1623) rfl (fun c1620 => ?_) (fun c1620 => ?_)
    · refine g_goto hx dL_law_1642 (tg := 1875) (by decide) ?_
      exact go _ _ _ _ _ _ _ hR2
    · refine g_aloadG_n hx dL_law_1623 rfl (nx := 1624) rfl rfl ?_
      refine g_iconst hx dL_law_1624 (nx := 1625) rfl (v := 0) (by decide) ?_
      refine g_laload hx dL_law_1625 (nx := 1626) rfl hm1.1.2.2 (by decide) (vin (by decide)) ?_
      refine g_iloadG hx dL_law_1626 (nx := 1628) rfl rfl ?_
      refine g_if_eq hx dL_law_1628 (tg := 1635) (by decide) (nx := 1631) rfl (fun c1628 => ?_) (fun c1628 => ?_)
      · refine g_lconst hx dL_law_1635 (nx := 1636) rfl (v := 0) (by decide) ?_
        refine g_lcmp hx dL_law_1636 (nx := 1637) rfl ?_
        refine g_if_eq hx dL_law_1637 (tg := 1642) (by decide) (nx := 1640) rfl (fun c1637 => ?_) (fun c1637 => ?_)
        · refine g_goto hx dL_law_1642 (tg := 1875) (by decide) ?_
          exact go _ _ _ _ _ _ _ hR2
        · exact absurd (by rw [show L2 10 (Int32.toNatClampNeg 0) = _ from ha2 c1620, if_pos c1628]; exact cmp_rf _) c1637
      · refine g_lconst hx dL_law_1631 (nx := 1632) rfl (v := 1) (by decide) ?_
        refine g_goto hx dL_law_1632 (tg := 1636) (by decide) ?_
        refine g_lcmp hx dL_law_1636 (nx := 1637) rfl ?_
        refine g_if_eq hx dL_law_1637 (tg := 1642) (by decide) (nx := 1640) rfl (fun c1637 => ?_) (fun c1637 => ?_)
        · refine g_goto hx dL_law_1642 (tg := 1875) (by decide) ?_
          exact go _ _ _ _ _ _ _ hR2
        · exact absurd (by rw [show L2 10 (Int32.toNatClampNeg 0) = _ from ha2 c1620, if_neg c1628]; exact cmp_rf _) c1637
  · exact absurd ht2 c1613
set_option maxHeartbeats 4000000 in
set_option maxRecDepth 100000 in
theorem lc_22 {p : Program} {l : Launch} {e : Env} {s : State} {m : MethodId} {args : Array Value} {below : List Frame} {meth : Method} {c : Code} {E : aE} {io0 : aM} {S0 : aS} {Q : State → Prop} {S : aS} {I : aI} {L : aL} {Rf : aR} {k n N t : Nat} {xs : Nat → Int32} (hx : aCx p l s m args meth c RL cL_law 8 ret E) (hst : l.stackTraces = false) (hX9 : rlX N xs E io0 S0 s) (hN : 5 * t + 5 ≤ N) (hN3 : N < 2 ^ 31) (hk9 : k + 9 ≤ room_1.cells) (hn9 : n + 568 ≤ room_1.slots) (hR : Rel N xs S I L Rf)
    (go : ∀ (S' : aS) (I' : aI) (L' : aL) (R' : aR) (w5 w6 w7 : Value), Rel N xs S' I' L' R' → aG p l e room_1 s m args below meth c E io0 S0 8 Q 1875 [.ref 1, .ref 3, .ref 20, .ref 10, .int (nI (5 * t)), w5, w6, w7] [] S' I' L' R' (k + 9) (n + 568)) : aG p l e room_1 s m args below meth c E io0 S0 8 Q 1645 [.ref 1, .ref 3, .ref 20, .ref 10, .int (nI (5 * t)), aU, aU, aU] [] S I L Rf k n := by
  refine g_aloadG_n hx dL_law_1645 rfl (nx := 1646) rfl rfl ?_
  refine g_aloadG_n hx dL_law_1646 rfl (nx := 1647) rfl rfl ?_
  refine g_iloadG hx dL_law_1647 (nx := 1649) rfl rfl ?_
  refine g_iconst hx dL_law_1649 (nx := 1650) rfl (v := 1) (by decide) ?_
  refine g_iadd hx dL_law_1650 (nx := 1651) rfl ?_
  refine g_scr hx dL_law_1651 (nx := 1652) rfl hX9 (sc1 _) (by omega) hN3 ?_
  refine g_aloadG_n hx dL_law_1652 rfl (nx := 1653) rfl rfl ?_
  refine g_iloadG hx dL_law_1653 (nx := 1655) rfl rfl ?_
  refine g_iconst hx dL_law_1655 (nx := 1656) rfl (v := 2) (by decide) ?_
  refine g_iadd hx dL_law_1656 (nx := 1657) rfl ?_
  refine g_scr hx dL_law_1657 (nx := 1658) rfl hX9 (sc2 _) (by omega) hN3 ?_
  refine g_aloadG_n hx dL_law_1658 rfl (nx := 1659) rfl rfl ?_
  refine g_iloadG hx dL_law_1659 (nx := 1661) rfl rfl ?_
  refine g_iconst hx dL_law_1661 (nx := 1662) rfl (v := 3) (by decide) ?_
  refine g_iadd hx dL_law_1662 (nx := 1663) rfl ?_
  refine g_scr hx dL_law_1663 (nx := 1664) rfl hX9 (sc3 _) (by omega) hN3 ?_
  refine g_aloadG_n hx dL_law_1664 rfl (nx := 1665) rfl rfl ?_
  refine g_iloadG hx dL_law_1665 (nx := 1667) rfl rfl ?_
  refine g_iconst hx dL_law_1667 (nx := 1668) rfl (v := 4) (by decide) ?_
  refine g_iadd hx dL_law_1668 (nx := 1669) rfl ?_
  refine g_scr hx dL_law_1669 (nx := 1670) rfl hX9 (sc4 _) (by omega) hN3 ?_
  refine g_aloadG_n hx dL_law_1670 rfl (nx := 1671) rfl rfl ?_
  refine g_callW hx [.ref 3, .int (xs (5 * t + 1)), .int (xs (5 * t + 2)), .int (xs (5 * t + 3)), .int (xs (5 * t + 4)), .ref 10] (k' := k + 9) (n' := n + 568) dL_law_1671 (nx := 1674) rfl lk_L_179 rfl (Nat.le_of_ble_eq_true rfl) (Nat.le_of_ble_eq_true rfl) (Nat.le_of_ble_eq_true rfl) (Nat.add_le_add_left (Nat.le_of_ble_eq_true rfl) k) (Nat.add_le_add_left (Nat.le_of_ble_eq_true rfl) n) hk9 hn9 (st_isSeenThrough hst hR (fun c9 S1 I1 L1 R1 hm1 hk1 => ?_))
  refine g_istore_5 hx dL_law_1674 (nx := 1676) rfl (by decide) rfl ?_
  refine g_aloadG_n hx dL_law_1676 rfl (nx := 1677) rfl rfl ?_
  refine g_aloadG_n hx dL_law_1677 rfl (nx := 1678) rfl rfl ?_
  refine g_iloadG hx dL_law_1678 (nx := 1680) rfl rfl ?_
  refine g_iconst hx dL_law_1680 (nx := 1681) rfl (v := 1) (by decide) ?_
  refine g_iadd hx dL_law_1681 (nx := 1682) rfl ?_
  refine g_scr hx dL_law_1682 (nx := 1683) rfl hX9 (sc1 _) (by omega) hN3 ?_
  refine g_aloadG_n hx dL_law_1683 rfl (nx := 1684) rfl rfl ?_
  refine g_iloadG hx dL_law_1684 (nx := 1686) rfl rfl ?_
  refine g_iconst hx dL_law_1686 (nx := 1687) rfl (v := 2) (by decide) ?_
  refine g_iadd hx dL_law_1687 (nx := 1688) rfl ?_
  refine g_scr hx dL_law_1688 (nx := 1689) rfl hX9 (sc2 _) (by omega) hN3 ?_
  refine g_aloadG_n hx dL_law_1689 rfl (nx := 1690) rfl rfl ?_
  refine g_iloadG hx dL_law_1690 (nx := 1692) rfl rfl ?_
  refine g_iconst hx dL_law_1692 (nx := 1693) rfl (v := 3) (by decide) ?_
  refine g_iadd hx dL_law_1693 (nx := 1694) rfl ?_
  refine g_scr hx dL_law_1694 (nx := 1695) rfl hX9 (sc3 _) (by omega) hN3 ?_
  refine g_aloadG_n hx dL_law_1695 rfl (nx := 1696) rfl rfl ?_
  refine g_iloadG hx dL_law_1696 (nx := 1698) rfl rfl ?_
  refine g_iconst hx dL_law_1698 (nx := 1699) rfl (v := 4) (by decide) ?_
  refine g_iadd hx dL_law_1699 (nx := 1700) rfl ?_
  refine g_scr hx dL_law_1700 (nx := 1701) rfl hX9 (sc4 _) (by omega) hN3 ?_
  refine g_callV_M hx [.int (xs (5 * t + 1)), .int (xs (5 * t + 2)), .int (xs (5 * t + 3)), .int (xs (5 * t + 4))] (k' := k + 9) (n' := n + 568) dL_law_1701 (nx := 1704) rfl lk_L_181 hm1.2 (by decide) rfl rfl (Nat.le_of_ble_eq_true rfl) (Nat.le_of_ble_eq_true rfl) (Nat.le_of_ble_eq_true rfl) (Nat.le_refl _) (Nat.le_refl _) hk9 hn9 (hk1 _ (fun b9 I2 L2 hR2 ht2 ha2 => ?_))
  refine g_istore_6 hx dL_law_1704 (nx := 1706) rfl (by decide) rfl ?_
  refine g_aloadG_n hx dL_law_1706 rfl (nx := 1707) rfl rfl ?_
  refine g_callV_M hx [] (k' := k + 9) (n' := n + 568) dL_law_1707 (nx := 1710) rfl lk_L_107 hm1.2 (by decide) rfl rfl (Nat.le_of_ble_eq_true rfl) (Nat.le_of_ble_eq_true rfl) (Nat.le_of_ble_eq_true rfl) (Nat.le_refl _) (Nat.le_refl _) hk9 hn9 (s_X4_thrown hst hR2.ly.1 ?_)
  refine g_iloadG hx dL_law_1710 (nx := 1712) rfl rfl ?_
  refine g_icmp_eq hx dL_law_1712 (tg := 1717) (by decide) (nx := 1715) rfl (fun c1712 => ?_) (fun c1712 => ?_)
  · refine g_iloadG hx dL_law_1717 (nx := 1719) rfl rfl ?_
    refine g_if_ne hx dL_law_1719 (tg := 1741) (by decide) (nx := 1722) rfl (fun c1719 => ?_) (fun c1719 => ?_)
    · refine g_goto hx dL_law_1741 (tg := 1875) (by decide) ?_
      exact go _ _ _ _ _ _ _ hR2
    · refine g_aloadG_n hx dL_law_1722 rfl (nx := 1723) rfl rfl ?_
      refine g_iconst hx dL_law_1723 (nx := 1724) rfl (v := 0) (by decide) ?_
      refine g_laload hx dL_law_1724 (nx := 1725) rfl hm1.1.2.2 (by decide) (vin (by decide)) ?_
      refine g_iloadG hx dL_law_1725 (nx := 1727) rfl rfl ?_
      refine g_if_eq hx dL_law_1727 (tg := 1734) (by decide) (nx := 1730) rfl (fun c1727 => ?_) (fun c1727 => ?_)
      · refine g_lconst hx dL_law_1734 (nx := 1735) rfl (v := 0) (by decide) ?_
        refine g_lcmp hx dL_law_1735 (nx := 1736) rfl ?_
        refine g_if_eq hx dL_law_1736 (tg := 1741) (by decide) (nx := 1739) rfl (fun c1736 => ?_) (fun c1736 => ?_)
        · refine g_goto hx dL_law_1741 (tg := 1875) (by decide) ?_
          exact go _ _ _ _ _ _ _ hR2
        · exact absurd (by rw [show L2 10 (Int32.toNatClampNeg 0) = _ from ha2 c1719, if_pos c1727]; exact cmp_rf _) c1736
      · refine g_lconst hx dL_law_1730 (nx := 1731) rfl (v := 1) (by decide) ?_
        refine g_goto hx dL_law_1731 (tg := 1735) (by decide) ?_
        refine g_lcmp hx dL_law_1735 (nx := 1736) rfl ?_
        refine g_if_eq hx dL_law_1736 (tg := 1741) (by decide) (nx := 1739) rfl (fun c1736 => ?_) (fun c1736 => ?_)
        · refine g_goto hx dL_law_1741 (tg := 1875) (by decide) ?_
          exact go _ _ _ _ _ _ _ hR2
        · exact absurd (by rw [show L2 10 (Int32.toNatClampNeg 0) = _ from ha2 c1719, if_neg c1727]; exact cmp_rf _) c1736
  · exact absurd ht2 c1712
set_option maxHeartbeats 4000000 in
set_option maxRecDepth 100000 in
theorem lc_23 {p : Program} {l : Launch} {e : Env} {s : State} {m : MethodId} {args : Array Value} {below : List Frame} {meth : Method} {c : Code} {E : aE} {io0 : aM} {S0 : aS} {Q : State → Prop} {S : aS} {I : aI} {L : aL} {Rf : aR} {k n N t : Nat} {xs : Nat → Int32} (hx : aCx p l s m args meth c RL cL_law 8 ret E) (hst : l.stackTraces = false) (hX9 : rlX N xs E io0 S0 s) (hN : 5 * t + 5 ≤ N) (hN3 : N < 2 ^ 31) (hk9 : k + 9 ≤ room_1.cells) (hn9 : n + 568 ≤ room_1.slots) (hR : Rel N xs S I L Rf)
    (go : ∀ (S' : aS) (I' : aI) (L' : aL) (R' : aR) (w5 w6 w7 : Value), Rel N xs S' I' L' R' → aG p l e room_1 s m args below meth c E io0 S0 8 Q 1875 [.ref 1, .ref 3, .ref 20, .ref 10, .int (nI (5 * t)), w5, w6, w7] [] S' I' L' R' (k + 9) (n + 568)) : aG p l e room_1 s m args below meth c E io0 S0 8 Q 1744 [.ref 1, .ref 3, .ref 20, .ref 10, .int (nI (5 * t)), aU, aU, aU] [] S I L Rf k n := by
  refine g_aloadG_n hx dL_law_1744 rfl (nx := 1745) rfl rfl ?_
  refine g_aloadG_n hx dL_law_1745 rfl (nx := 1746) rfl rfl ?_
  refine g_iloadG hx dL_law_1746 (nx := 1748) rfl rfl ?_
  refine g_iconst hx dL_law_1748 (nx := 1749) rfl (v := 1) (by decide) ?_
  refine g_iadd hx dL_law_1749 (nx := 1750) rfl ?_
  refine g_scr hx dL_law_1750 (nx := 1751) rfl hX9 (sc1 _) (by omega) hN3 ?_
  refine g_aloadG_n hx dL_law_1751 rfl (nx := 1752) rfl rfl ?_
  refine g_iloadG hx dL_law_1752 (nx := 1754) rfl rfl ?_
  refine g_iconst hx dL_law_1754 (nx := 1755) rfl (v := 2) (by decide) ?_
  refine g_iadd hx dL_law_1755 (nx := 1756) rfl ?_
  refine g_scr hx dL_law_1756 (nx := 1757) rfl hX9 (sc2 _) (by omega) hN3 ?_
  refine g_aloadG_n hx dL_law_1757 rfl (nx := 1758) rfl rfl ?_
  refine g_callW hx [.ref 3, .int (xs (5 * t + 1)), .int (xs (5 * t + 2)), .ref 10] (k' := k + 9) (n' := n + 568) dL_law_1758 (nx := 1761) rfl lk_L_182 rfl (Nat.le_of_ble_eq_true rfl) (Nat.le_of_ble_eq_true rfl) (Nat.le_of_ble_eq_true rfl) (Nat.add_le_add_left (Nat.le_of_ble_eq_true rfl) k) (Nat.add_le_add_left (Nat.le_of_ble_eq_true rfl) n) hk9 hn9 (st_ofClaim hst hR (fun c9 S1 I1 L1 R1 hm1 hk1 => ?_))
  refine g_istore_5 hx dL_law_1761 (nx := 1763) rfl (by decide) rfl ?_
  refine g_aloadG_n hx dL_law_1763 rfl (nx := 1764) rfl rfl ?_
  refine g_aloadG_n hx dL_law_1764 rfl (nx := 1765) rfl rfl ?_
  refine g_iloadG hx dL_law_1765 (nx := 1767) rfl rfl ?_
  refine g_iconst hx dL_law_1767 (nx := 1768) rfl (v := 1) (by decide) ?_
  refine g_iadd hx dL_law_1768 (nx := 1769) rfl ?_
  refine g_scr hx dL_law_1769 (nx := 1770) rfl hX9 (sc1 _) (by omega) hN3 ?_
  refine g_aloadG_n hx dL_law_1770 rfl (nx := 1771) rfl rfl ?_
  refine g_iloadG hx dL_law_1771 (nx := 1773) rfl rfl ?_
  refine g_iconst hx dL_law_1773 (nx := 1774) rfl (v := 2) (by decide) ?_
  refine g_iadd hx dL_law_1774 (nx := 1775) rfl ?_
  refine g_scr hx dL_law_1775 (nx := 1776) rfl hX9 (sc2 _) (by omega) hN3 ?_
  refine g_callV_M hx [.int (xs (5 * t + 1)), .int (xs (5 * t + 2))] (k' := k + 9) (n' := n + 568) dL_law_1776 (nx := 1779) rfl lk_L_184 hm1.2 (by decide) rfl rfl (Nat.le_of_ble_eq_true rfl) (Nat.le_of_ble_eq_true rfl) (Nat.le_of_ble_eq_true rfl) (Nat.le_refl _) (Nat.le_refl _) hk9 hn9 (hk1 _ (fun b9 I2 L2 hR2 ht2 ha2 => ?_))
  refine g_istore_6 hx dL_law_1779 (nx := 1781) rfl (by decide) rfl ?_
  refine g_aloadG_n hx dL_law_1781 rfl (nx := 1782) rfl rfl ?_
  refine g_callV_M hx [] (k' := k + 9) (n' := n + 568) dL_law_1782 (nx := 1785) rfl lk_L_107 hm1.2 (by decide) rfl rfl (Nat.le_of_ble_eq_true rfl) (Nat.le_of_ble_eq_true rfl) (Nat.le_of_ble_eq_true rfl) (Nat.le_refl _) (Nat.le_refl _) hk9 hn9 (s_X4_thrown hst hR2.ly.1 ?_)
  refine g_iloadG hx dL_law_1785 (nx := 1787) rfl rfl ?_
  refine g_icmp_eq hx dL_law_1787 (tg := 1792) (by decide) (nx := 1790) rfl (fun c1787 => ?_) (fun c1787 => ?_)
  · refine g_iloadG hx dL_law_1792 (nx := 1794) rfl rfl ?_
    refine g_if_ne hx dL_law_1794 (tg := 1809) (by decide) (nx := 1797) rfl (fun c1794 => ?_) (fun c1794 => ?_)
    · refine g_goto hx dL_law_1809 (tg := 1875) (by decide) ?_
      exact go _ _ _ _ _ _ _ hR2
    · refine g_aloadG_n hx dL_law_1797 rfl (nx := 1798) rfl rfl ?_
      refine g_iconst hx dL_law_1798 (nx := 1799) rfl (v := 0) (by decide) ?_
      refine g_laload hx dL_law_1799 (nx := 1800) rfl hm1.1.2.2 (by decide) (vin (by decide)) ?_
      refine g_iloadG hx dL_law_1800 (nx := 1802) rfl rfl ?_
      refine g_i2l hx dL_law_1802 (nx := 1803) rfl ?_
      refine g_lcmp hx dL_law_1803 (nx := 1804) rfl ?_
      refine g_if_eq hx dL_law_1804 (tg := 1809) (by decide) (nx := 1807) rfl (fun c1804 => ?_) (fun c1804 => ?_)
      · refine g_goto hx dL_law_1809 (tg := 1875) (by decide) ?_
        exact go _ _ _ _ _ _ _ hR2
      · exact absurd (by rw [show L2 10 (Int32.toNatClampNeg 0) = _ from ha2 c1794]; exact cmp_rf _) c1804
  · exact absurd ht2 c1787
set_option maxHeartbeats 4000000 in
set_option maxRecDepth 100000 in
theorem lc_24 {p : Program} {l : Launch} {e : Env} {s : State} {m : MethodId} {args : Array Value} {below : List Frame} {meth : Method} {c : Code} {E : aE} {io0 : aM} {S0 : aS} {Q : State → Prop} {S : aS} {I : aI} {L : aL} {Rf : aR} {k n N t : Nat} {xs : Nat → Int32} (hx : aCx p l s m args meth c RL cL_law 8 ret E) (hst : l.stackTraces = false) (hX9 : rlX N xs E io0 S0 s) (hN : 5 * t + 5 ≤ N) (hN3 : N < 2 ^ 31) (hk9 : k + 9 ≤ room_1.cells) (hn9 : n + 568 ≤ room_1.slots) (hR : Rel N xs S I L Rf)
    (go : ∀ (S' : aS) (I' : aI) (L' : aL) (R' : aR) (w5 w6 w7 : Value), Rel N xs S' I' L' R' → aG p l e room_1 s m args below meth c E io0 S0 8 Q 1875 [.ref 1, .ref 3, .ref 20, .ref 10, .int (nI (5 * t)), w5, w6, w7] [] S' I' L' R' (k + 9) (n + 568)) : aG p l e room_1 s m args below meth c E io0 S0 8 Q 1812 [.ref 1, .ref 3, .ref 20, .ref 10, .int (nI (5 * t)), aU, aU, aU] [] S I L Rf k n := by
  refine g_aloadG_n hx dL_law_1812 rfl (nx := 1813) rfl rfl ?_
  refine g_aloadG_n hx dL_law_1813 rfl (nx := 1814) rfl rfl ?_
  refine g_iloadG hx dL_law_1814 (nx := 1816) rfl rfl ?_
  refine g_iconst hx dL_law_1816 (nx := 1817) rfl (v := 1) (by decide) ?_
  refine g_iadd hx dL_law_1817 (nx := 1818) rfl ?_
  refine g_scr hx dL_law_1818 (nx := 1819) rfl hX9 (sc1 _) (by omega) hN3 ?_
  refine g_aloadG_n hx dL_law_1819 rfl (nx := 1820) rfl rfl ?_
  refine g_callW hx [.ref 3, .int (xs (5 * t + 1)), .ref 10] (k' := k + 9) (n' := n + 568) dL_law_1820 (nx := 1823) rfl lk_L_185 rfl (Nat.le_of_ble_eq_true rfl) (Nat.le_of_ble_eq_true rfl) (Nat.le_of_ble_eq_true rfl) (Nat.add_le_add_left (Nat.le_of_ble_eq_true rfl) k) (Nat.add_le_add_left (Nat.le_of_ble_eq_true rfl) n) hk9 hn9 (st_isSound hst hR (fun c9 S1 I1 L1 R1 hm1 hk1 => ?_))
  refine g_istore_5 hx dL_law_1823 (nx := 1825) rfl (by decide) rfl ?_
  refine g_aloadG_n hx dL_law_1825 rfl (nx := 1826) rfl rfl ?_
  refine g_aloadG_n hx dL_law_1826 rfl (nx := 1827) rfl rfl ?_
  refine g_iloadG hx dL_law_1827 (nx := 1829) rfl rfl ?_
  refine g_iconst hx dL_law_1829 (nx := 1830) rfl (v := 1) (by decide) ?_
  refine g_iadd hx dL_law_1830 (nx := 1831) rfl ?_
  refine g_scr hx dL_law_1831 (nx := 1832) rfl hX9 (sc1 _) (by omega) hN3 ?_
  refine g_callV_M hx [.int (xs (5 * t + 1))] (k' := k + 9) (n' := n + 568) dL_law_1832 (nx := 1835) rfl lk_L_187 hm1.2 (by decide) rfl rfl (Nat.le_of_ble_eq_true rfl) (Nat.le_of_ble_eq_true rfl) (Nat.le_of_ble_eq_true rfl) (Nat.le_refl _) (Nat.le_refl _) hk9 hn9 (hk1 _ (fun b9 I2 L2 hR2 ht2 ha2 => ?_))
  refine g_istore_6 hx dL_law_1835 (nx := 1837) rfl (by decide) rfl ?_
  refine g_aloadG_n hx dL_law_1837 rfl (nx := 1838) rfl rfl ?_
  refine g_callV_M hx [] (k' := k + 9) (n' := n + 568) dL_law_1838 (nx := 1841) rfl lk_L_107 hm1.2 (by decide) rfl rfl (Nat.le_of_ble_eq_true rfl) (Nat.le_of_ble_eq_true rfl) (Nat.le_of_ble_eq_true rfl) (Nat.le_refl _) (Nat.le_refl _) hk9 hn9 (s_X4_thrown hst hR2.ly.1 ?_)
  refine g_iloadG hx dL_law_1841 (nx := 1843) rfl rfl ?_
  refine g_icmp_eq hx dL_law_1843 (tg := 1848) (by decide) (nx := 1846) rfl (fun c1843 => ?_) (fun c1843 => ?_)
  · refine g_iloadG hx dL_law_1848 (nx := 1850) rfl rfl ?_
    refine g_if_ne hx dL_law_1850 (tg := 1872) (by decide) (nx := 1853) rfl (fun c1850 => ?_) (fun c1850 => ?_)
    · refine g_goto hx dL_law_1872 (tg := 1875) (by decide) ?_
      exact go _ _ _ _ _ _ _ hR2
    · refine g_aloadG_n hx dL_law_1853 rfl (nx := 1854) rfl rfl ?_
      refine g_iconst hx dL_law_1854 (nx := 1855) rfl (v := 0) (by decide) ?_
      refine g_laload hx dL_law_1855 (nx := 1856) rfl hm1.1.2.2 (by decide) (vin (by decide)) ?_
      refine g_iloadG hx dL_law_1856 (nx := 1858) rfl rfl ?_
      refine g_if_eq hx dL_law_1858 (tg := 1865) (by decide) (nx := 1861) rfl (fun c1858 => ?_) (fun c1858 => ?_)
      · refine g_lconst hx dL_law_1865 (nx := 1866) rfl (v := 0) (by decide) ?_
        refine g_lcmp hx dL_law_1866 (nx := 1867) rfl ?_
        refine g_if_eq hx dL_law_1867 (tg := 1872) (by decide) (nx := 1870) rfl (fun c1867 => ?_) (fun c1867 => ?_)
        · refine g_goto hx dL_law_1872 (tg := 1875) (by decide) ?_
          exact go _ _ _ _ _ _ _ hR2
        · exact absurd (by rw [show L2 10 (Int32.toNatClampNeg 0) = _ from ha2 c1850, if_pos c1858]; exact cmp_rf _) c1867
      · refine g_lconst hx dL_law_1861 (nx := 1862) rfl (v := 1) (by decide) ?_
        refine g_goto hx dL_law_1862 (tg := 1866) (by decide) ?_
        refine g_lcmp hx dL_law_1866 (nx := 1867) rfl ?_
        refine g_if_eq hx dL_law_1867 (tg := 1872) (by decide) (nx := 1870) rfl (fun c1867 => ?_) (fun c1867 => ?_)
        · refine g_goto hx dL_law_1872 (tg := 1875) (by decide) ?_
          exact go _ _ _ _ _ _ _ hR2
        · exact absurd (by rw [show L2 10 (Int32.toNatClampNeg 0) = _ from ha2 c1850, if_neg c1858]; exact cmp_rf _) c1867
  · exact absurd ht2 c1843
