/-! the reference: values by filter, lines taken out -/
def okV (q : Nat → Bool) (V : Nat → Int64) : Prop := ∀ t, t < 256 → q t = true → ∃ c, c ≤ 9999 ∧ V t = lN c
theorem lsum_N {V : Nat → Int64} : ∀ (ts : List Nat) (a : Nat), (∀ t, t ∈ ts → ∃ c, c ≤ 9999 ∧ V t = lN c) → ∃ s, s ≤ 9999 * ts.length ∧ ts.foldl (fun a t => a + V t) (lN a) = lN (a + s)
  | [], a, _ => ⟨0, by simp, rfl⟩
  | t :: ts, a, h => by
    obtain ⟨c, hc, e⟩ := h t (List.mem_cons_self ..)
    obtain ⟨s, hs, e2⟩ := lsum_N ts (a + c) (fun u hu => h u (List.mem_cons_of_mem _ hu))
    refine ⟨c + s, by rw [List.length_cons]; omega, ?_⟩
    rw [List.foldl_cons, e, lN_add, e2, Nat.add_assoc]
theorem fdL_N {a b : Nat} (ha : a < 2 ^ 31) (hb : b < 2 ^ 31) : fdL (lN a) (lN b) = lN a / lN b := by
  rw [fdL, if_pos]
  rw [xs64, lN_toInt ha, lN_toInt hb]
  omega
theorem fl1 {q : Nat → Bool} {V : Nat → Int64} (hV : okV q V) (h : (aT q).length ≠ 0) : lsum (aT q) V / lN (aT q).length = mnD q V := by
  have hl := aT_len q
  obtain ⟨s, hs, e⟩ := lsum_N (V := V) (aT q) 0 (fun t ht => hV t (tl_mem.mp ht).1 (tl_mem.mp ht).2)
  have e2 : lsum (aT q) V = lN s := by rw [← Nat.zero_add s, ← e]; rfl
  rw [mnD, if_neg h, e2, fdL_N (by omega) (by omega)]
theorem lN_dif {a b : Nat} (ha : a < 2 ^ 31) (hb : b < 2 ^ 31) : (lN a - lN b).toInt = (a : Int) - b := by
  rw [Int64.toInt_sub, lN_toInt ha, lN_toInt hb]
  exact bm64 (by omega) (by omega)
theorem fl2 {q : Nat → Bool} {V : Nat → Int64} (hV : okV q V) {t : Nat} (ht : t < 256) (hq : q t = true) (hne : fsT q 256 ≠ lsT q 256) : V (tF q) + dnL ((V (tZ q) - V (tF q)) * (nI t - fsT q 256).toInt64) (lsT q 256 - fsT q 256).toInt64 = drD q V t := by
  obtain ⟨t1, t2, t3⟩ := tF_le ht hq
  obtain ⟨f1, f2, f3, f4, f5, f6⟩ := fs_tF t3
  have hlt : tF q < tZ q := Nat.lt_of_le_of_ne (by omega) (fun z => hne (by rw [f1, f2, z]))
  have e0 : (nI (tZ q) - nI (tF q)).toInt64 = lN (tZ q - tF q) := by rw [pk_sub (by omega), nI_l (by omega)]
  have e1 : (nI t - nI (tF q)).toInt64 = lN (t - tF q) := by rw [pk_sub (by omega), nI_l (by omega)]
  obtain ⟨a, ha, ea⟩ := hV _ f4 f6
  obtain ⟨b, hb, eb⟩ := hV _ f3 f5
  have hd : ¬ drB q ≤ 0 := by
    rw [drB, e0, Int64.le_iff_toInt_le, lN_toInt (by omega), Int64.toInt_zero]; omega
  rw [drD, if_neg hd, drB, f1, f2, e0, e1, ea, eb]
  congr 1
  have m1 : a * (t - tF q) ≤ 9999 * 255 := Nat.mul_le_mul ha (by omega)
  have m2 : b * (t - tF q) ≤ 9999 * 255 := Nat.mul_le_mul hb (by omega)
  have e3 : ((lN a - lN b) * lN (t - tF q)).toInt = ((a * (t - tF q) : Nat) : Int) - ((b * (t - tF q) : Nat) : Int) := by
    rw [Int64.sub_mul, lN_mul, lN_mul]
    exact lN_dif (by omega) (by omega)
  refine dnL_fd ?_ ?_ ?_ ?_
  · rw [e3]; omega
  · rw [e3]; omega
  · rw [lN_toInt (by omega)]; omega
  · rw [lN_toInt (by omega)]; omega
theorem fl3 {q : Nat → Bool} {V : Nat → Int64} {t : Nat} (ht : t < 256) (hq : q t = true) (he : fsT q 256 = lsT q 256) : V (tF q) = drD q V t := by
  obtain ⟨t1, t2, t3⟩ := tF_le ht hq
  obtain ⟨f1, f2, f3, f4, f5, f6⟩ := fs_tF t3
  have hd : drB q ≤ 0 := by
    rw [drB, ← f1, ← f2, he, Int32.sub_self]; decide
  rw [drD, if_pos hd, Int64.add_zero]
theorem sub_l0 {a b : Int32} (h : a ≠ b) : (b - a).toInt64 ≠ 0 := fun z => by
  have := congrArg Int64.toInt z
  rw [Int32.toInt_toInt64, Int64.toInt_zero] at this
  have e : b - a = 0 := Int32.toInt_inj.mp (by rw [this]; rfl)
  exact h (by rw [← Int32.sub_add_cancel b a, e, Int32.zero_add])
theorem flV_0 (q : Nat → Bool) (V : Nat → Int64) : flV q V 0 = V := rfl
theorem flV_1 (q : Nat → Bool) (V : Nat → Int64) : flV q V 1 = mnV q V := rfl
theorem flV_2 (q : Nat → Bool) (V : Nat → Int64) : flV q V 2 = drV q V := rfl
theorem lN_ne0 {n : Nat} (h : 0 < n) (h2 : n < 2 ^ 31) : lN n ≠ 0 := fun z => by
  have e : (0 : Int64) = lN 0 := rfl
  rw [e, lN_eq h2 (by decide)] at z
  omega
abbrev rmX4_filters : Room := { frames := 1, cells := 0, slots := 0, locals := 23 }
set_option maxHeartbeats 4000000 in
set_option maxRecDepth 100000 in
theorem s_X4_filters {l : Launch} {E : aE} {S : aS} {I : aI} {L : aL} {Rf : aR} {Kr : aK} {Kx : aX} (hst : l.stackTraces = false) {f : Int32} {q : Nat → Bool} {V : Nat → Int64} (hM : lyM S Rf) (hR : Mrep I L q V) (hV : okV q V) (hf : f = 0 ∨ f = 1 ∨ f = 2) (hk : ∀ L', eL L' L → Mrep I L' q (flV q V f) → Kr none S I L' Rf) : aMet l E yX4_filters cX4_filters 13 none rmX4_filters [.ref 20, .int f] (S) (I) (L) (Rf) Kr Kx := by
  refine aMet.of (lv0 := [.ref 20, .int f, aU, aU, aU, aU, aU, aU, aU, aU, aU, aU, aU]) (z := 11) (by decide +kernel) hst rfl (Nat.le_of_ble_eq_true rfl) ?_
  intro p e s m args below meth c io0 hx hin hno
  have hx : aCx p l s m args meth c RX4 cX4_filters 13 none E := hx
  have hlen := aT_len q
  have loop2 : ∀ (r i : Nat) (L' : aL), i + r = 256 → ∀ B D : Int64, ((aT q).length ≠ 0 → B = V (tF q) ∧ D = V (tZ q) - V (tF q)) → (∀ a c, a ≠ 39 → L' a c = L a c) → (∀ t, t < 256 → L' 39 t = if q t = true then (if t < i then flV q V f t else V t) else 0) → ∀ w1 w2, aG p l e rmX4_filters s m args below meth c E io0 S 13 (vx_MQ below (aQc E io0 S Kr) (aXC E io0 S Kx) args s rmX4_filters.cells rmX4_filters.slots (aW E)) 119 [.ref 20, .int f, .int (fsT q 256), .int (lsT q 256), .long (lsum (aT q) V), aU, .long B, aU, .long D, aU, .int (nI i), w1, w2] [] (S) (I) (L') (Rf) 0 0 := by
    intro r
    induction r with
    | zero =>
      intro i L' hi B D hBD h1 h2 w1 w2
      have hi : i = 256 := by omega
      subst hi
      refine g_iloadG hx dX4_filters_119 (nx := 121) rfl rfl ?_
      refine g_sipush hx dX4_filters_121 (nx := 124) rfl (v := 256) (by decide) ?_
      refine g_icmp_ge hx dX4_filters_124 (tg := 209) (by decide) (nx := 127) rfl (fun c124 => ?_) (fun c124 => ?_)
      · refine g_vret hx dX4_filters_209 rfl (Nat.le_of_ble_eq_true rfl) (Nat.le_of_ble_eq_true rfl) ?_
        refine hk L' h1 ⟨hR.1, fun t ht => ?_, hR.2.2⟩
        rw [h2 t ht, if_pos ht]
      · exact absurd (by decide) c124
    | succ r ih =>
      intro i L' hi B D hBD h1 h2 w1 w2
      have hn : (nI i).toNatClampNeg = i := nI_clamp (by omega)
      have hin : vp_in (nI i) 256 := vp_in_nI (by omega) (by decide)
      refine g_iloadG hx dX4_filters_119 (nx := 121) rfl rfl ?_
      refine g_sipush hx dX4_filters_121 (nx := 124) rfl (v := 256) (by decide) ?_
      refine g_icmp_ge hx dX4_filters_124 (tg := 209) (by decide) (nx := 127) rfl (fun c124 => ?_) (fun c124 => ?_)
      · exact absurd c124 (nI_ge (b := 256) (by omega) (by decide))
      · refine g_iloadG_n hx dX4_filters_127 rfl (nx := 128) rfl rfl ?_
        refine g_iloadG_n hx dX4_filters_128 rfl (nx := 129) rfl rfl ?_
        refine g_icmp_ne hx dX4_filters_129 (tg := 137) (by decide) (nx := 132) rfl (fun c129 => ?_) (fun c129 => ?_)
        · refine g_lloadG hx dX4_filters_137 (nx := 139) rfl rfl ?_
          refine g_lloadG hx dX4_filters_139 (nx := 141) rfl rfl ?_
          refine g_iloadG hx dX4_filters_141 (nx := 143) rfl rfl ?_
          refine g_iloadG_n hx dX4_filters_143 rfl (nx := 144) rfl rfl ?_
          refine g_isub hx dX4_filters_144 (nx := 145) rfl ?_
          refine g_i2l hx dX4_filters_145 (nx := 146) rfl ?_
          refine g_lmul hx dX4_filters_146 (nx := 147) rfl ?_
          refine g_iloadG_n hx dX4_filters_147 rfl (nx := 148) rfl rfl ?_
          refine g_iloadG_n hx dX4_filters_148 rfl (nx := 149) rfl rfl ?_
          refine g_isub hx dX4_filters_149 (nx := 150) rfl ?_
          refine g_i2l hx dX4_filters_150 (nx := 151) rfl ?_
          refine g_callS_M hx [_, _] (k' := 0) (n' := 0) dX4_filters_151 (nx := 154) rfl lk_X4_146 rfl (Nat.le_of_ble_eq_true rfl) (Nat.le_of_ble_eq_true rfl) (Nat.le_of_ble_eq_true rfl) (Nat.le_of_ble_eq_true rfl) (Nat.le_of_ble_eq_true rfl) (Nat.le_of_ble_eq_true rfl) (Nat.le_of_ble_eq_true rfl) (s_X4_down hst (sub_l0 c129) ?_)
          refine g_ladd hx dX4_filters_154 (nx := 155) rfl ?_
          refine g_lstore_11 hx dX4_filters_155 (nx := 157) rfl (by decide) rfl ?_
          refine g_aloadG_n hx dX4_filters_157 rfl (nx := 158) rfl rfl ?_
          refine g_getfo_R hx dX4_filters_158 (nx := 161) rfl fa_X4_60 rfl (r9 := 39) (hM.2 19 rfl) (hM.1 0 _ rfl) (by decide) ?_
          refine g_iloadG hx dX4_filters_161 (nx := 163) rfl rfl ?_
          refine g_dup2i hx dX4_filters_163 (nx := 164) rfl rfl rfl ?_
          refine g_laload hx dX4_filters_164 (nx := 165) rfl (hM.1 19 _ rfl) (by decide) hin ?_
          refine g_aloadG_n hx dX4_filters_165 rfl (nx := 166) rfl rfl ?_
          refine g_getfo_R hx dX4_filters_166 (nx := 169) rfl fa_X4_64 rfl (r9 := 40) (hM.2 20 rfl) (hM.1 0 _ rfl) (by decide) ?_
          refine g_iloadG hx dX4_filters_169 (nx := 171) rfl rfl ?_
          refine g_baload hx dX4_filters_171 (nx := 172) rfl (hM.1 20 _ rfl) (by decide) hin ?_
          rw [hn]
          have hb := hR.1 i (by omega)
          have hqi9 : ¬ I 40 i = 0 → q i = true := fun z => by
            rcases hqi : q i with _ | _
            · rw [hqi] at hb; exact absurd hb z
            · rfl
          refine g_if_eq hx dX4_filters_172 (tg := 179) (by decide) (nx := 175) rfl (fun c172 => ?_) (fun c172 => ?_)
          · refine g_lconst hx dX4_filters_179 (nx := 180) rfl (v := 0) (by decide) ?_
            refine g_goto hx dX4_filters_180 (tg := 201) (by decide) ?_
            refine g_lsub hx dX4_filters_201 (nx := 202) rfl ?_
            refine g_lastore hx dX4_filters_202 (nx := 203) rfl (hM.1 19 _ rfl) (by decide) hin ?_
            refine g_iinc_10 hx dX4_filters_203 (nx := 206) rfl (by decide) (v := 1) (by decide) rfl ?_
            refine g_goto hx dX4_filters_206 (tg := 119) (by decide) ?_
            rw [← nI_succ, hn]
            have hval : L' 39 i - 0 = if q i = true then (if i < i + 1 then flV q V f i else V i) else 0 := by
              rcases hqi : q i with _ | _
              · rw [h2 i (by omega), hqi, if_neg (by decide), if_neg (by decide)]; rfl
              · rw [hqi] at hb
                first
                  | exact absurd (hb.symm.trans c172) (by decide)
                  | (rw [h2 i (by omega), hqi, if_pos rfl, if_neg (Nat.lt_irrefl i), if_pos rfl, if_pos (Nat.lt_succ_self i)]
                     have e0 : f = 0 := c176
                     rw [e0, flV_0, Int64.sub_zero])
            refine ih (i + 1) _ (by omega) B D hBD (fun a c z => ?_) (fun t ht => ?_) _ _
            · rw [au2_n (fun z2 => z z2.1)]; exact h1 a c z
            · by_cases e : t = i
              · subst e
                rw [au2_s]
                exact hval
              · rw [au2_n (fun z => e z.2), h2 t ht]
                by_cases e2 : t < i
                · rw [if_pos e2, if_pos (show t < i + 1 by omega)]
                · rw [if_neg e2, if_neg (show ¬ t < i + 1 by omega)]
          · refine g_iloadG_n hx dX4_filters_175 rfl (nx := 176) rfl rfl ?_
            refine g_if_ne hx dX4_filters_176 (tg := 183) (by decide) (nx := 179) rfl (fun c176 => ?_) (fun c176 => ?_)
            · refine g_iloadG_n hx dX4_filters_183 rfl (nx := 184) rfl rfl ?_
              refine g_iconst hx dX4_filters_184 (nx := 185) rfl (v := 1) (by decide) ?_
              refine g_icmp_ne hx dX4_filters_185 (tg := 199) (by decide) (nx := 188) rfl (fun c185 => ?_) (fun c185 => ?_)
              · refine g_lloadG hx dX4_filters_199 (nx := 201) rfl rfl ?_
                refine g_lsub hx dX4_filters_201 (nx := 202) rfl ?_
                refine g_lastore hx dX4_filters_202 (nx := 203) rfl (hM.1 19 _ rfl) (by decide) hin ?_
                refine g_iinc_10 hx dX4_filters_203 (nx := 206) rfl (by decide) (v := 1) (by decide) rfl ?_
                refine g_goto hx dX4_filters_206 (tg := 119) (by decide) ?_
                rw [← nI_succ, hn]
                have hval : L' 39 i - (B + dnL (D * (nI i - fsT q 256).toInt64) (lsT q 256 - fsT q 256).toInt64) = if q i = true then (if i < i + 1 then flV q V f i else V i) else 0 := by
                  have hqi : q i = true := by
                    rcases hqi : q i with _ | _
                    · rw [hqi] at hb; exact absurd hb c172
                    · rfl
                  obtain ⟨g1, g2, g3⟩ := tF_le (by omega) hqi
                  obtain ⟨hB, hD⟩ := hBD g3
                  rw [h2 i (by omega), hqi, if_pos rfl, if_neg (Nat.lt_irrefl i), if_pos rfl, if_pos (Nat.lt_succ_self i)]
                  have e2 : f = 2 := hf.resolve_left c176 |>.resolve_left c185
                  rw [e2, flV_2, hB, hD, fl2 hV (by omega) hqi c129]
                  rfl
                refine ih (i + 1) _ (by omega) B D hBD (fun a c z => ?_) (fun t ht => ?_) _ _
                · rw [au2_n (fun z2 => z z2.1)]; exact h1 a c z
                · by_cases e : t = i
                  · subst e
                    rw [au2_s]
                    exact hval
                  · rw [au2_n (fun z => e z.2), h2 t ht]
                    by_cases e2 : t < i
                    · rw [if_pos e2, if_pos (show t < i + 1 by omega)]
                    · rw [if_neg e2, if_neg (show ¬ t < i + 1 by omega)]
              · refine g_lloadG hx dX4_filters_188 (nx := 190) rfl rfl ?_
                refine g_aloadG_n hx dX4_filters_190 rfl (nx := 191) rfl rfl ?_
                refine g_getfo_i hx dX4_filters_191 (nx := 194) rfl fa_X4_143 rfl (hM.1 0 _ rfl) (by decide) ?_
                refine g_i2l hx dX4_filters_194 (nx := 195) rfl ?_
                refine g_ldiv hx dX4_filters_195 (nx := 196) rfl (by rw [hR.2.2, nI_l (by omega)]; exact lN_ne0 (by have := (tF_le (q := q) (t := i) (by omega) (hqi9 c172)).2.2; omega) (by omega)) ?_
                rw [hR.2.2]
                refine g_goto hx dX4_filters_196 (tg := 201) (by decide) ?_
                refine g_lsub hx dX4_filters_201 (nx := 202) rfl ?_
                refine g_lastore hx dX4_filters_202 (nx := 203) rfl (hM.1 19 _ rfl) (by decide) hin ?_
                refine g_iinc_10 hx dX4_filters_203 (nx := 206) rfl (by decide) (v := 1) (by decide) rfl ?_
                refine g_goto hx dX4_filters_206 (tg := 119) (by decide) ?_
                rw [← nI_succ, hn]
                have hval : L' 39 i - lsum (aT q) V / (nI (aT q).length).toInt64 = if q i = true then (if i < i + 1 then flV q V f i else V i) else 0 := by
                  have hqi : q i = true := by
                    rcases hqi : q i with _ | _
                    · rw [hqi] at hb; exact absurd hb c172
                    · rfl
                  obtain ⟨g1, g2, g3⟩ := tF_le (by omega) hqi
                  obtain ⟨hB, hD⟩ := hBD g3
                  rw [h2 i (by omega), hqi, if_pos rfl, if_neg (Nat.lt_irrefl i), if_pos rfl, if_pos (Nat.lt_succ_self i)]
                  rw [c185, flV_1, nI_l (by omega), fl1 hV g3]
                  rfl
                refine ih (i + 1) _ (by omega) B D hBD (fun a c z => ?_) (fun t ht => ?_) _ _
                · rw [au2_n (fun z2 => z z2.1)]; exact h1 a c z
                · by_cases e : t = i
                  · subst e
                    rw [au2_s]
                    exact hval
                  · rw [au2_n (fun z => e z.2), h2 t ht]
                    by_cases e2 : t < i
                    · rw [if_pos e2, if_pos (show t < i + 1 by omega)]
                    · rw [if_neg e2, if_neg (show ¬ t < i + 1 by omega)]
            · refine g_lconst hx dX4_filters_179 (nx := 180) rfl (v := 0) (by decide) ?_
              refine g_goto hx dX4_filters_180 (tg := 201) (by decide) ?_
              refine g_lsub hx dX4_filters_201 (nx := 202) rfl ?_
              refine g_lastore hx dX4_filters_202 (nx := 203) rfl (hM.1 19 _ rfl) (by decide) hin ?_
              refine g_iinc_10 hx dX4_filters_203 (nx := 206) rfl (by decide) (v := 1) (by decide) rfl ?_
              refine g_goto hx dX4_filters_206 (tg := 119) (by decide) ?_
              rw [← nI_succ, hn]
              have hval : L' 39 i - 0 = if q i = true then (if i < i + 1 then flV q V f i else V i) else 0 := by
                rcases hqi : q i with _ | _
                · rw [h2 i (by omega), hqi, if_neg (by decide), if_neg (by decide)]; rfl
                · rw [hqi] at hb
                  first
                    | exact absurd (hb.symm.trans c172) (by decide)
                    | (rw [h2 i (by omega), hqi, if_pos rfl, if_neg (Nat.lt_irrefl i), if_pos rfl, if_pos (Nat.lt_succ_self i)]
                       have e0 : f = 0 := c176
                       rw [e0, flV_0, Int64.sub_zero])
              refine ih (i + 1) _ (by omega) B D hBD (fun a c z => ?_) (fun t ht => ?_) _ _
              · rw [au2_n (fun z2 => z z2.1)]; exact h1 a c z
              · by_cases e : t = i
                · subst e
                  rw [au2_s]
                  exact hval
                · rw [au2_n (fun z => e z.2), h2 t ht]
                  by_cases e2 : t < i
                  · rw [if_pos e2, if_pos (show t < i + 1 by omega)]
                  · rw [if_neg e2, if_neg (show ¬ t < i + 1 by omega)]
        · refine g_lloadG hx dX4_filters_132 (nx := 134) rfl rfl ?_
          refine g_goto hx dX4_filters_134 (tg := 155) (by decide) ?_
          refine g_lstore_11 hx dX4_filters_155 (nx := 157) rfl (by decide) rfl ?_
          refine g_aloadG_n hx dX4_filters_157 rfl (nx := 158) rfl rfl ?_
          refine g_getfo_R hx dX4_filters_158 (nx := 161) rfl fa_X4_60 rfl (r9 := 39) (hM.2 19 rfl) (hM.1 0 _ rfl) (by decide) ?_
          refine g_iloadG hx dX4_filters_161 (nx := 163) rfl rfl ?_
          refine g_dup2i hx dX4_filters_163 (nx := 164) rfl rfl rfl ?_
          refine g_laload hx dX4_filters_164 (nx := 165) rfl (hM.1 19 _ rfl) (by decide) hin ?_
          refine g_aloadG_n hx dX4_filters_165 rfl (nx := 166) rfl rfl ?_
          refine g_getfo_R hx dX4_filters_166 (nx := 169) rfl fa_X4_64 rfl (r9 := 40) (hM.2 20 rfl) (hM.1 0 _ rfl) (by decide) ?_
          refine g_iloadG hx dX4_filters_169 (nx := 171) rfl rfl ?_
          refine g_baload hx dX4_filters_171 (nx := 172) rfl (hM.1 20 _ rfl) (by decide) hin ?_
          rw [hn]
          have hb := hR.1 i (by omega)
          have hqi9 : ¬ I 40 i = 0 → q i = true := fun z => by
            rcases hqi : q i with _ | _
            · rw [hqi] at hb; exact absurd hb z
            · rfl
          refine g_if_eq hx dX4_filters_172 (tg := 179) (by decide) (nx := 175) rfl (fun c172 => ?_) (fun c172 => ?_)
          · refine g_lconst hx dX4_filters_179 (nx := 180) rfl (v := 0) (by decide) ?_
            refine g_goto hx dX4_filters_180 (tg := 201) (by decide) ?_
            refine g_lsub hx dX4_filters_201 (nx := 202) rfl ?_
            refine g_lastore hx dX4_filters_202 (nx := 203) rfl (hM.1 19 _ rfl) (by decide) hin ?_
            refine g_iinc_10 hx dX4_filters_203 (nx := 206) rfl (by decide) (v := 1) (by decide) rfl ?_
            refine g_goto hx dX4_filters_206 (tg := 119) (by decide) ?_
            rw [← nI_succ, hn]
            have hval : L' 39 i - 0 = if q i = true then (if i < i + 1 then flV q V f i else V i) else 0 := by
              rcases hqi : q i with _ | _
              · rw [h2 i (by omega), hqi, if_neg (by decide), if_neg (by decide)]; rfl
              · rw [hqi] at hb
                first
                  | exact absurd (hb.symm.trans c172) (by decide)
                  | (rw [h2 i (by omega), hqi, if_pos rfl, if_neg (Nat.lt_irrefl i), if_pos rfl, if_pos (Nat.lt_succ_self i)]
                     have e0 : f = 0 := c176
                     rw [e0, flV_0, Int64.sub_zero])
            refine ih (i + 1) _ (by omega) B D hBD (fun a c z => ?_) (fun t ht => ?_) _ _
            · rw [au2_n (fun z2 => z z2.1)]; exact h1 a c z
            · by_cases e : t = i
              · subst e
                rw [au2_s]
                exact hval
              · rw [au2_n (fun z => e z.2), h2 t ht]
                by_cases e2 : t < i
                · rw [if_pos e2, if_pos (show t < i + 1 by omega)]
                · rw [if_neg e2, if_neg (show ¬ t < i + 1 by omega)]
          · refine g_iloadG_n hx dX4_filters_175 rfl (nx := 176) rfl rfl ?_
            refine g_if_ne hx dX4_filters_176 (tg := 183) (by decide) (nx := 179) rfl (fun c176 => ?_) (fun c176 => ?_)
            · refine g_iloadG_n hx dX4_filters_183 rfl (nx := 184) rfl rfl ?_
              refine g_iconst hx dX4_filters_184 (nx := 185) rfl (v := 1) (by decide) ?_
              refine g_icmp_ne hx dX4_filters_185 (tg := 199) (by decide) (nx := 188) rfl (fun c185 => ?_) (fun c185 => ?_)
              · refine g_lloadG hx dX4_filters_199 (nx := 201) rfl rfl ?_
                refine g_lsub hx dX4_filters_201 (nx := 202) rfl ?_
                refine g_lastore hx dX4_filters_202 (nx := 203) rfl (hM.1 19 _ rfl) (by decide) hin ?_
                refine g_iinc_10 hx dX4_filters_203 (nx := 206) rfl (by decide) (v := 1) (by decide) rfl ?_
                refine g_goto hx dX4_filters_206 (tg := 119) (by decide) ?_
                rw [← nI_succ, hn]
                have hval : L' 39 i - B = if q i = true then (if i < i + 1 then flV q V f i else V i) else 0 := by
                  have hqi : q i = true := by
                    rcases hqi : q i with _ | _
                    · rw [hqi] at hb; exact absurd hb c172
                    · rfl
                  obtain ⟨g1, g2, g3⟩ := tF_le (by omega) hqi
                  obtain ⟨hB, hD⟩ := hBD g3
                  rw [h2 i (by omega), hqi, if_pos rfl, if_neg (Nat.lt_irrefl i), if_pos rfl, if_pos (Nat.lt_succ_self i)]
                  have e2 : f = 2 := hf.resolve_left c176 |>.resolve_left c185
                  rw [e2, flV_2, hB, fl3 (V := V) (by omega) hqi c129]
                  rfl
                refine ih (i + 1) _ (by omega) B D hBD (fun a c z => ?_) (fun t ht => ?_) _ _
                · rw [au2_n (fun z2 => z z2.1)]; exact h1 a c z
                · by_cases e : t = i
                  · subst e
                    rw [au2_s]
                    exact hval
                  · rw [au2_n (fun z => e z.2), h2 t ht]
                    by_cases e2 : t < i
                    · rw [if_pos e2, if_pos (show t < i + 1 by omega)]
                    · rw [if_neg e2, if_neg (show ¬ t < i + 1 by omega)]
              · refine g_lloadG hx dX4_filters_188 (nx := 190) rfl rfl ?_
                refine g_aloadG_n hx dX4_filters_190 rfl (nx := 191) rfl rfl ?_
                refine g_getfo_i hx dX4_filters_191 (nx := 194) rfl fa_X4_143 rfl (hM.1 0 _ rfl) (by decide) ?_
                refine g_i2l hx dX4_filters_194 (nx := 195) rfl ?_
                refine g_ldiv hx dX4_filters_195 (nx := 196) rfl (by rw [hR.2.2, nI_l (by omega)]; exact lN_ne0 (by have := (tF_le (q := q) (t := i) (by omega) (hqi9 c172)).2.2; omega) (by omega)) ?_
                rw [hR.2.2]
                refine g_goto hx dX4_filters_196 (tg := 201) (by decide) ?_
                refine g_lsub hx dX4_filters_201 (nx := 202) rfl ?_
                refine g_lastore hx dX4_filters_202 (nx := 203) rfl (hM.1 19 _ rfl) (by decide) hin ?_
                refine g_iinc_10 hx dX4_filters_203 (nx := 206) rfl (by decide) (v := 1) (by decide) rfl ?_
                refine g_goto hx dX4_filters_206 (tg := 119) (by decide) ?_
                rw [← nI_succ, hn]
                have hval : L' 39 i - lsum (aT q) V / (nI (aT q).length).toInt64 = if q i = true then (if i < i + 1 then flV q V f i else V i) else 0 := by
                  have hqi : q i = true := by
                    rcases hqi : q i with _ | _
                    · rw [hqi] at hb; exact absurd hb c172
                    · rfl
                  obtain ⟨g1, g2, g3⟩ := tF_le (by omega) hqi
                  obtain ⟨hB, hD⟩ := hBD g3
                  rw [h2 i (by omega), hqi, if_pos rfl, if_neg (Nat.lt_irrefl i), if_pos rfl, if_pos (Nat.lt_succ_self i)]
                  rw [c185, flV_1, nI_l (by omega), fl1 hV g3]
                  rfl
                refine ih (i + 1) _ (by omega) B D hBD (fun a c z => ?_) (fun t ht => ?_) _ _
                · rw [au2_n (fun z2 => z z2.1)]; exact h1 a c z
                · by_cases e : t = i
                  · subst e
                    rw [au2_s]
                    exact hval
                  · rw [au2_n (fun z => e z.2), h2 t ht]
                    by_cases e2 : t < i
                    · rw [if_pos e2, if_pos (show t < i + 1 by omega)]
                    · rw [if_neg e2, if_neg (show ¬ t < i + 1 by omega)]
            · refine g_lconst hx dX4_filters_179 (nx := 180) rfl (v := 0) (by decide) ?_
              refine g_goto hx dX4_filters_180 (tg := 201) (by decide) ?_
              refine g_lsub hx dX4_filters_201 (nx := 202) rfl ?_
              refine g_lastore hx dX4_filters_202 (nx := 203) rfl (hM.1 19 _ rfl) (by decide) hin ?_
              refine g_iinc_10 hx dX4_filters_203 (nx := 206) rfl (by decide) (v := 1) (by decide) rfl ?_
              refine g_goto hx dX4_filters_206 (tg := 119) (by decide) ?_
              rw [← nI_succ, hn]
              have hval : L' 39 i - 0 = if q i = true then (if i < i + 1 then flV q V f i else V i) else 0 := by
                rcases hqi : q i with _ | _
                · rw [h2 i (by omega), hqi, if_neg (by decide), if_neg (by decide)]; rfl
                · rw [hqi] at hb
                  first
                    | exact absurd (hb.symm.trans c172) (by decide)
                    | (rw [h2 i (by omega), hqi, if_pos rfl, if_neg (Nat.lt_irrefl i), if_pos rfl, if_pos (Nat.lt_succ_self i)]
                       have e0 : f = 0 := c176
                       rw [e0, flV_0, Int64.sub_zero])
              refine ih (i + 1) _ (by omega) B D hBD (fun a c z => ?_) (fun t ht => ?_) _ _
              · rw [au2_n (fun z2 => z z2.1)]; exact h1 a c z
              · by_cases e : t = i
                · subst e
                  rw [au2_s]
                  exact hval
                · rw [au2_n (fun z => e z.2), h2 t ht]
                  by_cases e2 : t < i
                  · rw [if_pos e2, if_pos (show t < i + 1 by omega)]
                  · rw [if_neg e2, if_neg (show ¬ t < i + 1 by omega)]
  have loop1 : ∀ (r i : Nat) , i + r = 256 → aG p l e rmX4_filters s m args below meth c E io0 S 13 (vx_MQ below (aQc E io0 S Kr) (aXC E io0 S Kx) args s rmX4_filters.cells rmX4_filters.slots (aW E)) 10 [.ref 20, .int f, .int (fsT q i), .int (lsT q i), .long (lsum (tl q i) V), aU, .int (nI i), aU, aU, aU, aU, aU, aU] [] (S) (I) (L) (Rf) 0 0 := by
    intro r
    induction r with
    | zero =>
      intro i hi
      have hi : i = 256 := by omega
      subst hi
      refine g_iloadG hx dX4_filters_10 (nx := 12) rfl rfl ?_
      refine g_sipush hx dX4_filters_12 (nx := 15) rfl (v := 256) (by decide) ?_
      refine g_icmp_ge hx dX4_filters_15 (tg := 75) (by decide) (nx := 18) rfl (fun c15 => ?_) (fun c15 => ?_)
      · by_cases hz : (aT q).length = 0
        · refine g_aloadG_n hx dX4_filters_75 rfl (nx := 76) rfl rfl ?_
          refine g_getfo_i hx dX4_filters_76 (nx := 79) rfl fa_X4_143 rfl (hM.1 0 _ rfl) (by decide) ?_
          refine g_if_ne hx dX4_filters_79 (tg := 86) (by decide) (nx := 82) rfl (fun c79 => ?_) (fun c79 => ?_)
          · exact absurd (by rw [hR.2.2, hz]; rfl) c79
          · refine g_lconst hx dX4_filters_82 (nx := 83) rfl (v := 0) (by decide) ?_
            refine g_goto hx dX4_filters_83 (tg := 92) (by decide) ?_
            refine g_lstore_6 hx dX4_filters_92 (nx := 94) rfl (by decide) rfl ?_
            refine g_aloadG_n hx dX4_filters_94 rfl (nx := 95) rfl rfl ?_
            refine g_getfo_i hx dX4_filters_95 (nx := 98) rfl fa_X4_143 rfl (hM.1 0 _ rfl) (by decide) ?_
            refine g_if_ne hx dX4_filters_98 (tg := 105) (by decide) (nx := 101) rfl (fun c98 => ?_) (fun c98 => ?_)
            · exact absurd (by rw [hR.2.2, hz]; rfl) c98
            · refine g_lconst hx dX4_filters_101 (nx := 102) rfl (v := 0) (by decide) ?_
              refine g_goto hx dX4_filters_102 (tg := 114) (by decide) ?_
              refine g_lstore_8 hx dX4_filters_114 (nx := 116) rfl (by decide) rfl ?_
              refine g_iconst hx dX4_filters_116 (nx := 117) rfl (v := 0) (by decide) ?_
              refine g_istore_10 hx dX4_filters_117 (nx := 119) rfl (by decide) rfl ?_
              exact loop2 256 0 L (Nat.zero_add _) _ _ (fun z => absurd hz z) (fun _ _ _ => rfl) (fun t ht => by rw [hR.2.1 t ht, if_neg (Nat.not_lt_zero t)]) _ _
        · obtain ⟨f1, f2, f3, f4, f5, f6⟩ := fs_tF hz
          refine g_aloadG_n hx dX4_filters_75 rfl (nx := 76) rfl rfl ?_
          refine g_getfo_i hx dX4_filters_76 (nx := 79) rfl fa_X4_143 rfl (hM.1 0 _ rfl) (by decide) ?_
          refine g_if_ne hx dX4_filters_79 (tg := 86) (by decide) (nx := 82) rfl (fun c79 => ?_) (fun c79 => ?_)
          · refine g_aloadG_n hx dX4_filters_86 rfl (nx := 87) rfl rfl ?_
            refine g_getfo_R hx dX4_filters_87 (nx := 90) rfl fa_X4_60 rfl (r9 := 39) (hM.2 19 rfl) (hM.1 0 _ rfl) (by decide) ?_
            refine g_iloadG_n hx dX4_filters_90 rfl (nx := 91) rfl rfl ?_
            refine g_laload hx dX4_filters_91 (nx := 92) rfl (hM.1 19 _ rfl) (by decide) (by rw [f1]; exact vp_in_nI f3 (by decide)) ?_
            refine g_lstore_6 hx dX4_filters_92 (nx := 94) rfl (by decide) rfl ?_
            refine g_aloadG_n hx dX4_filters_94 rfl (nx := 95) rfl rfl ?_
            refine g_getfo_i hx dX4_filters_95 (nx := 98) rfl fa_X4_143 rfl (hM.1 0 _ rfl) (by decide) ?_
            refine g_if_ne hx dX4_filters_98 (tg := 105) (by decide) (nx := 101) rfl (fun c98 => ?_) (fun c98 => ?_)
            · refine g_aloadG_n hx dX4_filters_105 rfl (nx := 106) rfl rfl ?_
              refine g_getfo_R hx dX4_filters_106 (nx := 109) rfl fa_X4_60 rfl (r9 := 39) (hM.2 19 rfl) (hM.1 0 _ rfl) (by decide) ?_
              refine g_iloadG_n hx dX4_filters_109 rfl (nx := 110) rfl rfl ?_
              refine g_laload hx dX4_filters_110 (nx := 111) rfl (hM.1 19 _ rfl) (by decide) (by rw [f2]; exact vp_in_nI f4 (by decide)) ?_
              refine g_lloadG hx dX4_filters_111 (nx := 113) rfl rfl ?_
              refine g_lsub hx dX4_filters_113 (nx := 114) rfl ?_
              refine g_lstore_8 hx dX4_filters_114 (nx := 116) rfl (by decide) rfl ?_
              refine g_iconst hx dX4_filters_116 (nx := 117) rfl (v := 0) (by decide) ?_
              refine g_istore_10 hx dX4_filters_117 (nx := 119) rfl (by decide) rfl ?_
              exact loop2 256 0 L (Nat.zero_add _) _ _ (fun z => ⟨by rw [f1, nI_clamp (by omega), hR.2.1 _ f3, if_pos f5], by rw [f1, f2, nI_clamp (by omega), nI_clamp (by omega), hR.2.1 _ f3, if_pos f5, hR.2.1 _ f4, if_pos f6]⟩) (fun _ _ _ => rfl) (fun t ht => by rw [hR.2.1 t ht, if_neg (Nat.not_lt_zero t)]) _ _
            · exact absurd c98 (by rw [hR.2.2]; exact nI_ne0 (by omega) (by omega))
          · exact absurd c79 (by rw [hR.2.2]; exact nI_ne0 (by omega) (by omega))
      · exact absurd (by decide) c15
    | succ r ih =>
      intro i hi
      have hn : (nI i).toNatClampNeg = i := nI_clamp (by omega)
      have hin : vp_in (nI i) 256 := vp_in_nI (by omega) (by decide)
      refine g_iloadG hx dX4_filters_10 (nx := 12) rfl rfl ?_
      refine g_sipush hx dX4_filters_12 (nx := 15) rfl (v := 256) (by decide) ?_
      refine g_icmp_ge hx dX4_filters_15 (tg := 75) (by decide) (nx := 18) rfl (fun c15 => ?_) (fun c15 => ?_)
      · exact absurd c15 (nI_ge (b := 256) (by omega) (by decide))
      · refine g_aloadG_n hx dX4_filters_18 rfl (nx := 19) rfl rfl ?_
        refine g_getfo_R hx dX4_filters_19 (nx := 22) rfl fa_X4_64 rfl (r9 := 40) (hM.2 20 rfl) (hM.1 0 _ rfl) (by decide) ?_
        refine g_iloadG hx dX4_filters_22 (nx := 24) rfl rfl ?_
        refine g_baload hx dX4_filters_24 (nx := 25) rfl (hM.1 20 _ rfl) (by decide) hin ?_
        rw [hn]
        have hb := hR.1 i (by omega)
        have hv := hR.2.1 i (by omega)
        refine g_if_eq hx dX4_filters_25 (tg := 38) (by decide) (nx := 28) rfl (fun c25 => ?_) (fun c25 => ?_)
        · refine g_iloadG_n hx dX4_filters_38 rfl (nx := 39) rfl rfl ?_
          refine g_istore_2 hx dX4_filters_39 (nx := 40) rfl (by decide) rfl ?_
          refine g_aloadG_n hx dX4_filters_40 rfl (nx := 41) rfl rfl ?_
          refine g_getfo_R hx dX4_filters_41 (nx := 44) rfl fa_X4_64 rfl (r9 := 40) (hM.2 20 rfl) (hM.1 0 _ rfl) (by decide) ?_
          refine g_iloadG hx dX4_filters_44 (nx := 46) rfl rfl ?_
          refine g_baload hx dX4_filters_46 (nx := 47) rfl (hM.1 20 _ rfl) (by decide) hin ?_
          rw [hn]
          refine g_if_eq hx dX4_filters_47 (tg := 55) (by decide) (nx := 50) rfl (fun c47 => ?_) (fun c47 => ?_)
          · refine g_iloadG_n hx dX4_filters_55 rfl (nx := 56) rfl rfl ?_
            refine g_istore_3 hx dX4_filters_56 (nx := 57) rfl (by decide) rfl ?_
            refine g_lloadG hx dX4_filters_57 (nx := 59) rfl rfl ?_
            refine g_aloadG_n hx dX4_filters_59 rfl (nx := 60) rfl rfl ?_
            refine g_getfo_R hx dX4_filters_60 (nx := 63) rfl fa_X4_60 rfl (r9 := 39) (hM.2 19 rfl) (hM.1 0 _ rfl) (by decide) ?_
            refine g_iloadG hx dX4_filters_63 (nx := 65) rfl rfl ?_
            refine g_laload hx dX4_filters_65 (nx := 66) rfl (hM.1 19 _ rfl) (by decide) hin ?_
            refine g_ladd hx dX4_filters_66 (nx := 67) rfl ?_
            refine g_lstore_4 hx dX4_filters_67 (nx := 69) rfl (by decide) rfl ?_
            refine g_iinc_6 hx dX4_filters_69 (nx := 72) rfl (by decide) (v := 1) (by decide) rfl ?_
            refine g_goto hx dX4_filters_72 (tg := 10) (by decide) ?_
            rw [← nI_succ]
            have K := ih (i + 1) (by omega)
            rcases hqi : q i with _ | _
            · rw [hqi] at hb hv
              rw [tl_f hqi, show fsT q (i + 1) = fsT q i by rw [fsT, hqi]; rfl, show lsT q (i + 1) = lsT q i by rw [lsT, hqi]; rfl] at K
              first
                | exact absurd hb c25
                | exact absurd hb c47
                | (rw [hn, hv, if_neg (by decide), Int64.add_zero]; exact K)
            · rw [hqi] at hb hv
              rw [tl_t hqi, lsum_snoc, show fsT q (i + 1) = if fsT q i = -1 then nI i else fsT q i by rw [fsT, hqi]; rfl, show lsT q (i + 1) = nI i by rw [lsT, hqi]; rfl] at K
              first
                | exact absurd (hb.symm.trans c25) (by decide)
                | exact absurd (hb.symm.trans c47) (by decide)
                | (rw [if_pos c30] at K; rw [hn, hv, if_pos rfl]; exact K)
                | (rw [if_neg c30] at K; rw [hn, hv, if_pos rfl]; exact K)
          · refine g_iloadG hx dX4_filters_50 (nx := 52) rfl rfl ?_
            refine g_goto hx dX4_filters_52 (tg := 56) (by decide) ?_
            refine g_istore_3 hx dX4_filters_56 (nx := 57) rfl (by decide) rfl ?_
            refine g_lloadG hx dX4_filters_57 (nx := 59) rfl rfl ?_
            refine g_aloadG_n hx dX4_filters_59 rfl (nx := 60) rfl rfl ?_
            refine g_getfo_R hx dX4_filters_60 (nx := 63) rfl fa_X4_60 rfl (r9 := 39) (hM.2 19 rfl) (hM.1 0 _ rfl) (by decide) ?_
            refine g_iloadG hx dX4_filters_63 (nx := 65) rfl rfl ?_
            refine g_laload hx dX4_filters_65 (nx := 66) rfl (hM.1 19 _ rfl) (by decide) hin ?_
            refine g_ladd hx dX4_filters_66 (nx := 67) rfl ?_
            refine g_lstore_4 hx dX4_filters_67 (nx := 69) rfl (by decide) rfl ?_
            refine g_iinc_6 hx dX4_filters_69 (nx := 72) rfl (by decide) (v := 1) (by decide) rfl ?_
            refine g_goto hx dX4_filters_72 (tg := 10) (by decide) ?_
            rw [← nI_succ]
            have K := ih (i + 1) (by omega)
            rcases hqi : q i with _ | _
            · rw [hqi] at hb hv
              rw [tl_f hqi, show fsT q (i + 1) = fsT q i by rw [fsT, hqi]; rfl, show lsT q (i + 1) = lsT q i by rw [lsT, hqi]; rfl] at K
              first
                | exact absurd hb c25
                | exact absurd hb c47
                | (rw [hn, hv, if_neg (by decide), Int64.add_zero]; exact K)
            · rw [hqi] at hb hv
              rw [tl_t hqi, lsum_snoc, show fsT q (i + 1) = if fsT q i = -1 then nI i else fsT q i by rw [fsT, hqi]; rfl, show lsT q (i + 1) = nI i by rw [lsT, hqi]; rfl] at K
              first
                | exact absurd (hb.symm.trans c25) (by decide)
                | exact absurd (hb.symm.trans c47) (by decide)
                | (rw [if_pos c30] at K; rw [hn, hv, if_pos rfl]; exact K)
                | (rw [if_neg c30] at K; rw [hn, hv, if_pos rfl]; exact K)
        · refine g_iloadG_n hx dX4_filters_28 rfl (nx := 29) rfl rfl ?_
          refine g_iconst hx dX4_filters_29 (nx := 30) rfl (v := (-1)) (by decide) ?_
          refine g_icmp_ne hx dX4_filters_30 (tg := 38) (by decide) (nx := 33) rfl (fun c30 => ?_) (fun c30 => ?_)
          · refine g_iloadG_n hx dX4_filters_38 rfl (nx := 39) rfl rfl ?_
            refine g_istore_2 hx dX4_filters_39 (nx := 40) rfl (by decide) rfl ?_
            refine g_aloadG_n hx dX4_filters_40 rfl (nx := 41) rfl rfl ?_
            refine g_getfo_R hx dX4_filters_41 (nx := 44) rfl fa_X4_64 rfl (r9 := 40) (hM.2 20 rfl) (hM.1 0 _ rfl) (by decide) ?_
            refine g_iloadG hx dX4_filters_44 (nx := 46) rfl rfl ?_
            refine g_baload hx dX4_filters_46 (nx := 47) rfl (hM.1 20 _ rfl) (by decide) hin ?_
            rw [hn]
            refine g_if_eq hx dX4_filters_47 (tg := 55) (by decide) (nx := 50) rfl (fun c47 => ?_) (fun c47 => ?_)
            · refine g_iloadG_n hx dX4_filters_55 rfl (nx := 56) rfl rfl ?_
              refine g_istore_3 hx dX4_filters_56 (nx := 57) rfl (by decide) rfl ?_
              refine g_lloadG hx dX4_filters_57 (nx := 59) rfl rfl ?_
              refine g_aloadG_n hx dX4_filters_59 rfl (nx := 60) rfl rfl ?_
              refine g_getfo_R hx dX4_filters_60 (nx := 63) rfl fa_X4_60 rfl (r9 := 39) (hM.2 19 rfl) (hM.1 0 _ rfl) (by decide) ?_
              refine g_iloadG hx dX4_filters_63 (nx := 65) rfl rfl ?_
              refine g_laload hx dX4_filters_65 (nx := 66) rfl (hM.1 19 _ rfl) (by decide) hin ?_
              refine g_ladd hx dX4_filters_66 (nx := 67) rfl ?_
              refine g_lstore_4 hx dX4_filters_67 (nx := 69) rfl (by decide) rfl ?_
              refine g_iinc_6 hx dX4_filters_69 (nx := 72) rfl (by decide) (v := 1) (by decide) rfl ?_
              refine g_goto hx dX4_filters_72 (tg := 10) (by decide) ?_
              rw [← nI_succ]
              have K := ih (i + 1) (by omega)
              rcases hqi : q i with _ | _
              · rw [hqi] at hb hv
                rw [tl_f hqi, show fsT q (i + 1) = fsT q i by rw [fsT, hqi]; rfl, show lsT q (i + 1) = lsT q i by rw [lsT, hqi]; rfl] at K
                first
                  | exact absurd hb c25
                  | exact absurd hb c47
                  | (rw [hn, hv, if_neg (by decide), Int64.add_zero]; exact K)
              · rw [hqi] at hb hv
                rw [tl_t hqi, lsum_snoc, show fsT q (i + 1) = if fsT q i = -1 then nI i else fsT q i by rw [fsT, hqi]; rfl, show lsT q (i + 1) = nI i by rw [lsT, hqi]; rfl] at K
                first
                  | exact absurd (hb.symm.trans c25) (by decide)
                  | exact absurd (hb.symm.trans c47) (by decide)
                  | (rw [if_pos c30] at K; rw [hn, hv, if_pos rfl]; exact K)
                  | (rw [if_neg c30] at K; rw [hn, hv, if_pos rfl]; exact K)
            · refine g_iloadG hx dX4_filters_50 (nx := 52) rfl rfl ?_
              refine g_goto hx dX4_filters_52 (tg := 56) (by decide) ?_
              refine g_istore_3 hx dX4_filters_56 (nx := 57) rfl (by decide) rfl ?_
              refine g_lloadG hx dX4_filters_57 (nx := 59) rfl rfl ?_
              refine g_aloadG_n hx dX4_filters_59 rfl (nx := 60) rfl rfl ?_
              refine g_getfo_R hx dX4_filters_60 (nx := 63) rfl fa_X4_60 rfl (r9 := 39) (hM.2 19 rfl) (hM.1 0 _ rfl) (by decide) ?_
              refine g_iloadG hx dX4_filters_63 (nx := 65) rfl rfl ?_
              refine g_laload hx dX4_filters_65 (nx := 66) rfl (hM.1 19 _ rfl) (by decide) hin ?_
              refine g_ladd hx dX4_filters_66 (nx := 67) rfl ?_
              refine g_lstore_4 hx dX4_filters_67 (nx := 69) rfl (by decide) rfl ?_
              refine g_iinc_6 hx dX4_filters_69 (nx := 72) rfl (by decide) (v := 1) (by decide) rfl ?_
              refine g_goto hx dX4_filters_72 (tg := 10) (by decide) ?_
              rw [← nI_succ]
              have K := ih (i + 1) (by omega)
              rcases hqi : q i with _ | _
              · rw [hqi] at hb hv
                rw [tl_f hqi, show fsT q (i + 1) = fsT q i by rw [fsT, hqi]; rfl, show lsT q (i + 1) = lsT q i by rw [lsT, hqi]; rfl] at K
                first
                  | exact absurd hb c25
                  | exact absurd hb c47
                  | (rw [hn, hv, if_neg (by decide), Int64.add_zero]; exact K)
              · rw [hqi] at hb hv
                rw [tl_t hqi, lsum_snoc, show fsT q (i + 1) = if fsT q i = -1 then nI i else fsT q i by rw [fsT, hqi]; rfl, show lsT q (i + 1) = nI i by rw [lsT, hqi]; rfl] at K
                first
                  | exact absurd (hb.symm.trans c25) (by decide)
                  | exact absurd (hb.symm.trans c47) (by decide)
                  | (rw [if_pos c30] at K; rw [hn, hv, if_pos rfl]; exact K)
                  | (rw [if_neg c30] at K; rw [hn, hv, if_pos rfl]; exact K)
          · refine g_iloadG hx dX4_filters_33 (nx := 35) rfl rfl ?_
            refine g_goto hx dX4_filters_35 (tg := 39) (by decide) ?_
            refine g_istore_2 hx dX4_filters_39 (nx := 40) rfl (by decide) rfl ?_
            refine g_aloadG_n hx dX4_filters_40 rfl (nx := 41) rfl rfl ?_
            refine g_getfo_R hx dX4_filters_41 (nx := 44) rfl fa_X4_64 rfl (r9 := 40) (hM.2 20 rfl) (hM.1 0 _ rfl) (by decide) ?_
            refine g_iloadG hx dX4_filters_44 (nx := 46) rfl rfl ?_
            refine g_baload hx dX4_filters_46 (nx := 47) rfl (hM.1 20 _ rfl) (by decide) hin ?_
            rw [hn]
            refine g_if_eq hx dX4_filters_47 (tg := 55) (by decide) (nx := 50) rfl (fun c47 => ?_) (fun c47 => ?_)
            · refine g_iloadG_n hx dX4_filters_55 rfl (nx := 56) rfl rfl ?_
              refine g_istore_3 hx dX4_filters_56 (nx := 57) rfl (by decide) rfl ?_
              refine g_lloadG hx dX4_filters_57 (nx := 59) rfl rfl ?_
              refine g_aloadG_n hx dX4_filters_59 rfl (nx := 60) rfl rfl ?_
              refine g_getfo_R hx dX4_filters_60 (nx := 63) rfl fa_X4_60 rfl (r9 := 39) (hM.2 19 rfl) (hM.1 0 _ rfl) (by decide) ?_
              refine g_iloadG hx dX4_filters_63 (nx := 65) rfl rfl ?_
              refine g_laload hx dX4_filters_65 (nx := 66) rfl (hM.1 19 _ rfl) (by decide) hin ?_
              refine g_ladd hx dX4_filters_66 (nx := 67) rfl ?_
              refine g_lstore_4 hx dX4_filters_67 (nx := 69) rfl (by decide) rfl ?_
              refine g_iinc_6 hx dX4_filters_69 (nx := 72) rfl (by decide) (v := 1) (by decide) rfl ?_
              refine g_goto hx dX4_filters_72 (tg := 10) (by decide) ?_
              rw [← nI_succ]
              have K := ih (i + 1) (by omega)
              rcases hqi : q i with _ | _
              · rw [hqi] at hb hv
                rw [tl_f hqi, show fsT q (i + 1) = fsT q i by rw [fsT, hqi]; rfl, show lsT q (i + 1) = lsT q i by rw [lsT, hqi]; rfl] at K
                first
                  | exact absurd hb c25
                  | exact absurd hb c47
                  | (rw [hn, hv, if_neg (by decide), Int64.add_zero]; exact K)
              · rw [hqi] at hb hv
                rw [tl_t hqi, lsum_snoc, show fsT q (i + 1) = if fsT q i = -1 then nI i else fsT q i by rw [fsT, hqi]; rfl, show lsT q (i + 1) = nI i by rw [lsT, hqi]; rfl] at K
                first
                  | exact absurd (hb.symm.trans c25) (by decide)
                  | exact absurd (hb.symm.trans c47) (by decide)
                  | (rw [if_pos c30] at K; rw [hn, hv, if_pos rfl]; exact K)
                  | (rw [if_neg c30] at K; rw [hn, hv, if_pos rfl]; exact K)
            · refine g_iloadG hx dX4_filters_50 (nx := 52) rfl rfl ?_
              refine g_goto hx dX4_filters_52 (tg := 56) (by decide) ?_
              refine g_istore_3 hx dX4_filters_56 (nx := 57) rfl (by decide) rfl ?_
              refine g_lloadG hx dX4_filters_57 (nx := 59) rfl rfl ?_
              refine g_aloadG_n hx dX4_filters_59 rfl (nx := 60) rfl rfl ?_
              refine g_getfo_R hx dX4_filters_60 (nx := 63) rfl fa_X4_60 rfl (r9 := 39) (hM.2 19 rfl) (hM.1 0 _ rfl) (by decide) ?_
              refine g_iloadG hx dX4_filters_63 (nx := 65) rfl rfl ?_
              refine g_laload hx dX4_filters_65 (nx := 66) rfl (hM.1 19 _ rfl) (by decide) hin ?_
              refine g_ladd hx dX4_filters_66 (nx := 67) rfl ?_
              refine g_lstore_4 hx dX4_filters_67 (nx := 69) rfl (by decide) rfl ?_
              refine g_iinc_6 hx dX4_filters_69 (nx := 72) rfl (by decide) (v := 1) (by decide) rfl ?_
              refine g_goto hx dX4_filters_72 (tg := 10) (by decide) ?_
              rw [← nI_succ]
              have K := ih (i + 1) (by omega)
              rcases hqi : q i with _ | _
              · rw [hqi] at hb hv
                rw [tl_f hqi, show fsT q (i + 1) = fsT q i by rw [fsT, hqi]; rfl, show lsT q (i + 1) = lsT q i by rw [lsT, hqi]; rfl] at K
                first
                  | exact absurd hb c25
                  | exact absurd hb c47
                  | (rw [hn, hv, if_neg (by decide), Int64.add_zero]; exact K)
              · rw [hqi] at hb hv
                rw [tl_t hqi, lsum_snoc, show fsT q (i + 1) = if fsT q i = -1 then nI i else fsT q i by rw [fsT, hqi]; rfl, show lsT q (i + 1) = nI i by rw [lsT, hqi]; rfl] at K
                first
                  | exact absurd (hb.symm.trans c25) (by decide)
                  | exact absurd (hb.symm.trans c47) (by decide)
                  | (rw [if_pos c30] at K; rw [hn, hv, if_pos rfl]; exact K)
                  | (rw [if_neg c30] at K; rw [hn, hv, if_pos rfl]; exact K)
  refine g_iconst hx dX4_filters_0 (nx := 1) rfl (v := (-1)) (by decide) ?_
  refine g_istore_2 hx dX4_filters_1 (nx := 2) rfl (by decide) rfl ?_
  refine g_iconst hx dX4_filters_2 (nx := 3) rfl (v := (-1)) (by decide) ?_
  refine g_istore_3 hx dX4_filters_3 (nx := 4) rfl (by decide) rfl ?_
  refine g_lconst hx dX4_filters_4 (nx := 5) rfl (v := 0) (by decide) ?_
  refine g_lstore_4 hx dX4_filters_5 (nx := 7) rfl (by decide) rfl ?_
  refine g_iconst hx dX4_filters_7 (nx := 8) rfl (v := 0) (by decide) ?_
  refine g_istore_6 hx dX4_filters_8 (nx := 10) rfl (by decide) rfl ?_
  exact loop1 256 0 (Nat.zero_add _)

abbrev rmX4_takes : Room := { frames := 2, cells := 0, slots := 0, locals := 46 }
set_option maxHeartbeats 4000000 in
set_option maxRecDepth 100000 in
theorem s_X4_takes {l : Launch} {E : aE} {S : aS} {I : aI} {L : aL} {Rf : aR} {Kr : aK} {Kx : aX} (hst : l.stackTraces = false) {x : Int32} {j : Nat} {q : Nat → Bool} {V : Nat → Int64} (hM : lyM S Rf) (hT : tbM I) (hR : Mrep I L q V) (hxj : x = nI j) (hj : j < 64) (hk : ∀ L', eL L' L → Mrep I L' q (tkV q V x) → Kr none S I L' Rf) : aMet l E yX4_takes cX4_takes 7 none rmX4_takes [.ref 20, .int x] (S) (I) (L) (Rf) Kr Kx := by
  refine aMet.of (lv0 := [.ref 20, .int x, aU, aU, aU, aU, aU]) (z := 5) (by decide +kernel) hst rfl (Nat.le_of_ble_eq_true rfl) ?_
  intro p e s m args below meth c io0 hx hin hno
  have hx : aCx p l s m args meth c RX4 cX4_takes 7 none E := hx
  have hlen := aT_len q
  have loop1 : ∀ (r i : Nat) (L' : aL), i + r = 256 → ∀ A9 B9 : Int64, ((aT q).length ≠ 0 → A9 = tkE q V x ∧ B9 = tkO q V x) → (∀ a c, a ≠ 39 → L' a c = L a c) → (∀ t, t < 256 → L' 39 t = if q t = true then (if t < i then tkV q V x t else V t) else 0) → aG p l e rmX4_takes s m args below meth c E io0 S 7 (vx_MQ below (aQc E io0 S Kr) (aXC E io0 S Kx) args s rmX4_takes.cells rmX4_takes.slots (aW E)) 68 [.ref 20, .int x, .long A9, aU, .long B9, aU, .int (nI i)] [] (S) (I) (L') (Rf) 0 0 := by
    intro r
    induction r with
    | zero =>
      intro i L' hi A9 B9 hAB h1 h2
      have hi : i = 256 := by omega
      subst hi
      refine g_iloadG hx dX4_takes_68 (nx := 70) rfl rfl ?_
      refine g_sipush hx dX4_takes_70 (nx := 73) rfl (v := 256) (by decide) ?_
      refine g_icmp_ge hx dX4_takes_73 (tg := 132) (by decide) (nx := 76) rfl (fun c73 => ?_) (fun c73 => ?_)
      · refine g_vret hx dX4_takes_132 rfl (Nat.le_of_ble_eq_true rfl) (Nat.le_of_ble_eq_true rfl) ?_
        refine hk L' h1 ⟨hR.1, fun t ht => ?_, hR.2.2⟩
        rw [h2 t ht, if_pos ht]
      · exact absurd (by decide) c73
    | succ r ih =>
      intro i L' hi A9 B9 hAB h1 h2
      have hn : (nI i).toNatClampNeg = i := nI_clamp (by omega)
      have hin : vp_in (nI i) 256 := vp_in_nI (by omega) (by decide)
      refine g_iloadG hx dX4_takes_68 (nx := 70) rfl rfl ?_
      refine g_sipush hx dX4_takes_70 (nx := 73) rfl (v := 256) (by decide) ?_
      refine g_icmp_ge hx dX4_takes_73 (tg := 132) (by decide) (nx := 76) rfl (fun c73 => ?_) (fun c73 => ?_)
      · exact absurd c73 (nI_ge (b := 256) (by omega) (by decide))
      · refine g_aloadG_n hx dX4_takes_76 rfl (nx := 77) rfl rfl ?_
        refine g_getfo_R hx dX4_takes_77 (nx := 80) rfl fa_X4_60 rfl (r9 := 39) (hM.2 19 rfl) (hM.1 0 _ rfl) (by decide) ?_
        refine g_iloadG hx dX4_takes_80 (nx := 82) rfl rfl ?_
        refine g_dup2i hx dX4_takes_82 (nx := 83) rfl rfl rfl ?_
        refine g_laload hx dX4_takes_83 (nx := 84) rfl (hM.1 19 _ rfl) (by decide) hin ?_
        refine g_aloadG_n hx dX4_takes_84 rfl (nx := 85) rfl rfl ?_
        refine g_getfo_R hx dX4_takes_85 (nx := 88) rfl fa_X4_64 rfl (r9 := 40) (hM.2 20 rfl) (hM.1 0 _ rfl) (by decide) ?_
        refine g_iloadG hx dX4_takes_88 (nx := 90) rfl rfl ?_
        refine g_baload hx dX4_takes_90 (nx := 91) rfl (hM.1 20 _ rfl) (by decide) hin ?_
        rw [hn]
        have hb := hR.1 i (by omega)
        refine g_if_eq hx dX4_takes_91 (tg := 123) (by decide) (nx := 94) rfl (fun c91 => ?_) (fun c91 => ?_)
        · refine g_lconst hx dX4_takes_123 (nx := 124) rfl (v := 0) (by decide) ?_
          refine g_lsub hx dX4_takes_124 (nx := 125) rfl ?_
          refine g_lastore hx dX4_takes_125 (nx := 126) rfl (hM.1 19 _ rfl) (by decide) hin ?_
          refine g_iinc_6 hx dX4_takes_126 (nx := 129) rfl (by decide) (v := 1) (by decide) rfl ?_
          refine g_goto hx dX4_takes_129 (tg := 68) (by decide) ?_
          rw [← nI_succ, hn]
          have hval : L' 39 i - 0 = if q i = true then (if i < i + 1 then tkV q V x i else V i) else 0 := by
            have hqi : q i = false := by
              rcases hqi : q i with _ | _
              · rfl
              · rw [hqi] at hb; exact absurd (hb.symm.trans c91) (by decide)
            rw [h2 i (by omega), hqi, if_neg (by decide), if_neg (by decide)]; rfl
          refine ih (i + 1) _ (by omega) A9 B9 hAB (fun a c z => ?_) (fun t ht => ?_)
          · rw [au2_n (fun z2 => z z2.1)]; exact h1 a c z
          · by_cases e : t = i
            · subst e
              rw [au2_s]
              exact hval
            · rw [au2_n (fun z => e z.2), h2 t ht]
              by_cases e2 : t < i
              · rw [if_pos e2, if_pos (show t < i + 1 by omega)]
              · rw [if_neg e2, if_neg (show ¬ t < i + 1 by omega)]
        · refine g_lloadG_n hx dX4_takes_94 rfl (nx := 95) rfl rfl ?_
          refine g_aloadG_n hx dX4_takes_95 rfl (nx := 96) rfl rfl ?_
          refine g_iloadG_n hx dX4_takes_96 rfl (nx := 97) rfl rfl ?_
          refine g_iloadG hx dX4_takes_97 (nx := 99) rfl rfl ?_
          refine g_imul hx dX4_takes_99 (nx := 100) rfl ?_
          refine g_callV_M hx [_] (k' := 0) (n' := 0) dX4_takes_100 (nx := 103) rfl lk_X4_134 (hM.1 0 _ rfl) (by decide) rfl rfl (Nat.le_of_ble_eq_true rfl) (Nat.le_of_ble_eq_true rfl) (Nat.le_of_ble_eq_true rfl) (Nat.le_of_ble_eq_true rfl) (Nat.le_of_ble_eq_true rfl) (Nat.le_of_ble_eq_true rfl) (Nat.le_of_ble_eq_true rfl) (s_X4_cosine (g := j * i) hst hM hT (by rw [hxj]; exact nI_mul j i) (ji9 hj (by omega)) ?_)
          refine g_lmul hx dX4_takes_103 (nx := 104) rfl ?_
          refine g_lloadG hx dX4_takes_104 (nx := 106) rfl rfl ?_
          refine g_aloadG_n hx dX4_takes_106 rfl (nx := 107) rfl rfl ?_
          refine g_iloadG_n hx dX4_takes_107 rfl (nx := 108) rfl rfl ?_
          refine g_iloadG hx dX4_takes_108 (nx := 110) rfl rfl ?_
          refine g_imul hx dX4_takes_110 (nx := 111) rfl ?_
          refine g_callV_M hx [_] (k' := 0) (n' := 0) dX4_takes_111 (nx := 114) rfl lk_X4_130 (hM.1 0 _ rfl) (by decide) rfl rfl (Nat.le_of_ble_eq_true rfl) (Nat.le_of_ble_eq_true rfl) (Nat.le_of_ble_eq_true rfl) (Nat.le_of_ble_eq_true rfl) (Nat.le_of_ble_eq_true rfl) (Nat.le_of_ble_eq_true rfl) (Nat.le_of_ble_eq_true rfl) (s_X4_sine (g := j * i) hst hM hT (by rw [hxj]; exact nI_mul j i) (ji9 hj (by omega)) ?_)
          refine g_lmul hx dX4_takes_114 (nx := 115) rfl ?_
          refine g_ladd hx dX4_takes_115 (nx := 116) rfl ?_
          refine g_ldc2 hx dX4_takes_116 (nx := 119) rfl kl_X4_141 ?_
          refine g_ldiv hx dX4_takes_119 (nx := 120) rfl (by decide) ?_
          refine g_goto hx dX4_takes_120 (tg := 124) (by decide) ?_
          refine g_lsub hx dX4_takes_124 (nx := 125) rfl ?_
          refine g_lastore hx dX4_takes_125 (nx := 126) rfl (hM.1 19 _ rfl) (by decide) hin ?_
          refine g_iinc_6 hx dX4_takes_126 (nx := 129) rfl (by decide) (v := 1) (by decide) rfl ?_
          refine g_goto hx dX4_takes_129 (tg := 68) (by decide) ?_
          rw [← nI_succ, hn]
          have hval : L' 39 i - (A9 * cosL x i + B9 * sinL x i) / 1000 = if q i = true then (if i < i + 1 then tkV q V x i else V i) else 0 := by
            have hqi : q i = true := by
              rcases hqi : q i with _ | _
              · rw [hqi] at hb; exact absurd hb c91
              · rfl
            obtain ⟨g1, g2, g3⟩ := tF_le (by omega) hqi
            obtain ⟨hA, hB⟩ := hAB g3
            rw [h2 i (by omega), hqi, if_pos rfl, if_neg (Nat.lt_irrefl i), if_pos rfl, if_pos (Nat.lt_succ_self i), hA, hB]
            rfl
          refine ih (i + 1) _ (by omega) A9 B9 hAB (fun a c z => ?_) (fun t ht => ?_)
          · rw [au2_n (fun z2 => z z2.1)]; exact h1 a c z
          · by_cases e : t = i
            · subst e
              rw [au2_s]
              exact hval
            · rw [au2_n (fun z => e z.2), h2 t ht]
              by_cases e2 : t < i
              · rw [if_pos e2, if_pos (show t < i + 1 by omega)]
              · rw [if_neg e2, if_neg (show ¬ t < i + 1 by omega)]
  by_cases hz : (aT q).length = 0
  · refine g_aloadG_n hx dX4_takes_0 rfl (nx := 1) rfl rfl ?_
    refine g_getfo_i hx dX4_takes_1 (nx := 4) rfl fa_X4_143 rfl (hM.1 0 _ rfl) (by decide) ?_
    refine g_if_ne hx dX4_takes_4 (tg := 11) (by decide) (nx := 7) rfl (fun c4 => ?_) (fun c4 => ?_)
    · exact absurd (by rw [hR.2.2, hz]; rfl) c4
    · refine g_lconst hx dX4_takes_7 (nx := 8) rfl (v := 0) (by decide) ?_
      refine g_goto hx dX4_takes_8 (tg := 31) (by decide) ?_
      refine g_lstore_2 hx dX4_takes_31 (nx := 32) rfl (by decide) rfl ?_
      refine g_aloadG_n hx dX4_takes_32 rfl (nx := 33) rfl rfl ?_
      refine g_getfo_i hx dX4_takes_33 (nx := 36) rfl fa_X4_143 rfl (hM.1 0 _ rfl) (by decide) ?_
      refine g_if_ne hx dX4_takes_36 (tg := 43) (by decide) (nx := 39) rfl (fun c36 => ?_) (fun c36 => ?_)
      · exact absurd (by rw [hR.2.2, hz]; rfl) c36
      · refine g_lconst hx dX4_takes_39 (nx := 40) rfl (v := 0) (by decide) ?_
        refine g_goto hx dX4_takes_40 (tg := 63) (by decide) ?_
        refine g_lstore_4 hx dX4_takes_63 (nx := 65) rfl (by decide) rfl ?_
        refine g_iconst hx dX4_takes_65 (nx := 66) rfl (v := 0) (by decide) ?_
        refine g_istore_6 hx dX4_takes_66 (nx := 68) rfl (by decide) rfl ?_
        exact loop1 256 0 L (Nat.zero_add _) _ _ (fun z => absurd hz z) (fun _ _ _ => rfl) (fun t ht => by rw [hR.2.1 t ht, if_neg (Nat.not_lt_zero t)])
  · refine g_aloadG_n hx dX4_takes_0 rfl (nx := 1) rfl rfl ?_
    refine g_getfo_i hx dX4_takes_1 (nx := 4) rfl fa_X4_143 rfl (hM.1 0 _ rfl) (by decide) ?_
    refine g_if_ne hx dX4_takes_4 (tg := 11) (by decide) (nx := 7) rfl (fun c4 => ?_) (fun c4 => ?_)
    · refine g_ldc2 hx dX4_takes_11 (nx := 14) rfl kl_X4_150 ?_
      refine g_aloadG_n hx dX4_takes_14 rfl (nx := 15) rfl rfl ?_
      refine g_iloadG_n hx dX4_takes_15 rfl (nx := 16) rfl rfl ?_
      refine g_iconst hx dX4_takes_16 (nx := 17) rfl (v := 0) (by decide) ?_
      refine g_callV_M hx [_, _] (k' := 0) (n' := 0) dX4_takes_17 (nx := 20) rfl lk_X4_137 (hM.1 0 _ rfl) (by decide) rfl rfl (Nat.le_of_ble_eq_true rfl) (Nat.le_of_ble_eq_true rfl) (Nat.le_of_ble_eq_true rfl) (Nat.le_of_ble_eq_true rfl) (Nat.le_of_ble_eq_true rfl) (Nat.le_of_ble_eq_true rfl) (Nat.le_of_ble_eq_true rfl) (s_X4_sum hst hM hT hR hxj hj ?_)
      refine g_lmul hx dX4_takes_20 (nx := 21) rfl ?_
      refine g_ldc2 hx dX4_takes_21 (nx := 24) rfl kl_X4_141 ?_
      refine g_aloadG_n hx dX4_takes_24 rfl (nx := 25) rfl rfl ?_
      refine g_getfo_i hx dX4_takes_25 (nx := 28) rfl fa_X4_143 rfl (hM.1 0 _ rfl) (by decide) ?_
      refine g_i2l hx dX4_takes_28 (nx := 29) rfl ?_
      refine g_lmul hx dX4_takes_29 (nx := 30) rfl ?_
      refine g_ldiv hx dX4_takes_30 (nx := 31) rfl (by rw [hR.2.2, nI_l (by omega)]; exact sN_ne (by omega) (by omega)) ?_
      refine g_lstore_2 hx dX4_takes_31 (nx := 32) rfl (by decide) rfl ?_
      refine g_aloadG_n hx dX4_takes_32 rfl (nx := 33) rfl rfl ?_
      refine g_getfo_i hx dX4_takes_33 (nx := 36) rfl fa_X4_143 rfl (hM.1 0 _ rfl) (by decide) ?_
      refine g_if_ne hx dX4_takes_36 (tg := 43) (by decide) (nx := 39) rfl (fun c36 => ?_) (fun c36 => ?_)
      · refine g_ldc2 hx dX4_takes_43 (nx := 46) rfl kl_X4_150 ?_
        refine g_aloadG_n hx dX4_takes_46 rfl (nx := 47) rfl rfl ?_
        refine g_iloadG_n hx dX4_takes_47 rfl (nx := 48) rfl rfl ?_
        refine g_iconst hx dX4_takes_48 (nx := 49) rfl (v := 1) (by decide) ?_
        refine g_callV_M hx [_, _] (k' := 0) (n' := 0) dX4_takes_49 (nx := 52) rfl lk_X4_137 (hM.1 0 _ rfl) (by decide) rfl rfl (Nat.le_of_ble_eq_true rfl) (Nat.le_of_ble_eq_true rfl) (Nat.le_of_ble_eq_true rfl) (Nat.le_of_ble_eq_true rfl) (Nat.le_of_ble_eq_true rfl) (Nat.le_of_ble_eq_true rfl) (Nat.le_of_ble_eq_true rfl) (s_X4_sum hst hM hT hR hxj hj ?_)
        refine g_lmul hx dX4_takes_52 (nx := 53) rfl ?_
        refine g_ldc2 hx dX4_takes_53 (nx := 56) rfl kl_X4_141 ?_
        refine g_aloadG_n hx dX4_takes_56 rfl (nx := 57) rfl rfl ?_
        refine g_getfo_i hx dX4_takes_57 (nx := 60) rfl fa_X4_143 rfl (hM.1 0 _ rfl) (by decide) ?_
        refine g_i2l hx dX4_takes_60 (nx := 61) rfl ?_
        refine g_lmul hx dX4_takes_61 (nx := 62) rfl ?_
        refine g_ldiv hx dX4_takes_62 (nx := 63) rfl (by rw [hR.2.2, nI_l (by omega)]; exact sN_ne (by omega) (by omega)) ?_
        refine g_lstore_4 hx dX4_takes_63 (nx := 65) rfl (by decide) rfl ?_
        refine g_iconst hx dX4_takes_65 (nx := 66) rfl (v := 0) (by decide) ?_
        refine g_istore_6 hx dX4_takes_66 (nx := 68) rfl (by decide) rfl ?_
        exact loop1 256 0 L (Nat.zero_add _) _ _ (fun z => ⟨by rw [trM_0, hR.2.2, nI_l (by omega)]; rfl, by rw [trM_1, hR.2.2, nI_l (by omega)]; rfl⟩) (fun _ _ _ => rfl) (fun t ht => by rw [hR.2.1 t ht, if_neg (Nat.not_lt_zero t)])
      · exact absurd c36 (by rw [hR.2.2]; exact nI_ne0 (by omega) (by omega))
    · exact absurd c4 (by rw [hR.2.2]; exact nI_ne0 (by omega) (by omega))

/-- what the reference holds of star k: who is there, the counts, the lines taken out -/
def lgM (I : aI) (k : Nat) (q : Nat → Bool) (V : Nat → Int64) (ff : Nat → Int32) (m : Nat) : Prop := (∀ t, t < 256 → q t = (decide (I 31 (256 * k + t) ≠ -1) && decide (I 33 (I 32 (256 * k + t)).toNatClampNeg = 0))) ∧ (∀ t, t < 256 → vp_in (I 32 (256 * k + t)) 4) ∧ (∀ t, t < 256 → q t = true → (I 31 (256 * k + t)).toInt64 = V t) ∧ okV q V ∧ ∀ i, i < m → I 36 (6 * k + i) = ff i ∧ ∃ j, j < 64 ∧ ff i = nI j
theorem lgM.x {I J : aI} {k : Nat} {q : Nat → Bool} {V : Nat → Int64} {ff : Nat → Int32} {m : Nat} (h : lgM I k q V ff m) (e : ∀ a b, a = 31 ∨ a = 32 ∨ a = 33 ∨ a = 36 → J a b = I a b) : lgM J k q V ff m := by
  obtain ⟨h1, h2, h3, h4, h5⟩ := h
  refine ⟨fun t ht => ?_, fun t ht => ?_, fun t ht hq => ?_, h4, fun i hi => ?_⟩
  · rw [e 31 _ (by decide), e 32 _ (by decide), e 33 _ (by decide)]; exact h1 t ht
  · rw [e 32 _ (by decide)]; exact h2 t ht
  · rw [e 31 _ (by decide)]; exact h3 t ht hq
  · rw [e 36 _ (by decide)]; exact h5 i hi
theorem lgM.eM {I J : aI} {k : Nat} {q : Nat → Bool} {V : Nat → Int64} {ff : Nat → Int32} {m : Nat} (h : lgM I k q V ff m) (e : eM J I) : lgM J k q V ff m := h.x (fun a b z => e a b (by omega) (by omega))
theorem lgM.le {I : aI} {k : Nat} {q : Nat → Bool} {V : Nat → Int64} {ff : Nat → Int32} {m n : Nat} (h : lgM I k q V ff m) (e : n ≤ m) : lgM I k q V ff n := ⟨h.1, h.2.1, h.2.2.1, h.2.2.2.1, fun i hi => h.2.2.2.2 i (by omega)⟩
theorem Mrep.c {I : aI} {L : aL} {q : Nat → Bool} {V W : Nat → Int64} (h : Mrep I L q V) (e : ∀ t, t < 256 → q t = true → V t = W t) : Mrep I L q W := ⟨h.1, fun t ht => by
  rw [h.2.1 t ht]
  by_cases hq : q t = true
  · rw [if_pos hq, if_pos hq, e t ht hq]
  · rw [if_neg hq, if_neg hq], h.2.2⟩
theorem Mrep.L {I : aI} {L M : aL} {q : Nat → Bool} {V : Nat → Int64} (h : Mrep I L q V) (e : ∀ t, M 39 t = L 39 t) : Mrep I M q V := ⟨h.1, fun t ht => (e t).trans (h.2.1 t ht), h.2.2⟩
abbrev rmX4_laysAll : Room := { frames := 3, cells := 0, slots := 0, locals := 72 }
set_option maxHeartbeats 4000000 in
set_option maxRecDepth 100000 in
theorem s_X4_laysAll {l : Launch} {E : aE} {S : aS} {I : aI} {L : aL} {Rf : aR} {Kr : aK} {Kx : aX} (hst : l.stackTraces = false) {f : Int32} {k mm : Nat} {q : Nat → Bool} {V : Nat → Int64} {ff : Nat → Int32} (hM : lyM S Rf) (hT : tbM I) (hk6 : k < 6) (hl : lgM I k q V ff mm) (hm : mm ≤ 6) (hf : f = 0 ∨ f = 1 ∨ f = 2) (hk : ∀ I' L', eM I' I → eL L' L → Mrep I' L' q (tks q (flV q V f) ff mm) → Kr none S I' L' Rf) : aMet l E yX4_laysAll cX4_laysAll 5 none rmX4_laysAll [.ref 20, .int (nI k), .int f, .int (nI mm)] (S) (I) (L) (Rf) Kr Kx := by
  refine aMet.of (lv0 := [.ref 20, .int (nI k), .int f, .int (nI mm), aU]) (z := 1) (by decide +kernel) hst rfl (Nat.le_of_ble_eq_true rfl) ?_
  intro p e s m args below meth c io0 hx hin hno
  have hx : aCx p l s m args meth c RX4 cX4_laysAll 5 none E := hx
  refine g_aloadG_n hx dX4_laysAll_0 rfl (nx := 1) rfl rfl ?_
  refine g_iloadG_n hx dX4_laysAll_1 rfl (nx := 2) rfl rfl ?_
  refine g_iconst hx dX4_laysAll_2 (nx := 3) rfl (v := 0) (by decide) ?_
  refine g_callV_M hx [_, _] (k' := 0) (n' := 0) dX4_laysAll_3 (nx := 6) rfl lk_X4_152 (hM.1 0 _ rfl) (by decide) rfl rfl (Nat.le_of_ble_eq_true rfl) (Nat.le_of_ble_eq_true rfl) (Nat.le_of_ble_eq_true rfl) (Nat.le_of_ble_eq_true rfl) (Nat.le_of_ble_eq_true rfl) (Nat.le_of_ble_eq_true rfl) (Nat.le_of_ble_eq_true rfl) (s_X4_lays (q := q) hst hM hk6 hl.1 hl.2.1 (fun I1 L0 e1 e0 r0 => ?_))
  have r1 : Mrep I1 L0 q V := r0.c (fun t ht hq => hl.2.2.1 t ht hq)
  refine g_aloadG_n hx dX4_laysAll_6 rfl (nx := 7) rfl rfl ?_
  refine g_iloadG_n hx dX4_laysAll_7 rfl (nx := 8) rfl rfl ?_
  refine g_callV_M hx [_] (k' := 0) (n' := 0) dX4_laysAll_8 (nx := 11) rfl lk_X4_156 (hM.1 0 _ rfl) (by decide) rfl rfl (Nat.le_of_ble_eq_true rfl) (Nat.le_of_ble_eq_true rfl) (Nat.le_of_ble_eq_true rfl) (Nat.le_of_ble_eq_true rfl) (Nat.le_of_ble_eq_true rfl) (Nat.le_of_ble_eq_true rfl) (Nat.le_of_ble_eq_true rfl) (s_X4_filters (q := q) (V := V) hst hM r1 hl.2.2.2.1 hf (fun L1 g1 g3 => ?_))
  have e2 : eL L1 L := g1.trans e0
  refine g_iconst hx dX4_laysAll_11 (nx := 12) rfl (v := 0) (by decide) ?_
  refine g_istore_4 hx dX4_laysAll_12 (nx := 14) rfl (by decide) rfl ?_
  have loop1 : ∀ (r i : Nat) (L' : aL), i + r = mm → (∀ a c, a ≠ 39 → L' a c = L1 a c) → Mrep I1 L' q (tks q (flV q V f) ff i) → aG p l e rmX4_laysAll s m args below meth c E io0 S 5 (vx_MQ below (aQc E io0 S Kr) (aXC E io0 S Kx) args s rmX4_laysAll.cells rmX4_laysAll.slots (aW E)) 14 [.ref 20, .int (nI k), .int f, .int (nI mm), .int (nI i)] [] (S) (I1) (L') (Rf) 0 0 := by
    intro r
    induction r with
    | zero =>
      intro i L' hi h1 h2
      have hi : i = mm := by omega
      subst hi
      refine g_iloadG hx dX4_laysAll_14 (nx := 16) rfl rfl ?_
      refine g_iloadG_n hx dX4_laysAll_16 rfl (nx := 17) rfl rfl ?_
      refine g_icmp_ge hx dX4_laysAll_17 (tg := 42) (by decide) (nx := 20) rfl (fun c17 => ?_) (fun c17 => ?_)
      · refine g_vret hx dX4_laysAll_42 rfl (Nat.le_of_ble_eq_true rfl) (Nat.le_of_ble_eq_true rfl) ?_
        exact hk I1 L' e1 (fun a c z => (h1 a c z).trans (e2 a c z)) h2
      · exact absurd (Int32.le_refl _) c17
    | succ r ih =>
      intro i L' hi h1 h2
      obtain ⟨j9, hj8, hj9⟩ := (hl.2.2.2.2 i (by omega)).2
      have e9 := ix6 k i
      have hin9 : vp_in (6 * nI k + nI i) 36 := by rw [e9]; exact vp_in_nI (by omega) (by decide)
      have hc9 : (6 * nI k + nI i).toNatClampNeg = 6 * k + i := by rw [e9]; exact nI_clamp (by omega)
      refine g_iloadG hx dX4_laysAll_14 (nx := 16) rfl rfl ?_
      refine g_iloadG_n hx dX4_laysAll_16 rfl (nx := 17) rfl rfl ?_
      refine g_icmp_ge hx dX4_laysAll_17 (tg := 42) (by decide) (nx := 20) rfl (fun c17 => ?_) (fun c17 => ?_)
      · exact absurd c17 (nI_ge (by omega) (by omega))
      · refine g_aloadG_n hx dX4_laysAll_20 rfl (nx := 21) rfl rfl ?_
        refine g_aloadG_n hx dX4_laysAll_21 rfl (nx := 22) rfl rfl ?_
        refine g_getfo_R hx dX4_laysAll_22 (nx := 25) rfl fa_X4_54 rfl (r9 := 36) (hM.2 16 rfl) (hM.1 0 _ rfl) (by decide) ?_
        refine g_bipush hx dX4_laysAll_25 (nx := 27) rfl (v := 6) (by decide) ?_
        refine g_iloadG_n hx dX4_laysAll_27 rfl (nx := 28) rfl rfl ?_
        refine g_imul hx dX4_laysAll_28 (nx := 29) rfl ?_
        refine g_iloadG hx dX4_laysAll_29 (nx := 31) rfl rfl ?_
        refine g_iadd hx dX4_laysAll_31 (nx := 32) rfl ?_
        refine g_iaload hx dX4_laysAll_32 (nx := 33) rfl (hM.1 16 _ rfl) (by decide) hin9 ?_
        rw [hc9]
        refine g_callV_M hx [_] (k' := 0) (n' := 0) dX4_laysAll_33 (nx := 36) rfl lk_X4_160 (hM.1 0 _ rfl) (by decide) rfl rfl (Nat.le_of_ble_eq_true rfl) (Nat.le_of_ble_eq_true rfl) (Nat.le_of_ble_eq_true rfl) (Nat.le_of_ble_eq_true rfl) (Nat.le_of_ble_eq_true rfl) (Nat.le_of_ble_eq_true rfl) (Nat.le_of_ble_eq_true rfl) (s_X4_takes (j := j9) hst hM (hT.x e1) h2 ((e1 36 _ (by omega) (by decide)).trans ((hl.2.2.2.2 i (by omega)).1.trans hj9)) hj8 (fun L2 g1 g2 => ?_))
        refine g_iinc_4 hx dX4_laysAll_36 (nx := 39) rfl (by decide) (v := 1) (by decide) rfl ?_
        refine g_goto hx dX4_laysAll_39 (tg := 14) (by decide) ?_
        rw [← nI_succ]
        refine ih (i + 1) L2 (by omega) (fun a c z => (g1 a c z).trans (h1 a c z)) ?_
        rw [e1 36 _ (by omega) (by decide), (hl.2.2.2.2 i (by omega)).1] at g2
        exact g2
  exact loop1 mm 0 L1 (Nat.zero_add _) (fun _ _ _ => rfl) g3

