/-! ===== the law: rows for its script ===== -/
noncomputable def sc (sx : Nat → Int32) (j : Int) : Int := (sx j.toNat).toInt
theorem sc_b (sx : Nat → Int32) (j : Int) : -2147483648 ≤ sc sx j ∧ sc sx j ≤ 2147483647 := by
  unfold sc
  have h1 := (sx j.toNat).le_toInt
  have h2 := (sx j.toNat).toInt_lt
  omega
/-- what holds while the law runs -/
def LwC (x : Cx) (z b L : Nat) (sx : Nat → Int32) (l : Launch) (d : Dd) (e : Ee) : Prop := OK x z RL cL_law 4 (some .boolean) 12 460 600000 7302250 ∧ xl x = l ∧ xd x = d ∧ HE d z e ∧ va_X b L sx (xs x) (xs x).heap ∧ b < (xs x).heap.size ∧ b < z ∧ L ≤ 3072
section LW
variable {x : Cx} {z b L : Nat} {sx : Nat → Int32} {l : Launch} {d : Dd} {e : Ee} {Po : Pst} {N : Int} {I : Mm} {k n pc : Nat} {Lc : List (Option Value)} {st : List Value}
theorem V_sld (h : LwC x z b L sx l d e) {j : Int} (hd : decode cL_law pc = .ok (.iaload, 1)) (hj : 0 ≤ j ∧ j < (L : Int)) (kk : V x z Po N I k n (pc + 1) Lc (vI (sc sx j) :: st)) : V x z Po N I k n pc Lc (vI j :: .ref b :: st) := by
  obtain ⟨hx, -, -, -, hX, hb1, hb2, hL⟩ := h
  intro H locs ls hP hS hl
  refine va_sld hx.1 hx.2.1 hX hb1 (fun q : z ≤ b => absurd q (by omega)) hS (vp_in_o hj (by omega)) hd ?_
  have := kk H locs ls hP hS hl
  rw [oI_clamp (by omega)]
  unfold vI sc at this
  rw [Int32.ofInt_toInt] at this
  exact this
theorem V_slen (h : LwC x z b L sx l d e) (hd : decode cL_law pc = .ok (.arraylength, 1)) (kk : V x z Po N I k n (pc + 1) Lc (vI (L : Int) :: st)) : V x z Po N I k n pc Lc (.ref b :: st) := by
  obtain ⟨hx, -, -, -, hX, hb1, hb2, hL⟩ := h
  intro H locs ls hP hS hl
  exact va_slen hx.1 hx.2.1 hX hb1 (fun q : z ≤ b => absurd q (by omega)) hS hd (kk H locs ls hP hS hl)
theorem V_wid {k' n' : Nat} (hk : k ≤ k') (hn : n ≤ n') (kk : V x z Po N I k' n' pc Lc st) : V x z Po N I k n pc Lc st :=
  fun H locs ls hP hS hl => W.widen hk hn (kk H locs ls hP hS hl)
theorem V_same (h : LwC x z b L sx l d e) {a off : Int} {tgt : Nat} (hd : decode cL_law pc = .ok (.if_icmp .eq off, 3)) (ht : (pc : Int) + off = (tgt : Int)) (kk : V x z Po N I k n tgt Lc st) : V x z Po N I k n pc Lc (vI a :: vI a :: st) :=
  fun H locs ls hP hS hl => lv_icmp_eq h.1.1 h.1.2.1 hd ht (fun _ => kk H locs ls hP hS hl) (fun q => absurd rfl q)
theorem V_sameL (h : LwC x z b L sx l d e) {a off : Int} {tgt : Nat} (hd : decode cL_law pc = .ok (.lcmp, 1)) (hd2 : decode cL_law (pc + 1) = .ok (.ifCond .eq off, 3)) (ht : ((pc + 1 : Nat) : Int) + off = (tgt : Int)) (kk : V x z Po N I k n tgt Lc st) : V x z Po N I k n pc Lc (vL a :: vL a :: st) := by
  intro H locs ls hP hS hl
  have e0 : lg_cmp (Int64.ofInt a) (Int64.ofInt a) = Int32.ofInt 0 := by
    unfold lg_cmp
    rw [if_neg (fun q => by have := Int64.lt_iff_toInt_lt.mp q; omega), if_pos rfl]
    rfl
  refine W.lcmp h.1.1 h.1.2.1 hd ?_
  rw [e0]
  exact V_if_eq (a := 0) h.1 hd2 ht (by omega) (fun _ => kk) (fun q => absurd rfl q) H locs ls hP hS hl
theorem V_scr (h : LwC x z b L sx l d e) {i c : Int} {o1 o2 : Option Value} (d0 : decode cL_law pc = .ok (.aload_n 0, 1)) (d1 : decode cL_law (pc + 1) = .ok (.iload_n 3, 1)) (d2 : decode cL_law (pc + 1 + 1) = .ok (.iconst c, 1)) (d3 : decode cL_law (pc + 1 + 1 + 1) = .ok (.iadd, 1)) (d4 : decode cL_law (pc + 1 + 1 + 1 + 1) = .ok (.iaload, 1)) (hj : 0 ≤ i + c ∧ i + c < (L : Int))
    (kk : V x z Po N I k n (pc + 1 + 1 + 1 + 1 + 1) [some (.ref b), o1, o2, some (vI i)] (vI (sc sx (i + c)) :: st)) : V x z Po N I k n pc [some (.ref b), o1, o2, some (vI i)] st := by
  refine V_aload_0q h.1 d0 ?_
  refine V_iload_3 h.1 d1 ?_
  refine V_iconst h.1 d2 ?_
  refine V_iadd h.1 d3 ?_
  exact V_sld h d4 hj kk
end LW
/-! ===== the law's cases ===== -/
section LC
variable {x : Cx} {z b L : Nat} {sx : Nat → Int32} {l : Launch} {d : Dd} {e : Ee} {Po : Pst} {N i : Int} {I : Mm} {k n : Nat}
theorem lwc_set (h : LwC x z b L sx l d e) (hi : 0 ≤ i ∧ i + 6 ≤ (L : Int)) (hI : Inv I N) (hk : k + 12 ≤ 600000 ∧ n + 156 ≤ 7302250) (kk : ∀ (N' : Int) (I' : Mm), Inv I' N' → V x z Po N' I' (k + 12) (n + 156) 1104 [some (.ref b), some (vR z 0), some (vR z 49), some (vI i)] []) : V x z Po N I k n 148 [some (.ref b), some (vR z 0), some (vR z 49), some (vI i)] [] := by
  have hnb := hI.nb
  refine V_aload_1 h.1 dL_law_148 ?_
  refine V_scr h (c := 1) dL_law_149 dL_law_150 dL_law_151 dL_law_152 dL_law_153 (by omega) ?_
  refine V_scr h (c := 2) dL_law_154 dL_law_155 dL_law_156 dL_law_157 dL_law_158 (by omega) ?_
  refine V_scr h (c := 3) dL_law_159 dL_law_160 dL_law_161 dL_law_162 dL_law_163 (by omega) ?_
  refine V_v3I h.1 h.2.1 h.2.2.1 (c_X10_set hI h.2.2.2.1 (sc_b sx (i + 1)) (sc_b sx (i + 2)) (sc_b sx (i + 3))) myX10_set mlL_13 dL_law_164 ⟨_, rfl, rfl⟩ (k0 hI.nb.1) (by decide) (by omega) rfl (by first | exact Nat.le_of_ble_eq_true rfl | (simp only [List.map_cons, List.map_nil, List.sum_cons, List.sum_nil, vR_cat, cat_I, cat_L]; decide)) (fun r N1 I1 ⟨er, eN, hF1, eI⟩ => ?_)
  subst er; subst eN; subst eI
  refine V_aload_2 h.1 dL_law_167 ?_
  refine V_scr h (c := 1) dL_law_168 dL_law_169 dL_law_170 dL_law_171 dL_law_172 (by omega) ?_
  refine V_scr h (c := 2) dL_law_173 dL_law_174 dL_law_175 dL_law_176 dL_law_177 (by omega) ?_
  refine V_scr h (c := 3) dL_law_178 dL_law_179 dL_law_180 dL_law_181 dL_law_182 (by omega) ?_
  refine V_v3I h.1 h.2.1 h.2.2.1 (c_X11_set (by omega) hF1 (sc_b sx (i + 1)) (sc_b sx (i + 2)) (sc_b sx (i + 3))) myX11_set mlL_17 dL_law_183 ⟨_, rfl, rfl⟩ (k49 (by omega)) (by decide) (by omega) rfl (by first | exact Nat.le_of_ble_eq_true rfl | (simp only [List.map_cons, List.map_nil, List.sum_cons, List.sum_nil, vR_cat, cat_I, cat_L]; decide)) (fun r2 N2 I2 ⟨er2, eI2, eN2, hF2⟩ => ?_)
  subst eN2; subst eI2
  rw [er2, hI.set1.2]
  refine V_same (tgt := 1104) h dL_law_186 (by decide) ?_
  exact V_wid (by omega) (by omega) (kk _ _ hI.set1.1)
theorem lwc_come (h : LwC x z b L sx l d e) (hi : 0 ≤ i ∧ i + 6 ≤ (L : Int)) (hI : Inv I N) (hk : k + 12 ≤ 600000 ∧ n + 156 ≤ 7302250) (kk : ∀ (N' : Int) (I' : Mm), Inv I' N' → V x z Po N' I' (k + 12) (n + 156) 1104 [some (.ref b), some (vR z 0), some (vR z 49), some (vI i)] []) : V x z Po N I k n 191 [some (.ref b), some (vR z 0), some (vR z 49), some (vI i)] [] := by
  have hnb := hI.nb
  refine V_aload_1 h.1 dL_law_191 ?_
  refine V_scr h (c := 1) dL_law_192 dL_law_193 dL_law_194 dL_law_195 dL_law_196 (by omega) ?_
  refine V_scr h (c := 2) dL_law_197 dL_law_198 dL_law_199 dL_law_200 dL_law_201 (by omega) ?_
  refine V_v2I h.1 h.2.1 h.2.2.1 (c_X10_come (by omega) hI.fx hI.ix.wel (sc_b sx (i + 1)) (sc_b sx (i + 2))) myX10_come mlL_18 dL_law_202 ⟨_, rfl, rfl⟩ (k0 hI.nb.1) (by decide) (by omega) rfl (by first | exact Nat.le_of_ble_eq_true rfl | (simp only [List.map_cons, List.map_nil, List.sum_cons, List.sum_nil, vR_cat, cat_I, cat_L]; decide)) (fun r N1 I1 hq => ?_)
  obtain ⟨hM, hN1, er, hv⟩ := come_1 hI hq
  have hF1 := hq.1
  refine V_aload_2 h.1 dL_law_205 ?_
  refine V_scr h (c := 1) dL_law_206 dL_law_207 dL_law_208 dL_law_209 dL_law_210 (by omega) ?_
  refine V_scr h (c := 2) dL_law_211 dL_law_212 dL_law_213 dL_law_214 dL_law_215 (by omega) ?_
  refine V_v2I h.1 h.2.1 h.2.2.1 (c_X11_come hN1 hF1 hM.2.2.2 hM.2.1 hM.1.1 hM.1.2.1 hM.1.2.2.1 (sc_b sx (i + 1)) (sc_b sx (i + 2))) myX11_come mlL_22 dL_law_216 ⟨_, rfl, rfl⟩ (k49 (by omega)) (by decide) (by omega) rfl (by first | exact Nat.le_of_ble_eq_true rfl | (simp only [List.map_cons, List.map_nil, List.sum_cons, List.sum_nil, vR_cat, cat_I, cat_L]; decide)) (fun r2 N2 I2 ⟨er2, eI2, eN2, hF2⟩ => ?_)
  subst eN2; subst eI2
  rw [er2, ← er]
  refine V_same (tgt := 1104) h dL_law_219 (by decide) ?_
  exact V_wid (by omega) (by omega) (kk _ _ (hv hF2))
theorem lwc_comes (h : LwC x z b L sx l d e) (hi : 0 ≤ i ∧ i + 6 ≤ (L : Int)) (hI : Inv I N) (hk : k + 12 ≤ 600000 ∧ n + 156 ≤ 7302250) (kk : ∀ (N' : Int) (I' : Mm), Inv I' N' → V x z Po N' I' (k + 12) (n + 156) 1104 [some (.ref b), some (vR z 0), some (vR z 49), some (vI i)] []) : V x z Po N I k n 224 [some (.ref b), some (vR z 0), some (vR z 49), some (vI i)] [] := by
  have hnb := hI.nb
  refine V_aload_1 h.1 dL_law_224 ?_
  refine V_scr h (c := 1) dL_law_225 dL_law_226 dL_law_227 dL_law_228 dL_law_229 (by omega) ?_
  refine V_scr h (c := 2) dL_law_230 dL_law_231 dL_law_232 dL_law_233 dL_law_234 (by omega) ?_
  refine V_scr h (c := 3) dL_law_235 dL_law_236 dL_law_237 dL_law_238 dL_law_239 (by omega) ?_
  refine V_scr h (c := 4) dL_law_240 dL_law_241 dL_law_242 dL_law_243 dL_law_244 (by omega) ?_
  refine V_v4I h.1 h.2.1 h.2.2.1 (c_X10_comes (P := cmP I N (sc sx (i + 1)) (sc sx (i + 3))) (by omega) hI.fx hI.sh hI.po.1 (cmP_0 hI) (fun k M hP _ => cmP_b hI k M hP) (fun k M J _ _ hP _ _ h3 h4 h5 h6 => cmP_s hI k M J hP h3 h4 h5 h6) (sc_b sx (i + 1)) (sc_b sx (i + 2)) (sc_b sx (i + 3)) (sc_b sx (i + 4))) myX10_comes mlL_23 dL_law_245 ⟨_, rfl, rfl⟩ (k0 hI.nb.1) (by decide) (by omega) rfl (by first | exact Nat.le_of_ble_eq_true rfl | (simp only [List.map_cons, List.map_nil, List.sum_cons, List.sum_nil, vR_cat, cat_I, cat_L]; decide)) (fun r N1 I1 hq => ?_)
  obtain ⟨hM, hN1, h59, er, hv⟩ := comes_1 hI hq
  have hF1 := hq.2.1
  refine V_aload_2 h.1 dL_law_248 ?_
  refine V_scr h (c := 1) dL_law_249 dL_law_250 dL_law_251 dL_law_252 dL_law_253 (by omega) ?_
  refine V_scr h (c := 2) dL_law_254 dL_law_255 dL_law_256 dL_law_257 dL_law_258 (by omega) ?_
  refine V_scr h (c := 3) dL_law_259 dL_law_260 dL_law_261 dL_law_262 dL_law_263 (by omega) ?_
  refine V_scr h (c := 4) dL_law_264 dL_law_265 dL_law_266 dL_law_267 dL_law_268 (by omega) ?_
  refine V_v4I h.1 h.2.1 h.2.2.1 (c_X11_comes (P := MdC) hN1 hF1 hM (fun M hM => ⟨hM.2.2.2, hM.2.1, hM.1.2.1, hM.1.2.2.1⟩) (fun M s ln hM h1 h2 h3 => MdC_comes hM h3 h1 h2) hM.1.1 (hI.s0 h59) (sc_b sx (i + 1)) (sc_b sx (i + 2)) (sc_b sx (i + 3)) (sc_b sx (i + 4))) myX11_comes mlL_27 dL_law_269 ⟨_, rfl, rfl⟩ (k49 (by omega)) (by decide) (by omega) rfl (by first | exact Nat.le_of_ble_eq_true rfl | (simp only [List.map_cons, List.map_nil, List.sum_cons, List.sum_nil, vR_cat, cat_I, cat_L]; decide)) (fun r2 N2 I2 ⟨er2, eI2, eN2, hF2, _⟩ => ?_)
  subst eN2; subst eI2
  rw [er2, ← er]
  refine V_same (tgt := 1104) h dL_law_272 (by decide) ?_
  exact V_wid (by omega) (by omega) (kk _ _ (hv hF2))
theorem lwc_type (h : LwC x z b L sx l d e) (hi : 0 ≤ i ∧ i + 6 ≤ (L : Int)) (hI : Inv I N) (hk : k + 12 ≤ 600000 ∧ n + 156 ≤ 7302250) (kk : ∀ (N' : Int) (I' : Mm), Inv I' N' → V x z Po N' I' (k + 12) (n + 156) 1104 [some (.ref b), some (vR z 0), some (vR z 49), some (vI i)] []) : V x z Po N I k n 277 [some (.ref b), some (vR z 0), some (vR z 49), some (vI i)] [] := by
  have hnb := hI.nb
  refine V_aload_1 h.1 dL_law_277 ?_
  refine V_scr h (c := 1) dL_law_278 dL_law_279 dL_law_280 dL_law_281 dL_law_282 (by omega) ?_
  refine V_i2l h.1 dL_law_283 (sc_b sx _) ?_
  refine V_bipush h.1 dL_law_284 (by decide) ?_
  refine V_lshl h.1 _ dL_law_286 (Int64.ofInt_toInt _).symm ?_
  refine V_scr h (c := 2) dL_law_287 dL_law_288 dL_law_289 dL_law_290 dL_law_291 (by omega) ?_
  refine V_i2l h.1 dL_law_292 (sc_b sx _) ?_
  refine V_ldc2 (v := 4294967295) h.1 kcL_28 dL_law_293 (by decide) ?_
  refine V_land h.1 _ dL_law_296 (Int64.ofInt_toInt _).symm ?_
  refine V_lor h.1 _ dL_law_297 (Int64.ofInt_toInt _).symm ?_
  refine V_scr h (c := 3) dL_law_298 dL_law_299 dL_law_300 dL_law_301 dL_law_302 (by omega) ?_
  refine V_v2I h.1 h.2.1 h.2.2.1 (c_X10_type hI (sc_b sx (i + 3))) myX10_type mlL_30 dL_law_303 ⟨_, rfl, rfl⟩ (k0 hI.nb.1) (by decide) (by omega) rfl (by first | exact Nat.le_of_ble_eq_true rfl | (simp only [List.map_cons, List.map_nil, List.sum_cons, List.sum_nil, vR_cat, cat_I, cat_L]; decide)) (fun r N1 I1 ⟨er, eN, hF1, eI⟩ => ?_)
  subst er; subst eN; subst eI
  refine V_aload_2 h.1 dL_law_306 ?_
  refine V_scr h (c := 1) dL_law_307 dL_law_308 dL_law_309 dL_law_310 dL_law_311 (by omega) ?_
  refine V_i2l h.1 dL_law_312 (sc_b sx _) ?_
  refine V_bipush h.1 dL_law_313 (by decide) ?_
  refine V_lshl h.1 _ dL_law_315 (Int64.ofInt_toInt _).symm ?_
  refine V_scr h (c := 2) dL_law_316 dL_law_317 dL_law_318 dL_law_319 dL_law_320 (by omega) ?_
  refine V_i2l h.1 dL_law_321 (sc_b sx _) ?_
  refine V_ldc2 (v := 4294967295) h.1 kcL_28 dL_law_322 (by decide) ?_
  refine V_land h.1 _ dL_law_325 (Int64.ofInt_toInt _).symm ?_
  refine V_lor h.1 _ dL_law_326 (Int64.ofInt_toInt _).symm ?_
  refine V_scr h (c := 3) dL_law_327 dL_law_328 dL_law_329 dL_law_330 dL_law_331 (by omega) ?_
  refine V_v2I h.1 h.2.1 h.2.2.1 (c_X11_type (by omega) hF1 (by rw [kType_m I _ _ 49 20 (by decide)]; exact hI.sn.2.2.2.2.2.1) (by have h1 := Int64.le_toInt (Int64.ofInt (((Int64.ofInt (sc sx (i + 1))) <<< ((Int32.ofInt 32).toInt64 &&& 63)).toInt) ||| Int64.ofInt ((Int64.ofInt (sc sx (i + 2)) &&& Int64.ofInt 4294967295).toInt)); have h2 := Int64.toInt_lt (Int64.ofInt (((Int64.ofInt (sc sx (i + 1))) <<< ((Int32.ofInt 32).toInt64 &&& 63)).toInt) ||| Int64.ofInt ((Int64.ofInt (sc sx (i + 2)) &&& Int64.ofInt 4294967295).toInt)); omega) (sc_b sx (i + 3))) myX11_type mlL_34 dL_law_332 ⟨_, rfl, rfl⟩ (k49 (by omega)) (by decide) (by omega) rfl (by first | exact Nat.le_of_ble_eq_true rfl | (simp only [List.map_cons, List.map_nil, List.sum_cons, List.sum_nil, vR_cat, cat_I, cat_L]; decide)) (fun r2 N2 I2 ⟨er2, eI2, eN2, hF2⟩ => ?_)
  subst eN2; subst eI2
  rw [er2, (hI.type1 hF2).2]
  refine V_same (tgt := 1104) h dL_law_335 (by decide) ?_
  exact V_wid (by omega) (by omega) (kk _ _ (hI.type1 hF2).1)
theorem lwc_rule (h : LwC x z b L sx l d e) (hi : 0 ≤ i ∧ i + 6 ≤ (L : Int)) (hI : Inv I N) (hk : k + 12 ≤ 600000 ∧ n + 156 ≤ 7302250) (kk : ∀ (N' : Int) (I' : Mm), Inv I' N' → V x z Po N' I' (k + 12) (n + 156) 1104 [some (.ref b), some (vR z 0), some (vR z 49), some (vI i)] []) : V x z Po N I k n 340 [some (.ref b), some (vR z 0), some (vR z 49), some (vI i)] [] := by
  have hnb := hI.nb
  refine V_aload_1 h.1 dL_law_340 ?_
  refine V_scr h (c := 1) dL_law_341 dL_law_342 dL_law_343 dL_law_344 dL_law_345 (by omega) ?_
  refine V_v1I h.1 h.2.1 h.2.2.1 (c_X10_rule hI h.2.2.2.1 (sc_b sx (i + 1))) myX10_rule mlL_35 dL_law_346 ⟨_, rfl, rfl⟩ (k0 hI.nb.1) (by decide) (by omega) rfl (by first | exact Nat.le_of_ble_eq_true rfl | (simp only [List.map_cons, List.map_nil, List.sum_cons, List.sum_nil, vR_cat, cat_I, cat_L]; decide)) (fun r N1 I1 ⟨er, eN, hF1, hK⟩ => ?_)
  subst er; subst eN
  have hm := kRule_m hK
  refine V_aload_2 h.1 dL_law_349 ?_
  refine V_scr h (c := 1) dL_law_350 dL_law_351 dL_law_352 dL_law_353 dL_law_354 (by omega) ?_
  refine V_v1I h.1 h.2.1 h.2.2.1 (c_X11_rule (by omega) hF1 (by rw [hm 49 20 (by decide)]; exact hI.sn.2.2.2.2.2.1) (fun q a b => by rw [hm 49 20 (by decide)] at b; rw [hm 62 q (by decide)]; exact (hI.tp.2.1 q a b).2) (sc_b sx (i + 1))) myX11_rule mlL_39 dL_law_355 ⟨_, rfl, rfl⟩ (k49 (by omega)) (by decide) (by omega) rfl (by first | exact Nat.le_of_ble_eq_true rfl | (simp only [List.map_cons, List.map_nil, List.sum_cons, List.sum_nil, vR_cat, cat_I, cat_L]; decide)) (fun r2 N2 I2 ⟨eN2, hF2, er2, hJ⟩ => ?_)
  subst eN2
  have hc := hI.rule1 hF2 hK hJ
  rw [er2, hc.2]
  refine V_same (tgt := 1104) h dL_law_358 (by decide) ?_
  exact V_wid (by omega) (by omega) (kk _ _ hc.1)
theorem lwc_told (h : LwC x z b L sx l d e) (hi : 0 ≤ i ∧ i + 6 ≤ (L : Int)) (hI : Inv I N) (hk : k + 12 ≤ 600000 ∧ n + 156 ≤ 7302250) (kk : ∀ (N' : Int) (I' : Mm), Inv I' N' → V x z Po N' I' (k + 12) (n + 156) 1104 [some (.ref b), some (vR z 0), some (vR z 49), some (vI i)] []) : V x z Po N I k n 363 [some (.ref b), some (vR z 0), some (vR z 49), some (vI i)] [] := by
  have hnb := hI.nb
  refine V_aload_1 h.1 dL_law_363 ?_
  refine V_scr h (c := 1) dL_law_364 dL_law_365 dL_law_366 dL_law_367 dL_law_368 (by omega) ?_
  refine V_scr h (c := 2) dL_law_369 dL_law_370 dL_law_371 dL_law_372 dL_law_373 (by omega) ?_
  refine V_v2P h.1 h.2.1 h.2.2.1 (c_X10_told hI (sc_b sx (i + 1)) (sc_b sx (i + 2))) myX10_told mlL_40 dL_law_374 ⟨_, rfl, rfl⟩ (k0 hI.nb.1) (by decide) (by omega) rfl (by first | exact Nat.le_of_ble_eq_true rfl | (simp only [List.map_cons, List.map_nil, List.sum_cons, List.sum_nil, vR_cat, cat_I, cat_L]; decide)) ?_
  refine V_aload_2 h.1 dL_law_377 ?_
  refine V_scr h (c := 1) dL_law_378 dL_law_379 dL_law_380 dL_law_381 dL_law_382 (by omega) ?_
  refine V_scr h (c := 2) dL_law_383 dL_law_384 dL_law_385 dL_law_386 dL_law_387 (by omega) ?_
  refine V_v2P h.1 h.2.1 h.2.2.1 (c_X11_told (by omega) hI.fx hI.sn.1 (sc_b sx (i + 1)) (sc_b sx (i + 2))) myX11_told mlL_43 dL_law_388 ⟨_, rfl, rfl⟩ (k49 (by omega)) (by decide) (by omega) rfl (by first | exact Nat.le_of_ble_eq_true rfl | (simp only [List.map_cons, List.map_nil, List.sum_cons, List.sum_nil, vR_cat, cat_I, cat_L]; decide)) ?_
  refine V_same (tgt := 1104) h dL_law_391 (by decide) ?_
  exact V_wid (by omega) (by omega) (kk _ _ hI)
theorem lwc_rank (h : LwC x z b L sx l d e) (hi : 0 ≤ i ∧ i + 6 ≤ (L : Int)) (hI : Inv I N) (hk : k + 12 ≤ 600000 ∧ n + 156 ≤ 7302250) (kk : ∀ (N' : Int) (I' : Mm), Inv I' N' → V x z Po N' I' (k + 12) (n + 156) 1104 [some (.ref b), some (vR z 0), some (vR z 49), some (vI i)] []) : V x z Po N I k n 396 [some (.ref b), some (vR z 0), some (vR z 49), some (vI i)] [] := by
  have hnb := hI.nb
  refine V_aload_1 h.1 dL_law_396 ?_
  refine V_scr h (c := 1) dL_law_397 dL_law_398 dL_law_399 dL_law_400 dL_law_401 (by omega) ?_
  refine V_scr h (c := 2) dL_law_402 dL_law_403 dL_law_404 dL_law_405 dL_law_406 (by omega) ?_
  refine V_v2P h.1 h.2.1 h.2.2.1 (c_X10_rank hI (sc_b sx (i + 1)) (sc_b sx (i + 2))) myX10_rank mlL_44 dL_law_407 ⟨_, rfl, rfl⟩ (k0 hI.nb.1) (by decide) (by omega) rfl (by first | exact Nat.le_of_ble_eq_true rfl | (simp only [List.map_cons, List.map_nil, List.sum_cons, List.sum_nil, vR_cat, cat_I, cat_L]; decide)) ?_
  refine V_aload_2 h.1 dL_law_410 ?_
  refine V_scr h (c := 1) dL_law_411 dL_law_412 dL_law_413 dL_law_414 dL_law_415 (by omega) ?_
  refine V_scr h (c := 2) dL_law_416 dL_law_417 dL_law_418 dL_law_419 dL_law_420 (by omega) ?_
  refine V_v2P h.1 h.2.1 h.2.2.1 (c_X11_rank (by omega) hI.fx hI.sn.1 (sc_b sx (i + 1)) (sc_b sx (i + 2))) myX11_rank mlL_48 dL_law_421 ⟨_, rfl, rfl⟩ (k49 (by omega)) (by decide) (by omega) rfl (by first | exact Nat.le_of_ble_eq_true rfl | (simp only [List.map_cons, List.map_nil, List.sum_cons, List.sum_nil, vR_cat, cat_I, cat_L]; decide)) ?_
  refine V_sameL (tgt := 1104) h dL_law_424 dL_law_425 (by decide) ?_
  exact V_wid (by omega) (by omega) (kk _ _ hI)
theorem lwc_full (h : LwC x z b L sx l d e) (hi : 0 ≤ i ∧ i + 6 ≤ (L : Int)) (hI : Inv I N) (hk : k + 12 ≤ 600000 ∧ n + 156 ≤ 7302250) (kk : ∀ (N' : Int) (I' : Mm), Inv I' N' → V x z Po N' I' (k + 12) (n + 156) 1104 [some (.ref b), some (vR z 0), some (vR z 49), some (vI i)] []) : V x z Po N I k n 430 [some (.ref b), some (vR z 0), some (vR z 49), some (vI i)] [] := by
  have hnb := hI.nb
  refine V_aload_1 h.1 dL_law_430 ?_
  refine V_scr h (c := 1) dL_law_431 dL_law_432 dL_law_433 dL_law_434 dL_law_435 (by omega) ?_
  refine V_scr h (c := 2) dL_law_436 dL_law_437 dL_law_438 dL_law_439 dL_law_440 (by omega) ?_
  refine V_v2I h.1 h.2.1 h.2.2.1 (c_X10_full hI (sc_b sx (i + 1)) (sc_b sx (i + 2))) myX10_full mlL_49 dL_law_441 ⟨_, rfl, rfl⟩ (k0 hI.nb.1) (by decide) (by omega) rfl (by first | exact Nat.le_of_ble_eq_true rfl | (simp only [List.map_cons, List.map_nil, List.sum_cons, List.sum_nil, vR_cat, cat_I, cat_L]; decide)) (fun r N1 I1 ⟨er, eN, hF1, eI⟩ => ?_)
  subst er; subst eN; subst eI
  refine V_aload_2 h.1 dL_law_444 ?_
  refine V_scr h (c := 1) dL_law_445 dL_law_446 dL_law_447 dL_law_448 dL_law_449 (by omega) ?_
  refine V_scr h (c := 2) dL_law_450 dL_law_451 dL_law_452 dL_law_453 dL_law_454 (by omega) ?_
  refine V_v2I h.1 h.2.1 h.2.2.1 (c_X11_full (by omega) hF1 (sc_b sx (i + 1)) (sc_b sx (i + 2))) myX11_full mlL_52 dL_law_455 ⟨_, rfl, rfl⟩ (k49 (by omega)) (by decide) (by omega) rfl (by first | exact Nat.le_of_ble_eq_true rfl | (simp only [List.map_cons, List.map_nil, List.sum_cons, List.sum_nil, vR_cat, cat_I, cat_L]; decide)) (fun r2 N2 I2 ⟨er2, eI2, eN2, hF2⟩ => ?_)
  subst eN2; subst eI2
  rw [er2, (hI.full1 hF2).2]
  refine V_same (tgt := 1104) h dL_law_458 (by decide) ?_
  exact V_wid (by omega) (by omega) (kk _ _ (hI.full1 hF2).1)
theorem lwc_ticks (h : LwC x z b L sx l d e) (hi : 0 ≤ i ∧ i + 6 ≤ (L : Int)) (hI : Inv I N) (hk : k + 12 ≤ 600000 ∧ n + 156 ≤ 7302250) (kk : ∀ (N' : Int) (I' : Mm), Inv I' N' → V x z Po N' I' (k + 12) (n + 156) 1104 [some (.ref b), some (vR z 0), some (vR z 49), some (vI i)] []) : V x z Po N I k n 463 [some (.ref b), some (vR z 0), some (vR z 49), some (vI i)] [] := by
  have hnb := hI.nb
  refine V_aload_1 h.1 dL_law_463 ?_
  refine V_scr h (c := 1) dL_law_464 dL_law_465 dL_law_466 dL_law_467 dL_law_468 (by omega) ?_
  refine V_v1I h.1 h.2.1 h.2.2.1 (c_X10_ticks (P := tkP I N) hI (tkP_0 hI) (fun M hP => tkP_b M hP) (fun M hP h1 h2 => tkP_s M hP h1 h2) (sc_b sx (i + 1))) myX10_ticks mlL_53 dL_law_469 ⟨_, rfl, rfl⟩ (k0 hI.nb.1) (by decide) (by omega) rfl (by first | exact Nat.le_of_ble_eq_true rfl | (simp only [List.map_cons, List.map_nil, List.sum_cons, List.sum_nil, vR_cat, cat_I, cat_L]; decide)) (fun r N1 I1 hq => ?_)
  obtain ⟨eN, hA, h7, er, hv⟩ := ticks_1 hI hq
  have hF1 := hq.2.1
  subst eN
  refine V_aload_2 h.1 dL_law_472 ?_
  refine V_scr h (c := 1) dL_law_473 dL_law_474 dL_law_475 dL_law_476 dL_law_477 (by omega) ?_
  refine V_v1I h.1 h.2.1 h.2.2.1 (c_X11_ticks (P := fun M => ∃ A : Mm, Ivx 24 (mix A M) N1) (by omega) hF1 hA (fun M hM => by obtain ⟨A, hM⟩ := hM; exact hM.tok) (fun M hM h1 => by obtain ⟨A, hM⟩ := hM; exact hM.tickG h1) h7 (sc_b sx (i + 1))) myX11_ticks mlL_56 dL_law_478 ⟨_, rfl, rfl⟩ (k49 (by omega)) (by decide) (by omega) rfl (by first | exact Nat.le_of_ble_eq_true rfl | (simp only [List.map_cons, List.map_nil, List.sum_cons, List.sum_nil, vR_cat, cat_I, cat_L]; decide)) (fun r2 N2 I2 ⟨er2, eI2, eN2, hF2, _⟩ => ?_)
  subst eN2; subst eI2
  rw [er2, ← er]
  refine V_same (tgt := 1104) h dL_law_481 (by decide) ?_
  exact V_wid (by omega) (by omega) (kk _ _ (hv hF2))
theorem lwc_next (h : LwC x z b L sx l d e) (hi : 0 ≤ i ∧ i + 6 ≤ (L : Int)) (hI : Inv I N) (hk : k + 12 ≤ 600000 ∧ n + 156 ≤ 7302250) (kk : ∀ (N' : Int) (I' : Mm), Inv I' N' → V x z Po N' I' (k + 12) (n + 156) 1104 [some (.ref b), some (vR z 0), some (vR z 49), some (vI i)] []) : V x z Po N I k n 486 [some (.ref b), some (vR z 0), some (vR z 49), some (vI i)] [] := by
  have hnb := hI.nb
  refine V_aload_1 h.1 dL_law_486 ?_
  refine V_v0P h.1 h.2.1 h.2.2.1 (c_X10_next hI ) myX10_next mlL_57 dL_law_487 ⟨_, rfl, rfl⟩ (k0 hI.nb.1) (by decide) (by omega) rfl (by first | exact Nat.le_of_ble_eq_true rfl | (simp only [List.map_cons, List.map_nil, List.sum_cons, List.sum_nil, vR_cat, cat_I, cat_L]; decide)) ?_
  refine V_aload_2 h.1 dL_law_490 ?_
  refine V_v0P h.1 h.2.1 h.2.2.1 (c_X11_next (by omega) hI.fx hI.sn.1) myX11_next mlL_61 dL_law_491 ⟨_, rfl, rfl⟩ (k49 (by omega)) (by decide) (by omega) rfl (by first | exact Nat.le_of_ble_eq_true rfl | (simp only [List.map_cons, List.map_nil, List.sum_cons, List.sum_nil, vR_cat, cat_I, cat_L]; decide)) ?_
  refine V_same (tgt := 1104) h dL_law_494 (by decide) ?_
  exact V_wid (by omega) (by omega) (kk _ _ hI)
theorem lwc_count (h : LwC x z b L sx l d e) (hi : 0 ≤ i ∧ i + 6 ≤ (L : Int)) (hI : Inv I N) (hk : k + 12 ≤ 600000 ∧ n + 156 ≤ 7302250) (kk : ∀ (N' : Int) (I' : Mm), Inv I' N' → V x z Po N' I' (k + 12) (n + 156) 1104 [some (.ref b), some (vR z 0), some (vR z 49), some (vI i)] []) : V x z Po N I k n 499 [some (.ref b), some (vR z 0), some (vR z 49), some (vI i)] [] := by
  have hnb := hI.nb
  refine V_aload_1 h.1 dL_law_499 ?_
  refine V_scr h (c := 1) dL_law_500 dL_law_501 dL_law_502 dL_law_503 dL_law_504 (by omega) ?_
  refine V_v1P h.1 h.2.1 h.2.2.1 (c_X10_count hI (sc_b sx (i + 1))) myX10_count mlL_62 dL_law_505 ⟨_, rfl, rfl⟩ (k0 hI.nb.1) (by decide) (by omega) rfl (by first | exact Nat.le_of_ble_eq_true rfl | (simp only [List.map_cons, List.map_nil, List.sum_cons, List.sum_nil, vR_cat, cat_I, cat_L]; decide)) ?_
  refine V_aload_2 h.1 dL_law_508 ?_
  refine V_scr h (c := 1) dL_law_509 dL_law_510 dL_law_511 dL_law_512 dL_law_513 (by omega) ?_
  refine V_v1P h.1 h.2.1 h.2.2.1 (c_X11_count (by omega) hI.fx hI.sn.1 (sc_b sx (i + 1))) myX11_count mlL_65 dL_law_514 ⟨_, rfl, rfl⟩ (k49 (by omega)) (by decide) (by omega) rfl (by first | exact Nat.le_of_ble_eq_true rfl | (simp only [List.map_cons, List.map_nil, List.sum_cons, List.sum_nil, vR_cat, cat_I, cat_L]; decide)) ?_
  refine V_same (tgt := 1104) h dL_law_517 (by decide) ?_
  exact V_wid (by omega) (by omega) (kk _ _ hI)
theorem lwc_sent (h : LwC x z b L sx l d e) (hi : 0 ≤ i ∧ i + 6 ≤ (L : Int)) (hI : Inv I N) (hk : k + 12 ≤ 600000 ∧ n + 156 ≤ 7302250) (kk : ∀ (N' : Int) (I' : Mm), Inv I' N' → V x z Po N' I' (k + 12) (n + 156) 1104 [some (.ref b), some (vR z 0), some (vR z 49), some (vI i)] []) : V x z Po N I k n 522 [some (.ref b), some (vR z 0), some (vR z 49), some (vI i)] [] := by
  have hnb := hI.nb
  refine V_aload_1 h.1 dL_law_522 ?_
  refine V_scr h (c := 1) dL_law_523 dL_law_524 dL_law_525 dL_law_526 dL_law_527 (by omega) ?_
  refine V_v1P h.1 h.2.1 h.2.2.1 (c_X10_sent hI (sc_b sx (i + 1))) myX10_sent mlL_66 dL_law_528 ⟨_, rfl, rfl⟩ (k0 hI.nb.1) (by decide) (by omega) rfl (by first | exact Nat.le_of_ble_eq_true rfl | (simp only [List.map_cons, List.map_nil, List.sum_cons, List.sum_nil, vR_cat, cat_I, cat_L]; decide)) ?_
  refine V_aload_2 h.1 dL_law_531 ?_
  refine V_scr h (c := 1) dL_law_532 dL_law_533 dL_law_534 dL_law_535 dL_law_536 (by omega) ?_
  refine V_v1P h.1 h.2.1 h.2.2.1 (c_X11_sent (by omega) hI.fx (sc_b sx (i + 1)) (by have h1 := hI.po.2.2.2.2.2.2.2.2.1; have h2 := cntW_b (fun w => I 55 (13 * w + 9) = 1 ∨ I 55 (13 * w + 9) = 2) (I 49 6).toNat; have h3 := hI.sn.1; omega)) myX11_sent mlL_69 dL_law_537 ⟨_, rfl, rfl⟩ (k49 (by omega)) (by decide) (by omega) rfl (by first | exact Nat.le_of_ble_eq_true rfl | (simp only [List.map_cons, List.map_nil, List.sum_cons, List.sum_nil, vR_cat, cat_I, cat_L]; decide)) ?_
  refine V_same (tgt := 1104) h dL_law_540 (by decide) ?_
  exact V_wid (by omega) (by omega) (kk _ _ hI)
theorem lwc_late (h : LwC x z b L sx l d e) (hi : 0 ≤ i ∧ i + 6 ≤ (L : Int)) (hI : Inv I N) (hk : k + 12 ≤ 600000 ∧ n + 156 ≤ 7302250) (kk : ∀ (N' : Int) (I' : Mm), Inv I' N' → V x z Po N' I' (k + 12) (n + 156) 1104 [some (.ref b), some (vR z 0), some (vR z 49), some (vI i)] []) : V x z Po N I k n 545 [some (.ref b), some (vR z 0), some (vR z 49), some (vI i)] [] := by
  have hnb := hI.nb
  refine V_aload_1 h.1 dL_law_545 ?_
  refine V_scr h (c := 1) dL_law_546 dL_law_547 dL_law_548 dL_law_549 dL_law_550 (by omega) ?_
  refine V_v1P h.1 h.2.1 h.2.2.1 (c_X10_late hI (sc_b sx (i + 1))) myX10_late mlL_70 dL_law_551 ⟨_, rfl, rfl⟩ (k0 hI.nb.1) (by decide) (by omega) rfl (by first | exact Nat.le_of_ble_eq_true rfl | (simp only [List.map_cons, List.map_nil, List.sum_cons, List.sum_nil, vR_cat, cat_I, cat_L]; decide)) ?_
  refine V_aload_2 h.1 dL_law_554 ?_
  refine V_scr h (c := 1) dL_law_555 dL_law_556 dL_law_557 dL_law_558 dL_law_559 (by omega) ?_
  refine V_v1P h.1 h.2.1 h.2.2.1 (c_X11_late (by omega) hI.fx hI.sn.1 (sc_b sx (i + 1))) myX11_late mlL_73 dL_law_560 ⟨_, rfl, rfl⟩ (k49 (by omega)) (by decide) (by omega) rfl (by first | exact Nat.le_of_ble_eq_true rfl | (simp only [List.map_cons, List.map_nil, List.sum_cons, List.sum_nil, vR_cat, cat_I, cat_L]; decide)) ?_
  refine V_same (tgt := 1104) h dL_law_563 (by decide) ?_
  exact V_wid (by omega) (by omega) (kk _ _ hI)
theorem lwc_behind (h : LwC x z b L sx l d e) (hi : 0 ≤ i ∧ i + 6 ≤ (L : Int)) (hI : Inv I N) (hk : k + 12 ≤ 600000 ∧ n + 156 ≤ 7302250) (kk : ∀ (N' : Int) (I' : Mm), Inv I' N' → V x z Po N' I' (k + 12) (n + 156) 1104 [some (.ref b), some (vR z 0), some (vR z 49), some (vI i)] []) : V x z Po N I k n 568 [some (.ref b), some (vR z 0), some (vR z 49), some (vI i)] [] := by
  have hnb := hI.nb
  refine V_aload_1 h.1 dL_law_568 ?_
  refine V_scr h (c := 1) dL_law_569 dL_law_570 dL_law_571 dL_law_572 dL_law_573 (by omega) ?_
  refine V_scr h (c := 2) dL_law_574 dL_law_575 dL_law_576 dL_law_577 dL_law_578 (by omega) ?_
  refine V_v2I h.1 h.2.1 h.2.2.1 (c_X10_behind hI (sc_b sx (i + 1)) (sc_b sx (i + 2))) myX10_behind mlL_74 dL_law_579 ⟨_, rfl, rfl⟩ (k0 hI.nb.1) (by decide) (by omega) rfl (by first | exact Nat.le_of_ble_eq_true rfl | (simp only [List.map_cons, List.map_nil, List.sum_cons, List.sum_nil, vR_cat, cat_I, cat_L]; decide)) (fun r N1 I1 ⟨eN, eI, hr⟩ => ?_)
  subst eN; subst eI
  refine V_aload_2 h.1 dL_law_582 ?_
  refine V_scr h (c := 1) dL_law_583 dL_law_584 dL_law_585 dL_law_586 dL_law_587 (by omega) ?_
  refine V_scr h (c := 2) dL_law_588 dL_law_589 dL_law_590 dL_law_591 dL_law_592 (by omega) ?_
  refine V_v2I h.1 h.2.1 h.2.2.1 (c_X11_behind (by omega) hI.fx hI.sn.1 (sc_b sx (i + 1)) (sc_b sx (i + 2)) (fun w a b c => beh_at hI a (by omega) c)) myX11_behind mlL_77 dL_law_593 ⟨_, rfl, rfl⟩ (k49 (by omega)) (by decide) (by omega) rfl (by first | exact Nat.le_of_ble_eq_true rfl | (simp only [List.map_cons, List.map_nil, List.sum_cons, List.sum_nil, vR_cat, cat_I, cat_L]; decide)) (fun r2 N2 I2 ⟨eN2, eI2, hr2⟩ => ?_)
  subst eN2; subst eI2
  rw [beh_one hI hr2 hr]
  refine V_same (tgt := 1104) h dL_law_596 (by decide) ?_
  exact V_wid (by omega) (by omega) (kk _ _ hI)
theorem lwc_promise (h : LwC x z b L sx l d e) (hi : 0 ≤ i ∧ i + 6 ≤ (L : Int)) (hI : Inv I N) (hk : k + 12 ≤ 600000 ∧ n + 156 ≤ 7302250) (kk : ∀ (N' : Int) (I' : Mm), Inv I' N' → V x z Po N' I' (k + 12) (n + 156) 1104 [some (.ref b), some (vR z 0), some (vR z 49), some (vI i)] []) : V x z Po N I k n 601 [some (.ref b), some (vR z 0), some (vR z 49), some (vI i)] [] := by
  have hnb := hI.nb
  refine V_aload_1 h.1 dL_law_601 ?_
  refine V_scr h (c := 1) dL_law_602 dL_law_603 dL_law_604 dL_law_605 dL_law_606 (by omega) ?_
  refine V_scr h (c := 2) dL_law_607 dL_law_608 dL_law_609 dL_law_610 dL_law_611 (by omega) ?_
  refine V_v2P h.1 h.2.1 h.2.2.1 (c_X10_promise hI (sc_b sx (i + 1)) (sc_b sx (i + 2))) myX10_promise mlL_78 dL_law_612 ⟨_, rfl, rfl⟩ (k0 hI.nb.1) (by decide) (by omega) rfl (by first | exact Nat.le_of_ble_eq_true rfl | (simp only [List.map_cons, List.map_nil, List.sum_cons, List.sum_nil, vR_cat, cat_I, cat_L]; decide)) ?_
  refine V_aload_2 h.1 dL_law_615 ?_
  refine V_scr h (c := 1) dL_law_616 dL_law_617 dL_law_618 dL_law_619 dL_law_620 (by omega) ?_
  refine V_scr h (c := 2) dL_law_621 dL_law_622 dL_law_623 dL_law_624 dL_law_625 (by omega) ?_
  refine V_v2P h.1 h.2.1 h.2.2.1 (c_X11_promise (by omega) hI.fx hI.set (sc_b sx (i + 1)) (sc_b sx (i + 2))) myX11_promise mlL_81 dL_law_626 ⟨_, rfl, rfl⟩ (k49 (by omega)) (by decide) (by omega) rfl (by first | exact Nat.le_of_ble_eq_true rfl | (simp only [List.map_cons, List.map_nil, List.sum_cons, List.sum_nil, vR_cat, cat_I, cat_L]; decide)) ?_
  refine V_same (tgt := 1104) h dL_law_629 (by decide) ?_
  exact V_wid (by omega) (by omega) (kk _ _ hI)
theorem lwc_taken (h : LwC x z b L sx l d e) (hi : 0 ≤ i ∧ i + 6 ≤ (L : Int)) (hI : Inv I N) (hk : k + 12 ≤ 600000 ∧ n + 156 ≤ 7302250) (kk : ∀ (N' : Int) (I' : Mm), Inv I' N' → V x z Po N' I' (k + 12) (n + 156) 1104 [some (.ref b), some (vR z 0), some (vR z 49), some (vI i)] []) : V x z Po N I k n 634 [some (.ref b), some (vR z 0), some (vR z 49), some (vI i)] [] := by
  have hnb := hI.nb
  refine V_aload_1 h.1 dL_law_634 ?_
  refine V_scr h (c := 1) dL_law_635 dL_law_636 dL_law_637 dL_law_638 dL_law_639 (by omega) ?_
  refine V_v1P h.1 h.2.1 h.2.2.1 (c_X10_taken hI (sc_b sx (i + 1))) myX10_taken mlL_82 dL_law_640 ⟨_, rfl, rfl⟩ (k0 hI.nb.1) (by decide) (by omega) rfl (by first | exact Nat.le_of_ble_eq_true rfl | (simp only [List.map_cons, List.map_nil, List.sum_cons, List.sum_nil, vR_cat, cat_I, cat_L]; decide)) ?_
  refine V_aload_2 h.1 dL_law_643 ?_
  refine V_scr h (c := 1) dL_law_644 dL_law_645 dL_law_646 dL_law_647 dL_law_648 (by omega) ?_
  refine V_v1P h.1 h.2.1 h.2.2.1 (c_X11_taken (by omega) hI.fx (sc_b sx (i + 1))) myX11_taken mlL_85 dL_law_649 ⟨_, rfl, rfl⟩ (k49 (by omega)) (by decide) (by omega) rfl (by first | exact Nat.le_of_ble_eq_true rfl | (simp only [List.map_cons, List.map_nil, List.sum_cons, List.sum_nil, vR_cat, cat_I, cat_L]; decide)) ?_
  refine V_same (tgt := 1104) h dL_law_652 (by decide) ?_
  exact V_wid (by omega) (by omega) (kk _ _ hI)
theorem lwc_lags (h : LwC x z b L sx l d e) (hi : 0 ≤ i ∧ i + 6 ≤ (L : Int)) (hI : Inv I N) (hk : k + 12 ≤ 600000 ∧ n + 156 ≤ 7302250) (kk : ∀ (N' : Int) (I' : Mm), Inv I' N' → V x z Po N' I' (k + 12) (n + 156) 1104 [some (.ref b), some (vR z 0), some (vR z 49), some (vI i)] []) : V x z Po N I k n 657 [some (.ref b), some (vR z 0), some (vR z 49), some (vI i)] [] := by
  have hnb := hI.nb
  refine V_aload_1 h.1 dL_law_657 ?_
  refine V_scr h (c := 1) dL_law_658 dL_law_659 dL_law_660 dL_law_661 dL_law_662 (by omega) ?_
  refine V_v1P h.1 h.2.1 h.2.2.1 (c_X10_lags hI (sc_b sx (i + 1))) myX10_lags mlL_86 dL_law_663 ⟨_, rfl, rfl⟩ (k0 hI.nb.1) (by decide) (by omega) rfl (by first | exact Nat.le_of_ble_eq_true rfl | (simp only [List.map_cons, List.map_nil, List.sum_cons, List.sum_nil, vR_cat, cat_I, cat_L]; decide)) ?_
  refine V_aload_2 h.1 dL_law_666 ?_
  refine V_scr h (c := 1) dL_law_667 dL_law_668 dL_law_669 dL_law_670 dL_law_671 (by omega) ?_
  refine V_v1P h.1 h.2.1 h.2.2.1 (c_X11_lags (by omega) hI.fx hI.set hI.sn.1 (fun q a b => by have h1 := hI.ss q a b; have h2 := cntW_b (fun w => I 55 (13 * w + 9) = 2) (I 49 6).toNat; have h3 := hI.sn.1; omega) (sc_b sx (i + 1))) myX11_lags mlL_89 dL_law_672 ⟨_, rfl, rfl⟩ (k49 (by omega)) (by decide) (by omega) rfl (by first | exact Nat.le_of_ble_eq_true rfl | (simp only [List.map_cons, List.map_nil, List.sum_cons, List.sum_nil, vR_cat, cat_I, cat_L]; decide)) ?_
  refine V_same (tgt := 1104) h dL_law_675 (by decide) ?_
  exact V_wid (by omega) (by omega) (kk _ _ hI)
theorem lwc_heaps (h : LwC x z b L sx l d e) (hi : 0 ≤ i ∧ i + 6 ≤ (L : Int)) (hI : Inv I N) (hk : k + 12 ≤ 600000 ∧ n + 156 ≤ 7302250) (kk : ∀ (N' : Int) (I' : Mm), Inv I' N' → V x z Po N' I' (k + 12) (n + 156) 1104 [some (.ref b), some (vR z 0), some (vR z 49), some (vI i)] []) : V x z Po N I k n 680 [some (.ref b), some (vR z 0), some (vR z 49), some (vI i)] [] := by
  have hnb := hI.nb
  refine V_aload_1 h.1 dL_law_680 ?_
  refine V_scr h (c := 1) dL_law_681 dL_law_682 dL_law_683 dL_law_684 dL_law_685 (by omega) ?_
  refine V_scr h (c := 2) dL_law_686 dL_law_687 dL_law_688 dL_law_689 dL_law_690 (by omega) ?_
  refine V_scr h (c := 3) dL_law_691 dL_law_692 dL_law_693 dL_law_694 dL_law_695 (by omega) ?_
  refine V_scr h (c := 4) dL_law_696 dL_law_697 dL_law_698 dL_law_699 dL_law_700 (by omega) ?_
  refine V_scr h (c := 5) dL_law_701 dL_law_702 dL_law_703 dL_law_704 dL_law_705 (by omega) ?_
  refine V_v5I h.1 h.2.1 h.2.2.1 (c_X10_heaps hI (sc_b sx (i + 1)) (sc_b sx (i + 2)) (sc_b sx (i + 3)) (sc_b sx (i + 4)) (sc_b sx (i + 5))) myX10_heaps mlL_90 dL_law_706 ⟨_, rfl, rfl⟩ (k0 hI.nb.1) (by decide) (by omega) rfl (by first | exact Nat.le_of_ble_eq_true rfl | (simp only [List.map_cons, List.map_nil, List.sum_cons, List.sum_nil, vR_cat, cat_I, cat_L]; decide)) (fun r N1 I1 ⟨er, eN, hF1, hf⟩ => ?_)
  subst er; subst eN
  have hm := aHeaps_m (I := I) (J := I1) (fun a q ha => hf a q (by omega) (by omega) (by omega) (by omega)) (sc sx (i + 1)) (sc sx (i + 2)) (sc sx (i + 3)) (sc sx (i + 4)) (sc sx (i + 5))
  refine V_aload_2 h.1 dL_law_709 ?_
  refine V_scr h (c := 1) dL_law_710 dL_law_711 dL_law_712 dL_law_713 dL_law_714 (by omega) ?_
  refine V_scr h (c := 2) dL_law_715 dL_law_716 dL_law_717 dL_law_718 dL_law_719 (by omega) ?_
  refine V_scr h (c := 3) dL_law_720 dL_law_721 dL_law_722 dL_law_723 dL_law_724 (by omega) ?_
  refine V_scr h (c := 4) dL_law_725 dL_law_726 dL_law_727 dL_law_728 dL_law_729 (by omega) ?_
  refine V_scr h (c := 5) dL_law_730 dL_law_731 dL_law_732 dL_law_733 dL_law_734 (by omega) ?_
  refine V_v5I h.1 h.2.1 h.2.2.1 (c_X11_heaps (by omega) hF1 (hI.s0 (fun q => hf 59 q (by decide) (by decide) (by decide) (by decide))) (sc_b sx (i + 1)) (sc_b sx (i + 2)) (sc_b sx (i + 3)) (sc_b sx (i + 4)) (sc_b sx (i + 5))) myX11_heaps mlL_94 dL_law_735 ⟨_, rfl, rfl⟩ (k49 (by omega)) (by decide) (by omega) rfl (by first | exact Nat.le_of_ble_eq_true rfl | (simp only [List.map_cons, List.map_nil, List.sum_cons, List.sum_nil, vR_cat, cat_I, cat_L]; decide)) (fun r2 N2 I2 ⟨eN2, hF2, er2, hf2⟩ => ?_)
  subst eN2
  rw [er2, hm.1]
  refine V_same (tgt := 1104) h dL_law_738 (by decide) ?_
  exact V_wid (by omega) (by omega) (kk _ _ (hI.scr1 hF2 (fun a q ha => by rw [hf2 a q (by omega), hf a q (by omega) (by omega) (by omega) (by omega)])))
theorem lwc_cut (h : LwC x z b L sx l d e) (hi : 0 ≤ i ∧ i + 6 ≤ (L : Int)) (hI : Inv I N) (hk : k + 12 ≤ 600000 ∧ n + 156 ≤ 7302250) (kk : ∀ (N' : Int) (I' : Mm), Inv I' N' → V x z Po N' I' (k + 12) (n + 156) 1104 [some (.ref b), some (vR z 0), some (vR z 49), some (vI i)] []) : V x z Po N I k n 743 [some (.ref b), some (vR z 0), some (vR z 49), some (vI i)] [] := by
  have hnb := hI.nb
  refine V_aload_1 h.1 dL_law_743 ?_
  refine V_scr h (c := 1) dL_law_744 dL_law_745 dL_law_746 dL_law_747 dL_law_748 (by omega) ?_
  refine V_scr h (c := 2) dL_law_749 dL_law_750 dL_law_751 dL_law_752 dL_law_753 (by omega) ?_
  refine V_scr h (c := 3) dL_law_754 dL_law_755 dL_law_756 dL_law_757 dL_law_758 (by omega) ?_
  refine V_scr h (c := 4) dL_law_759 dL_law_760 dL_law_761 dL_law_762 dL_law_763 (by omega) ?_
  refine V_scr h (c := 5) dL_law_764 dL_law_765 dL_law_766 dL_law_767 dL_law_768 (by omega) ?_
  refine V_v5I h.1 h.2.1 h.2.2.1 (c_X10_cut hI (sc_b sx (i + 1)) (sc_b sx (i + 2)) (sc_b sx (i + 3)) (sc_b sx (i + 4)) (sc_b sx (i + 5))) myX10_cut mlL_95 dL_law_769 ⟨_, rfl, rfl⟩ (k0 hI.nb.1) (by decide) (by omega) rfl (by first | exact Nat.le_of_ble_eq_true rfl | (simp only [List.map_cons, List.map_nil, List.sum_cons, List.sum_nil, vR_cat, cat_I, cat_L]; decide)) (fun r N1 I1 ⟨er, eN, hF1, hf⟩ => ?_)
  subst er; subst eN
  have hm := aHeaps_m (I := I) (J := I1) (fun a q ha => hf a q (by omega) (by omega) (by omega) (by omega)) (sc sx (i + 1)) (sc sx (i + 2)) (sc sx (i + 3)) (sc sx (i + 4)) (sc sx (i + 5))
  refine V_aload_2 h.1 dL_law_772 ?_
  refine V_scr h (c := 1) dL_law_773 dL_law_774 dL_law_775 dL_law_776 dL_law_777 (by omega) ?_
  refine V_scr h (c := 2) dL_law_778 dL_law_779 dL_law_780 dL_law_781 dL_law_782 (by omega) ?_
  refine V_scr h (c := 3) dL_law_783 dL_law_784 dL_law_785 dL_law_786 dL_law_787 (by omega) ?_
  refine V_scr h (c := 4) dL_law_788 dL_law_789 dL_law_790 dL_law_791 dL_law_792 (by omega) ?_
  refine V_scr h (c := 5) dL_law_793 dL_law_794 dL_law_795 dL_law_796 dL_law_797 (by omega) ?_
  refine V_v5I h.1 h.2.1 h.2.2.1 (c_X11_cut (by omega) hF1 (hI.s0 (fun q => hf 59 q (by decide) (by decide) (by decide) (by decide))) (sc_b sx (i + 1)) (sc_b sx (i + 2)) (sc_b sx (i + 3)) (sc_b sx (i + 4)) (sc_b sx (i + 5))) myX11_cut mlL_98 dL_law_798 ⟨_, rfl, rfl⟩ (k49 (by omega)) (by decide) (by omega) rfl (by first | exact Nat.le_of_ble_eq_true rfl | (simp only [List.map_cons, List.map_nil, List.sum_cons, List.sum_nil, vR_cat, cat_I, cat_L]; decide)) (fun r2 N2 I2 ⟨eN2, hF2, er2, hf2⟩ => ?_)
  subst eN2
  rw [er2, hm.2.1]
  refine V_same (tgt := 1104) h dL_law_801 (by decide) ?_
  exact V_wid (by omega) (by omega) (kk _ _ (hI.scr1 hF2 (fun a q ha => by rw [hf2 a q (by omega) (by omega), hf a q (by omega) (by omega) (by omega) (by omega)])))
theorem lwc_found (h : LwC x z b L sx l d e) (hi : 0 ≤ i ∧ i + 6 ≤ (L : Int)) (hI : Inv I N) (hk : k + 12 ≤ 600000 ∧ n + 156 ≤ 7302250) (kk : ∀ (N' : Int) (I' : Mm), Inv I' N' → V x z Po N' I' (k + 12) (n + 156) 1104 [some (.ref b), some (vR z 0), some (vR z 49), some (vI i)] []) : V x z Po N I k n 806 [some (.ref b), some (vR z 0), some (vR z 49), some (vI i)] [] := by
  have hnb := hI.nb
  refine V_aload_1 h.1 dL_law_806 ?_
  refine V_scr h (c := 1) dL_law_807 dL_law_808 dL_law_809 dL_law_810 dL_law_811 (by omega) ?_
  refine V_scr h (c := 2) dL_law_812 dL_law_813 dL_law_814 dL_law_815 dL_law_816 (by omega) ?_
  refine V_scr h (c := 3) dL_law_817 dL_law_818 dL_law_819 dL_law_820 dL_law_821 (by omega) ?_
  refine V_scr h (c := 4) dL_law_822 dL_law_823 dL_law_824 dL_law_825 dL_law_826 (by omega) ?_
  refine V_v4I h.1 h.2.1 h.2.2.1 (c_X10_found hI (sc_b sx (i + 1)) (sc_b sx (i + 2)) (sc_b sx (i + 3)) (sc_b sx (i + 4))) myX10_found mlL_99 dL_law_827 ⟨_, rfl, rfl⟩ (k0 hI.nb.1) (by decide) (by omega) rfl (by first | exact Nat.le_of_ble_eq_true rfl | (simp only [List.map_cons, List.map_nil, List.sum_cons, List.sum_nil, vR_cat, cat_I, cat_L]; decide)) (fun r N1 I1 ⟨er, eN, hF1, hf⟩ => ?_)
  subst er; subst eN
  have hm := aHeaps_m (I := I) (J := I1) (fun a q ha => hf a q (by omega) (by omega) (by omega)) (sc sx (i + 1)) (sc sx (i + 2)) (sc sx (i + 3)) (sc sx (i + 4)) (sc sx (i + 5))
  have hWf : ∀ w c : Int, 0 ≤ w → w < I1 49 6 → 0 ≤ c → c ≤ 3 → 0 ≤ I1 55 (13 * w + c) ∧ I1 55 (13 * w + c) ≤ 200000 := by
    intro w c a b c0 c1
    rw [hf 49 6 (by decide) (by decide) (by decide)] at b
    rw [hf 55 _ (by decide) (by decide) (by decide)]
    have hw := hI.sw w a b
    have h7 := hI.sn.2.1
    have hc : c = 0 ∨ c = 1 ∨ c = 2 ∨ c = 3 := by omega
    rcases hc with rfl | rfl | rfl | rfl <;> omega
  refine V_aload_2 h.1 dL_law_830 ?_
  refine V_scr h (c := 1) dL_law_831 dL_law_832 dL_law_833 dL_law_834 dL_law_835 (by omega) ?_
  refine V_scr h (c := 2) dL_law_836 dL_law_837 dL_law_838 dL_law_839 dL_law_840 (by omega) ?_
  refine V_scr h (c := 3) dL_law_841 dL_law_842 dL_law_843 dL_law_844 dL_law_845 (by omega) ?_
  refine V_scr h (c := 4) dL_law_846 dL_law_847 dL_law_848 dL_law_849 dL_law_850 (by omega) ?_
  refine V_v4I h.1 h.2.1 h.2.2.1 (c_X11_found (by omega) hF1 (hI.s0 (fun q => hf 59 q (by decide) (by decide) (by decide))) (by rw [hf 49 6 (by decide) (by decide) (by decide)]; exact hI.sn.1) hWf (sc_b sx (i + 1)) (sc_b sx (i + 2)) (sc_b sx (i + 3)) (sc_b sx (i + 4))) myX11_found mlL_102 dL_law_851 ⟨_, rfl, rfl⟩ (k49 (by omega)) (by decide) (by omega) rfl (by first | exact Nat.le_of_ble_eq_true rfl | (simp only [List.map_cons, List.map_nil, List.sum_cons, List.sum_nil, vR_cat, cat_I, cat_L]; decide)) (fun r2 N2 I2 ⟨eN2, hF2, er2, hf2⟩ => ?_)
  subst eN2
  rw [er2, hm.2.2.1]
  refine V_same (tgt := 1104) h dL_law_854 (by decide) ?_
  exact V_wid (by omega) (by omega) (kk _ _ (hI.scr1 hF2 (fun a q ha => by rw [hf2 a q (by omega), hf a q (by omega) (by omega) (by omega)])))
theorem lwc_order (h : LwC x z b L sx l d e) (hi : 0 ≤ i ∧ i + 6 ≤ (L : Int)) (hI : Inv I N) (hk : k + 12 ≤ 600000 ∧ n + 156 ≤ 7302250) (kk : ∀ (N' : Int) (I' : Mm), Inv I' N' → V x z Po N' I' (k + 12) (n + 156) 1104 [some (.ref b), some (vR z 0), some (vR z 49), some (vI i)] []) : V x z Po N I k n 859 [some (.ref b), some (vR z 0), some (vR z 49), some (vI i)] [] := by
  have hnb := hI.nb
  refine V_aload_1 h.1 dL_law_859 ?_
  refine V_scr h (c := 1) dL_law_860 dL_law_861 dL_law_862 dL_law_863 dL_law_864 (by omega) ?_
  refine V_scr h (c := 2) dL_law_865 dL_law_866 dL_law_867 dL_law_868 dL_law_869 (by omega) ?_
  refine V_scr h (c := 3) dL_law_870 dL_law_871 dL_law_872 dL_law_873 dL_law_874 (by omega) ?_
  refine V_scr h (c := 4) dL_law_875 dL_law_876 dL_law_877 dL_law_878 dL_law_879 (by omega) ?_
  refine V_scr h (c := 5) dL_law_880 dL_law_881 dL_law_882 dL_law_883 dL_law_884 (by omega) ?_
  refine V_v5I h.1 h.2.1 h.2.2.1 (c_X10_order hI (sc_b sx (i + 1)) (sc_b sx (i + 2)) (sc_b sx (i + 3)) (sc_b sx (i + 4)) (sc_b sx (i + 5))) myX10_order mlL_103 dL_law_885 ⟨_, rfl, rfl⟩ (k0 hI.nb.1) (by decide) (by omega) rfl (by first | exact Nat.le_of_ble_eq_true rfl | (simp only [List.map_cons, List.map_nil, List.sum_cons, List.sum_nil, vR_cat, cat_I, cat_L]; decide)) (fun r N1 I1 ⟨eN, hF1, hf, o1, o2, o3⟩ => ?_)
  subst eN
  obtain ⟨E, g, hE, hr⟩ := ord_1 hI hF1 hf o1 o2 o3
  refine V_aload_2 h.1 dL_law_888 ?_
  refine V_scr h (c := 1) dL_law_889 dL_law_890 dL_law_891 dL_law_892 dL_law_893 (by omega) ?_
  refine V_scr h (c := 2) dL_law_894 dL_law_895 dL_law_896 dL_law_897 dL_law_898 (by omega) ?_
  refine V_scr h (c := 3) dL_law_899 dL_law_900 dL_law_901 dL_law_902 dL_law_903 (by omega) ?_
  refine V_scr h (c := 4) dL_law_904 dL_law_905 dL_law_906 dL_law_907 dL_law_908 (by omega) ?_
  refine V_scr h (c := 5) dL_law_909 dL_law_910 dL_law_911 dL_law_912 dL_law_913 (by omega) ?_
  refine V_v5I h.1 h.2.1 h.2.2.1 (c_X11_order (E := E) (g := g) (by omega) hF1 (hI.s0 (fun q => hf 59 q (by decide) (by decide) (by decide))) (by rw [hf 49 6 (by decide) (by decide) (by decide)]; exact hI.sn.1) (by rw [hf 49 7 (by decide) (by decide) (by decide)]; have := hI.sn.2.1; omega) (fun w a b => by rw [hf 49 6 (by decide) (by decide) (by decide)] at b; rw [hf 55 _ (by decide) (by decide) (by decide), hf 55 _ (by decide) (by decide) (by decide)]; have hw := hI.sw w a b; have h7 := hI.sn.2.1; omega) hE (sc_b sx (i + 1)) (sc_b sx (i + 2)) (sc_b sx (i + 3)) (sc_b sx (i + 4)) (sc_b sx (i + 5))) myX11_order mlL_106 dL_law_914 ⟨_, rfl, rfl⟩ (k49 (by omega)) (by decide) (by omega) rfl (by first | exact Nat.le_of_ble_eq_true rfl | (simp only [List.map_cons, List.map_nil, List.sum_cons, List.sum_nil, vR_cat, cat_I, cat_L]; decide)) (fun r2 N2 I2 ⟨eN2, hF2, hf2, t1, t2, t3⟩ => ?_)
  subst eN2
  rw [hr r2 t1 t2 t3]
  refine V_same (tgt := 1104) h dL_law_917 (by decide) ?_
  exact V_wid (by omega) (by omega) (kk _ _ (hI.scr1 hF2 (fun a q ha => by rw [hf2 a q (by omega) (by omega) (by omega), hf a q (by omega) (by omega) (by omega)])))
theorem lwc_sheet (h : LwC x z b L sx l d e) (hi : 0 ≤ i ∧ i + 6 ≤ (L : Int)) (hI : Inv I N) (hk : k + 12 ≤ 600000 ∧ n + 156 ≤ 7302250) (kk : ∀ (N' : Int) (I' : Mm), Inv I' N' → V x z Po N' I' (k + 12) (n + 156) 1104 [some (.ref b), some (vR z 0), some (vR z 49), some (vI i)] []) : V x z Po N I k n 922 [some (.ref b), some (vR z 0), some (vR z 49), some (vI i)] [] := by
  have hnb := hI.nb
  refine V_aload_1 h.1 dL_law_922 ?_
  refine V_scr h (c := 1) dL_law_923 dL_law_924 dL_law_925 dL_law_926 dL_law_927 (by omega) ?_
  refine V_scr h (c := 2) dL_law_928 dL_law_929 dL_law_930 dL_law_931 dL_law_932 (by omega) ?_
  refine V_scr h (c := 3) dL_law_933 dL_law_934 dL_law_935 dL_law_936 dL_law_937 (by omega) ?_
  refine V_v3I h.1 h.2.1 h.2.2.1 (c_X10_sheet hI (sc_b sx (i + 1)) (sc_b sx (i + 2)) (sc_b sx (i + 3))) myX10_sheet mlL_107 dL_law_938 ⟨_, rfl, rfl⟩ (k0 hI.nb.1) (by decide) (by omega) rfl (by first | exact Nat.le_of_ble_eq_true rfl | (simp only [List.map_cons, List.map_nil, List.sum_cons, List.sum_nil, vR_cat, cat_I, cat_L]; decide)) (fun r N1 I1 ⟨er, eN, hF1, eI⟩ => ?_)
  subst er; subst eN; subst eI
  refine V_aload_2 h.1 dL_law_941 ?_
  refine V_scr h (c := 1) dL_law_942 dL_law_943 dL_law_944 dL_law_945 dL_law_946 (by omega) ?_
  refine V_scr h (c := 2) dL_law_947 dL_law_948 dL_law_949 dL_law_950 dL_law_951 (by omega) ?_
  refine V_scr h (c := 3) dL_law_952 dL_law_953 dL_law_954 dL_law_955 dL_law_956 (by omega) ?_
  refine V_v3I h.1 h.2.1 h.2.2.1 (c_X11_sheet (by omega) hF1 (sc_b sx (i + 1)) (sc_b sx (i + 2)) (sc_b sx (i + 3))) myX11_sheet mlL_110 dL_law_957 ⟨_, rfl, rfl⟩ (k49 (by omega)) (by decide) (by omega) rfl (by first | exact Nat.le_of_ble_eq_true rfl | (simp only [List.map_cons, List.map_nil, List.sum_cons, List.sum_nil, vR_cat, cat_I, cat_L]; decide)) (fun r2 N2 I2 ⟨er2, eI2, eN2, hF2⟩ => ?_)
  subst eN2; subst eI2
  subst er2
  refine V_same (tgt := 1104) h dL_law_960 (by decide) ?_
  exact V_wid (by omega) (by omega) (kk _ _ (hI.sheet1 hF2))
theorem lwc_drop (h : LwC x z b L sx l d e) (hi : 0 ≤ i ∧ i + 6 ≤ (L : Int)) (hI : Inv I N) (hk : k + 12 ≤ 600000 ∧ n + 156 ≤ 7302250) (kk : ∀ (N' : Int) (I' : Mm), Inv I' N' → V x z Po N' I' (k + 12) (n + 156) 1104 [some (.ref b), some (vR z 0), some (vR z 49), some (vI i)] []) : V x z Po N I k n 965 [some (.ref b), some (vR z 0), some (vR z 49), some (vI i)] [] := by
  have hnb := hI.nb
  refine V_aload_1 h.1 dL_law_965 ?_
  refine V_scr h (c := 1) dL_law_966 dL_law_967 dL_law_968 dL_law_969 dL_law_970 (by omega) ?_
  refine V_v1I h.1 h.2.1 h.2.2.1 (c_X10_drop hI (sc_b sx (i + 1))) myX10_drop mlL_111 dL_law_971 ⟨_, rfl, rfl⟩ (k0 hI.nb.1) (by decide) (by omega) rfl (by first | exact Nat.le_of_ble_eq_true rfl | (simp only [List.map_cons, List.map_nil, List.sum_cons, List.sum_nil, vR_cat, cat_I, cat_L]; decide)) (fun r N1 I1 ⟨er, eN, hF1, eI⟩ => ?_)
  subst er; subst eN; subst eI
  refine V_aload_2 h.1 dL_law_974 ?_
  refine V_scr h (c := 1) dL_law_975 dL_law_976 dL_law_977 dL_law_978 dL_law_979 (by omega) ?_
  refine V_v1I h.1 h.2.1 h.2.2.1 (c_X11_drop (by omega) hF1 (sc_b sx (i + 1))) myX11_drop mlL_114 dL_law_980 ⟨_, rfl, rfl⟩ (k49 (by omega)) (by decide) (by omega) rfl (by first | exact Nat.le_of_ble_eq_true rfl | (simp only [List.map_cons, List.map_nil, List.sum_cons, List.sum_nil, vR_cat, cat_I, cat_L]; decide)) (fun r2 N2 I2 ⟨er2, eI2, eN2, hF2⟩ => ?_)
  subst eN2; subst eI2
  rw [er2, (hI.drop1 hF2).2]
  refine V_same (tgt := 1104) h dL_law_983 (by decide) ?_
  exact V_wid (by omega) (by omega) (kk _ _ (hI.drop1 hF2).1)
theorem lwc_item (h : LwC x z b L sx l d e) (hi : 0 ≤ i ∧ i + 6 ≤ (L : Int)) (hI : Inv I N) (hk : k + 12 ≤ 600000 ∧ n + 156 ≤ 7302250) (kk : ∀ (N' : Int) (I' : Mm), Inv I' N' → V x z Po N' I' (k + 12) (n + 156) 1104 [some (.ref b), some (vR z 0), some (vR z 49), some (vI i)] []) : V x z Po N I k n 988 [some (.ref b), some (vR z 0), some (vR z 49), some (vI i)] [] := by
  have hnb := hI.nb
  refine V_aload_1 h.1 dL_law_988 ?_
  refine V_scr h (c := 1) dL_law_989 dL_law_990 dL_law_991 dL_law_992 dL_law_993 (by omega) ?_
  refine V_scr h (c := 2) dL_law_994 dL_law_995 dL_law_996 dL_law_997 dL_law_998 (by omega) ?_
  refine V_scr h (c := 3) dL_law_999 dL_law_1000 dL_law_1001 dL_law_1002 dL_law_1003 (by omega) ?_
  refine V_scr h (c := 4) dL_law_1004 dL_law_1005 dL_law_1006 dL_law_1007 dL_law_1008 (by omega) ?_
  refine V_v4I h.1 h.2.1 h.2.2.1 (c_X10_item hI (sc_b sx (i + 1)) (sc_b sx (i + 2)) (sc_b sx (i + 3)) (sc_b sx (i + 4))) myX10_item mlL_115 dL_law_1009 ⟨_, rfl, rfl⟩ (k0 hI.nb.1) (by decide) (by omega) rfl (by first | exact Nat.le_of_ble_eq_true rfl | (simp only [List.map_cons, List.map_nil, List.sum_cons, List.sum_nil, vR_cat, cat_I, cat_L]; decide)) (fun r N1 I1 ⟨er, eN, hF1, eI⟩ => ?_)
  subst er; subst eN; subst eI
  refine V_aload_2 h.1 dL_law_1012 ?_
  refine V_scr h (c := 1) dL_law_1013 dL_law_1014 dL_law_1015 dL_law_1016 dL_law_1017 (by omega) ?_
  refine V_scr h (c := 2) dL_law_1018 dL_law_1019 dL_law_1020 dL_law_1021 dL_law_1022 (by omega) ?_
  refine V_scr h (c := 3) dL_law_1023 dL_law_1024 dL_law_1025 dL_law_1026 dL_law_1027 (by omega) ?_
  refine V_scr h (c := 4) dL_law_1028 dL_law_1029 dL_law_1030 dL_law_1031 dL_law_1032 (by omega) ?_
  refine V_v4I h.1 h.2.1 h.2.2.1 (c_X11_item (by omega) hF1 (sc_b sx (i + 1)) (sc_b sx (i + 2)) (sc_b sx (i + 3)) (sc_b sx (i + 4)) (hI.s0 (fun q => kItem_m I _ _ _ _ 59 q (by decide)))) myX11_item mlL_118 dL_law_1033 ⟨_, rfl, rfl⟩ (k49 (by omega)) (by decide) (by omega) rfl (by first | exact Nat.le_of_ble_eq_true rfl | (simp only [List.map_cons, List.map_nil, List.sum_cons, List.sum_nil, vR_cat, cat_I, cat_L]; decide)) (fun r2 N2 I2 ⟨er2, eI2, eN2, hF2⟩ => ?_)
  subst eN2; subst eI2
  rw [er2, (hI.item1 hF2).2]
  refine V_same (tgt := 1104) h dL_law_1036 (by decide) ?_
  exact V_wid (by omega) (by omega) (kk _ _ (hI.item1 hF2).1)
theorem lwc_copy (h : LwC x z b L sx l d e) (hi : 0 ≤ i ∧ i + 6 ≤ (L : Int)) (hI : Inv I N) (hk : k + 12 ≤ 600000 ∧ n + 156 ≤ 7302250) (kk : ∀ (N' : Int) (I' : Mm), Inv I' N' → V x z Po N' I' (k + 12) (n + 156) 1104 [some (.ref b), some (vR z 0), some (vR z 49), some (vI i)] []) : V x z Po N I k n 1041 [some (.ref b), some (vR z 0), some (vR z 49), some (vI i)] [] := by
  have hnb := hI.nb
  refine V_aload_1 h.1 dL_law_1041 ?_
  refine V_scr h (c := 1) dL_law_1042 dL_law_1043 dL_law_1044 dL_law_1045 dL_law_1046 (by omega) ?_
  refine V_scr h (c := 2) dL_law_1047 dL_law_1048 dL_law_1049 dL_law_1050 dL_law_1051 (by omega) ?_
  refine V_scr h (c := 3) dL_law_1052 dL_law_1053 dL_law_1054 dL_law_1055 dL_law_1056 (by omega) ?_
  refine V_scr h (c := 4) dL_law_1057 dL_law_1058 dL_law_1059 dL_law_1060 dL_law_1061 (by omega) ?_
  refine V_scr h (c := 5) dL_law_1062 dL_law_1063 dL_law_1064 dL_law_1065 dL_law_1066 (by omega) ?_
  refine V_v5I h.1 h.2.1 h.2.2.1 (c_X10_copy hI (sc_b sx (i + 1)) (sc_b sx (i + 2)) (sc_b sx (i + 3)) (sc_b sx (i + 4)) (sc_b sx (i + 5))) myX10_copy mlL_119 dL_law_1067 ⟨_, rfl, rfl⟩ (k0 hI.nb.1) (by decide) (by omega) rfl (by first | exact Nat.le_of_ble_eq_true rfl | (simp only [List.map_cons, List.map_nil, List.sum_cons, List.sum_nil, vR_cat, cat_I, cat_L]; decide)) (fun r N1 I1 ⟨er, eN, hF1, eI⟩ => ?_)
  subst er; subst eN; subst eI
  refine V_aload_2 h.1 dL_law_1070 ?_
  refine V_scr h (c := 1) dL_law_1071 dL_law_1072 dL_law_1073 dL_law_1074 dL_law_1075 (by omega) ?_
  refine V_scr h (c := 2) dL_law_1076 dL_law_1077 dL_law_1078 dL_law_1079 dL_law_1080 (by omega) ?_
  refine V_scr h (c := 3) dL_law_1081 dL_law_1082 dL_law_1083 dL_law_1084 dL_law_1085 (by omega) ?_
  refine V_scr h (c := 4) dL_law_1086 dL_law_1087 dL_law_1088 dL_law_1089 dL_law_1090 (by omega) ?_
  refine V_scr h (c := 5) dL_law_1091 dL_law_1092 dL_law_1093 dL_law_1094 dL_law_1095 (by omega) ?_
  refine V_v5I h.1 h.2.1 h.2.2.1 (c_X11_copy (by omega) hF1 (hI.s0 (fun q => kCopy_m I _ _ _ _ _ 59 q (by decide))) (sc_b sx (i + 1)) (sc_b sx (i + 2)) (sc_b sx (i + 3)) (sc_b sx (i + 4)) (sc_b sx (i + 5))) myX11_copy mlL_122 dL_law_1096 ⟨_, rfl, rfl⟩ (k49 (by omega)) (by decide) (by omega) rfl (by first | exact Nat.le_of_ble_eq_true rfl | (simp only [List.map_cons, List.map_nil, List.sum_cons, List.sum_nil, vR_cat, cat_I, cat_L]; decide)) (fun r2 N2 I2 ⟨er2, eN2, hF2, q1, q2⟩ => ?_)
  subst eN2
  have hc := hI.copy1 hF2 ⟨q1, q2⟩
  rw [er2, hc.2]
  refine V_same (tgt := 1104) h dL_law_1099 (by decide) ?_
  exact V_wid (by omega) (by omega) (kk _ _ hc.1)
end LC
