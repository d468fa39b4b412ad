/-! the law: each of its calls -/
theorem lw_c0 {sc L B a b i cu su : Nat} {xs : Nat → Int32} {h : nPH} (hL : L ≤ 3072) (hi : i + 6 ≤ L) (hB : h.2.1 = B) (G : wB h a b) (hcu : cu + 283 ≤ 600000) (hsu : su + 6091 ≤ 7302250) (kk : ∀ (cu2 su2 : Nat) (h2 : nPH), cu2 ≤ cu + 283 → su2 ≤ su + 6091 → h2.2.1 = B → wB h2 a b → nG YL_law (κL sc L xs B) cu2 su2 1333 [some (.ref (sc)), some (.ref (a)), some (.ref (b)), some (.int (nI (i)))] [] h2) : nG YL_law (κL sc L xs B) cu su 168 [some (.ref (sc)), some (.ref (a)), some (.ref (b)), some (.int (nI (i)))] [] h := by
  refine x_aload_n rfl d_L_law_168 ?_
  refine x_aload_n rfl d_L_law_169 ?_
  refine x_iload_n rfl d_L_law_170 ?_
  refine x_iconst (v := nI 1) (by decide) d_L_law_171 ?_
  refine x_iaddN d_L_law_172 ?_
  refine x_lsld d_L_law_173 hB (nIx_nI (j := i + 1) (by omega) (by omega)) ?_
  refine x_aload_n rfl d_L_law_174 ?_
  refine x_iload_n rfl d_L_law_175 ?_
  refine x_iconst (v := nI 2) (by decide) d_L_law_176 ?_
  refine x_iaddN d_L_law_177 ?_
  refine x_lsld d_L_law_178 hB (nIx_nI (j := i + 2) (by omega) (by omega)) ?_
  refine x_aload_n rfl d_L_law_179 ?_
  refine x_iload_n rfl d_L_law_180 ?_
  refine x_iconst (v := nI 3) (by decide) d_L_law_181 ?_
  refine x_iaddN d_L_law_182 ?_
  refine x_lsld d_L_law_183 hB (nIx_nI (j := i + 3) (by omega) (by omega)) ?_
  obtain ⟨v, hv⟩ := ct_panel G (w := xs (i + 1)) (g := xs (i + 2)) (s := xs (i + 3))
  have HC : ∃ V, o7 h a V := by
    obtain ⟨M, V, P, R, E, Y, T, S, C, H, W⟩ := G
    exact ⟨V, C.1.1⟩
  obtain ⟨V, HC⟩ := HC
  refine x_wvV d_L_law_184 lk_9_13 mo_X7_panel vi_X7_panel hv (o7_o HC) ⟨_, rfl, rfl⟩ rfl ⟨Nat.le_of_ble_eq_true rfl, Nat.le_of_ble_eq_true rfl⟩ (by show cu + 10 ≤ 600000; omega) (by show su + 202 ≤ 7302250; omega) (Nat.le_of_ble_eq_true rfl) rfl (fun h2 hp e1 e2 => ?_)
  obtain ⟨⟨M2, H2⟩, hv2⟩ := hp
  refine x_aload_n rfl d_L_law_187 ?_
  refine x_aload_n rfl d_L_law_188 ?_
  refine x_iload_n rfl d_L_law_189 ?_
  refine x_iconst (v := nI 1) (by decide) d_L_law_190 ?_
  refine x_iaddN d_L_law_191 ?_
  refine x_lsld d_L_law_192 (e2.trans hB) (nIx_nI (j := i + 1) (by omega) (by omega)) ?_
  refine x_aload_n rfl d_L_law_193 ?_
  refine x_iload_n rfl d_L_law_194 ?_
  refine x_iconst (v := nI 2) (by decide) d_L_law_195 ?_
  refine x_iaddN d_L_law_196 ?_
  refine x_lsld d_L_law_197 (e2.trans hB) (nIx_nI (j := i + 2) (by omega) (by omega)) ?_
  refine x_aload_n rfl d_L_law_198 ?_
  refine x_iload_n rfl d_L_law_199 ?_
  refine x_iconst (v := nI 3) (by decide) d_L_law_200 ?_
  refine x_iaddN d_L_law_201 ?_
  refine x_lsld d_L_law_202 (e2.trans hB) (nIx_nI (j := i + 3) (by omega) (by omega)) ?_
  refine x_wvV d_L_law_203 lk_9_17 mo_X8_panel vi_X8_panel hv2 (o8_o H2) ⟨_, rfl, rfl⟩ rfl ⟨Nat.le_of_ble_eq_true rfl, Nat.le_of_ble_eq_true rfl⟩ (by show cu + 10 + 0 ≤ 600000; omega) (by show su + 202 + 0 ≤ 7302250; omega) (Nat.le_of_ble_eq_true rfl) rfl (fun h3 hp3 e3 e4 => ?_)
  refine x_icmp_eq (tgt := 1333) d_L_law_206 (by decide) (fun c_q => ?_) (fun c_q => by exfalso; exact c_q rfl)
  exact kk _ _ h3 (by show cu + 10 + 0 ≤ cu + 283; omega) (by show su + 202 + 0 ≤ su + 6091; omega) (e4.trans (e2.trans hB)) hp3
theorem lw_c1 {sc L B a b i cu su : Nat} {xs : Nat → Int32} {h : nPH} (hL : L ≤ 3072) (hi : i + 6 ≤ L) (hB : h.2.1 = B) (G : wB h a b) (hcu : cu + 283 ≤ 600000) (hsu : su + 6091 ≤ 7302250) (kk : ∀ (cu2 su2 : Nat) (h2 : nPH), cu2 ≤ cu + 283 → su2 ≤ su + 6091 → h2.2.1 = B → wB h2 a b → nG YL_law (κL sc L xs B) cu2 su2 1333 [some (.ref (sc)), some (.ref (a)), some (.ref (b)), some (.int (nI (i)))] [] h2) : nG YL_law (κL sc L xs B) cu su 211 [some (.ref (sc)), some (.ref (a)), some (.ref (b)), some (.int (nI (i)))] [] h := by
  refine x_aload_n rfl d_L_law_211 ?_
  refine x_aload_n rfl d_L_law_212 ?_
  refine x_iload_n rfl d_L_law_213 ?_
  refine x_iconst (v := nI 1) (by decide) d_L_law_214 ?_
  refine x_iaddN d_L_law_215 ?_
  refine x_lsld d_L_law_216 hB (nIx_nI (j := i + 1) (by omega) (by omega)) ?_
  obtain ⟨v, hv⟩ := ct_row G (p := xs (i + 1))
  have HC : ∃ V, o7 h a V := by
    obtain ⟨M, V, P, R, E, Y, T, S, C, H, W⟩ := G
    exact ⟨V, C.1.1⟩
  obtain ⟨V, HC⟩ := HC
  refine x_wvV d_L_law_217 lk_9_18 mo_X7_row vi_X7_row hv (o7_o HC) ⟨_, rfl, rfl⟩ rfl ⟨Nat.le_of_ble_eq_true rfl, Nat.le_of_ble_eq_true rfl⟩ (by show cu + 7 ≤ 600000; omega) (by show su + 151 ≤ 7302250; omega) (Nat.le_of_ble_eq_true rfl) rfl (fun h2 hp e1 e2 => ?_)
  obtain ⟨⟨M2, H2⟩, hv2⟩ := hp
  refine x_aload_n rfl d_L_law_220 ?_
  refine x_aload_n rfl d_L_law_221 ?_
  refine x_iload_n rfl d_L_law_222 ?_
  refine x_iconst (v := nI 1) (by decide) d_L_law_223 ?_
  refine x_iaddN d_L_law_224 ?_
  refine x_lsld d_L_law_225 (e2.trans hB) (nIx_nI (j := i + 1) (by omega) (by omega)) ?_
  refine x_wvV d_L_law_226 lk_9_22 mo_X8_row vi_X8_row hv2 (o8_o H2) ⟨_, rfl, rfl⟩ rfl ⟨Nat.le_of_ble_eq_true rfl, Nat.le_of_ble_eq_true rfl⟩ (by show cu + 7 + 0 ≤ 600000; omega) (by show su + 151 + 0 ≤ 7302250; omega) (Nat.le_of_ble_eq_true rfl) rfl (fun h3 hp3 e3 e4 => ?_)
  refine x_icmp_eq (tgt := 1333) d_L_law_229 (by decide) (fun c_q => ?_) (fun c_q => by exfalso; exact c_q rfl)
  exact kk _ _ h3 (by show cu + 7 + 0 ≤ cu + 283; omega) (by show su + 151 + 0 ≤ su + 6091; omega) (e4.trans (e2.trans hB)) hp3
theorem lw_c2 {sc L B a b i cu su : Nat} {xs : Nat → Int32} {h : nPH} (hL : L ≤ 3072) (hi : i + 6 ≤ L) (hB : h.2.1 = B) (G : wB h a b) (hcu : cu + 283 ≤ 600000) (hsu : su + 6091 ≤ 7302250) (kk : ∀ (cu2 su2 : Nat) (h2 : nPH), cu2 ≤ cu + 283 → su2 ≤ su + 6091 → h2.2.1 = B → wB h2 a b → nG YL_law (κL sc L xs B) cu2 su2 1333 [some (.ref (sc)), some (.ref (a)), some (.ref (b)), some (.int (nI (i)))] [] h2) : nG YL_law (κL sc L xs B) cu su 234 [some (.ref (sc)), some (.ref (a)), some (.ref (b)), some (.int (nI (i)))] [] h := by
  refine x_aload_n rfl d_L_law_234 ?_
  refine x_aload_n rfl d_L_law_235 ?_
  refine x_iload_n rfl d_L_law_236 ?_
  refine x_iconst (v := nI 1) (by decide) d_L_law_237 ?_
  refine x_iaddN d_L_law_238 ?_
  refine x_lsld d_L_law_239 hB (nIx_nI (j := i + 1) (by omega) (by omega)) ?_
  refine x_aload_n rfl d_L_law_240 ?_
  refine x_iload_n rfl d_L_law_241 ?_
  refine x_iconst (v := nI 2) (by decide) d_L_law_242 ?_
  refine x_iaddN d_L_law_243 ?_
  refine x_lsld d_L_law_244 hB (nIx_nI (j := i + 2) (by omega) (by omega)) ?_
  refine x_aload_n rfl d_L_law_245 ?_
  refine x_iload_n rfl d_L_law_246 ?_
  refine x_iconst (v := nI 3) (by decide) d_L_law_247 ?_
  refine x_iaddN d_L_law_248 ?_
  refine x_lsld d_L_law_249 hB (nIx_nI (j := i + 3) (by omega) (by omega)) ?_
  obtain ⟨v, hv⟩ := ct_kind G (p := xs (i + 1)) (k := xs (i + 2)) (z := xs (i + 3))
  have HC : ∃ V, o7 h a V := by
    obtain ⟨M, V, P, R, E, Y, T, S, C, H, W⟩ := G
    exact ⟨V, C.1.1⟩
  obtain ⟨V, HC⟩ := HC
  refine x_wvV d_L_law_250 lk_9_23 mo_X7_kind vi_X7_kind hv (o7_o HC) ⟨_, rfl, rfl⟩ rfl ⟨Nat.le_of_ble_eq_true rfl, Nat.le_of_ble_eq_true rfl⟩ (by show cu + 0 ≤ 600000; omega) (by show su + 0 ≤ 7302250; omega) (Nat.le_of_ble_eq_true rfl) rfl (fun h2 hp e1 e2 => ?_)
  obtain ⟨⟨M2, H2⟩, hv2⟩ := hp
  refine x_aload_n rfl d_L_law_253 ?_
  refine x_aload_n rfl d_L_law_254 ?_
  refine x_iload_n rfl d_L_law_255 ?_
  refine x_iconst (v := nI 1) (by decide) d_L_law_256 ?_
  refine x_iaddN d_L_law_257 ?_
  refine x_lsld d_L_law_258 (e2.trans hB) (nIx_nI (j := i + 1) (by omega) (by omega)) ?_
  refine x_aload_n rfl d_L_law_259 ?_
  refine x_iload_n rfl d_L_law_260 ?_
  refine x_iconst (v := nI 2) (by decide) d_L_law_261 ?_
  refine x_iaddN d_L_law_262 ?_
  refine x_lsld d_L_law_263 (e2.trans hB) (nIx_nI (j := i + 2) (by omega) (by omega)) ?_
  refine x_aload_n rfl d_L_law_264 ?_
  refine x_iload_n rfl d_L_law_265 ?_
  refine x_iconst (v := nI 3) (by decide) d_L_law_266 ?_
  refine x_iaddN d_L_law_267 ?_
  refine x_lsld d_L_law_268 (e2.trans hB) (nIx_nI (j := i + 3) (by omega) (by omega)) ?_
  refine x_wvV d_L_law_269 lk_9_27 mo_X8_kind vi_X8_kind hv2 (o8_o H2) ⟨_, rfl, rfl⟩ rfl ⟨Nat.le_of_ble_eq_true rfl, Nat.le_of_ble_eq_true rfl⟩ (by show cu + 0 + 0 ≤ 600000; omega) (by show su + 0 + 0 ≤ 7302250; omega) (Nat.le_of_ble_eq_true rfl) rfl (fun h3 hp3 e3 e4 => ?_)
  refine x_icmp_eq (tgt := 1333) d_L_law_272 (by decide) (fun c_q => ?_) (fun c_q => by exfalso; exact c_q rfl)
  exact kk _ _ h3 (by show cu + 0 + 0 ≤ cu + 283; omega) (by show su + 0 + 0 ≤ su + 6091; omega) (e4.trans (e2.trans hB)) hp3
theorem lw_c3 {sc L B a b i cu su : Nat} {xs : Nat → Int32} {h : nPH} (hL : L ≤ 3072) (hi : i + 6 ≤ L) (hB : h.2.1 = B) (G : wB h a b) (hcu : cu + 283 ≤ 600000) (hsu : su + 6091 ≤ 7302250) (kk : ∀ (cu2 su2 : Nat) (h2 : nPH), cu2 ≤ cu + 283 → su2 ≤ su + 6091 → h2.2.1 = B → wB h2 a b → nG YL_law (κL sc L xs B) cu2 su2 1333 [some (.ref (sc)), some (.ref (a)), some (.ref (b)), some (.int (nI (i)))] [] h2) : nG YL_law (κL sc L xs B) cu su 277 [some (.ref (sc)), some (.ref (a)), some (.ref (b)), some (.int (nI (i)))] [] h := by
  refine x_aload_n rfl d_L_law_277 ?_
  refine x_aload_n rfl d_L_law_278 ?_
  refine x_iload_n rfl d_L_law_279 ?_
  refine x_iconst (v := nI 1) (by decide) d_L_law_280 ?_
  refine x_iaddN d_L_law_281 ?_
  refine x_lsld d_L_law_282 hB (nIx_nI (j := i + 1) (by omega) (by omega)) ?_
  refine x_aload_n rfl d_L_law_283 ?_
  refine x_iload_n rfl d_L_law_284 ?_
  refine x_iconst (v := nI 2) (by decide) d_L_law_285 ?_
  refine x_iaddN d_L_law_286 ?_
  refine x_lsld d_L_law_287 hB (nIx_nI (j := i + 2) (by omega) (by omega)) ?_
  refine x_aload_n rfl d_L_law_288 ?_
  refine x_iload_n rfl d_L_law_289 ?_
  refine x_iconst (v := nI 3) (by decide) d_L_law_290 ?_
  refine x_iaddN d_L_law_291 ?_
  refine x_lsld d_L_law_292 hB (nIx_nI (j := i + 3) (by omega) (by omega)) ?_
  refine x_aload_n rfl d_L_law_293 ?_
  refine x_iload_n rfl d_L_law_294 ?_
  refine x_iconst (v := nI 4) (by decide) d_L_law_295 ?_
  refine x_iaddN d_L_law_296 ?_
  refine x_lsld d_L_law_297 hB (nIx_nI (j := i + 4) (by omega) (by omega)) ?_
  obtain ⟨v, hv⟩ := ct_shape G (p := xs (i + 1)) (n := xs (i + 2)) (e := xs (i + 3)) (z := xs (i + 4))
  have HC : ∃ V, o7 h a V := by
    obtain ⟨M, V, P, R, E, Y, T, S, C, H, W⟩ := G
    exact ⟨V, C.1.1⟩
  obtain ⟨V, HC⟩ := HC
  refine x_wvV d_L_law_298 lk_9_28 mo_X7_shape vi_X7_shape hv (o7_o HC) ⟨_, rfl, rfl⟩ rfl ⟨Nat.le_of_ble_eq_true rfl, Nat.le_of_ble_eq_true rfl⟩ (by show cu + 133 ≤ 600000; omega) (by show su + 2869 ≤ 7302250; omega) (Nat.le_of_ble_eq_true rfl) rfl (fun h2 hp e1 e2 => ?_)
  obtain ⟨⟨M2, H2⟩, hv2⟩ := hp
  refine x_aload_n rfl d_L_law_301 ?_
  refine x_aload_n rfl d_L_law_302 ?_
  refine x_iload_n rfl d_L_law_303 ?_
  refine x_iconst (v := nI 1) (by decide) d_L_law_304 ?_
  refine x_iaddN d_L_law_305 ?_
  refine x_lsld d_L_law_306 (e2.trans hB) (nIx_nI (j := i + 1) (by omega) (by omega)) ?_
  refine x_aload_n rfl d_L_law_307 ?_
  refine x_iload_n rfl d_L_law_308 ?_
  refine x_iconst (v := nI 2) (by decide) d_L_law_309 ?_
  refine x_iaddN d_L_law_310 ?_
  refine x_lsld d_L_law_311 (e2.trans hB) (nIx_nI (j := i + 2) (by omega) (by omega)) ?_
  refine x_aload_n rfl d_L_law_312 ?_
  refine x_iload_n rfl d_L_law_313 ?_
  refine x_iconst (v := nI 3) (by decide) d_L_law_314 ?_
  refine x_iaddN d_L_law_315 ?_
  refine x_lsld d_L_law_316 (e2.trans hB) (nIx_nI (j := i + 3) (by omega) (by omega)) ?_
  refine x_aload_n rfl d_L_law_317 ?_
  refine x_iload_n rfl d_L_law_318 ?_
  refine x_iconst (v := nI 4) (by decide) d_L_law_319 ?_
  refine x_iaddN d_L_law_320 ?_
  refine x_lsld d_L_law_321 (e2.trans hB) (nIx_nI (j := i + 4) (by omega) (by omega)) ?_
  refine x_wvV d_L_law_322 lk_9_32 mo_X8_shape vi_X8_shape hv2 (o8_o H2) ⟨_, rfl, rfl⟩ rfl ⟨Nat.le_of_ble_eq_true rfl, Nat.le_of_ble_eq_true rfl⟩ (by show cu + 133 + 0 ≤ 600000; omega) (by show su + 2869 + 0 ≤ 7302250; omega) (Nat.le_of_ble_eq_true rfl) rfl (fun h3 hp3 e3 e4 => ?_)
  refine x_icmp_eq (tgt := 1333) d_L_law_325 (by decide) (fun c_q => ?_) (fun c_q => by exfalso; exact c_q rfl)
  exact kk _ _ h3 (by show cu + 133 + 0 ≤ cu + 283; omega) (by show su + 2869 + 0 ≤ su + 6091; omega) (e4.trans (e2.trans hB)) hp3
theorem lw_c4 {sc L B a b i cu su : Nat} {xs : Nat → Int32} {h : nPH} (hL : L ≤ 3072) (hi : i + 6 ≤ L) (hB : h.2.1 = B) (G : wB h a b) (hcu : cu + 283 ≤ 600000) (hsu : su + 6091 ≤ 7302250) (kk : ∀ (cu2 su2 : Nat) (h2 : nPH), cu2 ≤ cu + 283 → su2 ≤ su + 6091 → h2.2.1 = B → wB h2 a b → nG YL_law (κL sc L xs B) cu2 su2 1333 [some (.ref (sc)), some (.ref (a)), some (.ref (b)), some (.int (nI (i)))] [] h2) : nG YL_law (κL sc L xs B) cu su 330 [some (.ref (sc)), some (.ref (a)), some (.ref (b)), some (.int (nI (i)))] [] h := by
  refine x_aload_n rfl d_L_law_330 ?_
  refine x_aload_n rfl d_L_law_331 ?_
  refine x_iload_n rfl d_L_law_332 ?_
  refine x_iconst (v := nI 1) (by decide) d_L_law_333 ?_
  refine x_iaddN d_L_law_334 ?_
  refine x_lsld d_L_law_335 hB (nIx_nI (j := i + 1) (by omega) (by omega)) ?_
  refine x_aload_n rfl d_L_law_336 ?_
  refine x_iload_n rfl d_L_law_337 ?_
  refine x_iconst (v := nI 2) (by decide) d_L_law_338 ?_
  refine x_iaddN d_L_law_339 ?_
  refine x_lsld d_L_law_340 hB (nIx_nI (j := i + 2) (by omega) (by omega)) ?_
  refine x_aload_n rfl d_L_law_341 ?_
  refine x_iload_n rfl d_L_law_342 ?_
  refine x_iconst (v := nI 3) (by decide) d_L_law_343 ?_
  refine x_iaddN d_L_law_344 ?_
  refine x_lsld d_L_law_345 hB (nIx_nI (j := i + 3) (by omega) (by omega)) ?_
  refine x_aload_n rfl d_L_law_346 ?_
  refine x_iload_n rfl d_L_law_347 ?_
  refine x_iconst (v := nI 4) (by decide) d_L_law_348 ?_
  refine x_iaddN d_L_law_349 ?_
  refine x_lsld d_L_law_350 hB (nIx_nI (j := i + 4) (by omega) (by omega)) ?_
  obtain ⟨v, hv⟩ := ct_ahead G (w := xs (i + 1)) (n := xs (i + 2)) (e := xs (i + 3)) (z := xs (i + 4))
  have HC : ∃ V, o7 h a V := by
    obtain ⟨M, V, P, R, E, Y, T, S, C, H, W⟩ := G
    exact ⟨V, C.1.1⟩
  obtain ⟨V, HC⟩ := HC
  refine x_wvV d_L_law_351 lk_9_33 mo_X7_ahead vi_X7_ahead hv (o7_o HC) ⟨_, rfl, rfl⟩ rfl ⟨Nat.le_of_ble_eq_true rfl, Nat.le_of_ble_eq_true rfl⟩ (by show cu + 0 ≤ 600000; omega) (by show su + 0 ≤ 7302250; omega) (Nat.le_of_ble_eq_true rfl) rfl (fun h2 hp e1 e2 => ?_)
  obtain ⟨⟨M2, H2⟩, hv2⟩ := hp
  refine x_aload_n rfl d_L_law_354 ?_
  refine x_aload_n rfl d_L_law_355 ?_
  refine x_iload_n rfl d_L_law_356 ?_
  refine x_iconst (v := nI 1) (by decide) d_L_law_357 ?_
  refine x_iaddN d_L_law_358 ?_
  refine x_lsld d_L_law_359 (e2.trans hB) (nIx_nI (j := i + 1) (by omega) (by omega)) ?_
  refine x_aload_n rfl d_L_law_360 ?_
  refine x_iload_n rfl d_L_law_361 ?_
  refine x_iconst (v := nI 2) (by decide) d_L_law_362 ?_
  refine x_iaddN d_L_law_363 ?_
  refine x_lsld d_L_law_364 (e2.trans hB) (nIx_nI (j := i + 2) (by omega) (by omega)) ?_
  refine x_aload_n rfl d_L_law_365 ?_
  refine x_iload_n rfl d_L_law_366 ?_
  refine x_iconst (v := nI 3) (by decide) d_L_law_367 ?_
  refine x_iaddN d_L_law_368 ?_
  refine x_lsld d_L_law_369 (e2.trans hB) (nIx_nI (j := i + 3) (by omega) (by omega)) ?_
  refine x_aload_n rfl d_L_law_370 ?_
  refine x_iload_n rfl d_L_law_371 ?_
  refine x_iconst (v := nI 4) (by decide) d_L_law_372 ?_
  refine x_iaddN d_L_law_373 ?_
  refine x_lsld d_L_law_374 (e2.trans hB) (nIx_nI (j := i + 4) (by omega) (by omega)) ?_
  refine x_wvV d_L_law_375 lk_9_37 mo_X8_ahead vi_X8_ahead hv2 (o8_o H2) ⟨_, rfl, rfl⟩ rfl ⟨Nat.le_of_ble_eq_true rfl, Nat.le_of_ble_eq_true rfl⟩ (by show cu + 0 + 0 ≤ 600000; omega) (by show su + 0 + 0 ≤ 7302250; omega) (Nat.le_of_ble_eq_true rfl) rfl (fun h3 hp3 e3 e4 => ?_)
  refine x_lcmp d_L_law_378 ?_
  refine x_if_eq (tgt := 1333) d_L_law_379 (by decide) (fun c_q => ?_) (fun c_q => by exfalso; exact c_q (lg_cmp_s v))
  exact kk _ _ h3 (by show cu + 0 + 0 ≤ cu + 283; omega) (by show su + 0 + 0 ≤ su + 6091; omega) (e4.trans (e2.trans hB)) hp3
theorem lw_c5 {sc L B a b i cu su : Nat} {xs : Nat → Int32} {h : nPH} (hL : L ≤ 3072) (hi : i + 6 ≤ L) (hB : h.2.1 = B) (G : wB h a b) (hcu : cu + 283 ≤ 600000) (hsu : su + 6091 ≤ 7302250) (kk : ∀ (cu2 su2 : Nat) (h2 : nPH), cu2 ≤ cu + 283 → su2 ≤ su + 6091 → h2.2.1 = B → wB h2 a b → nG YL_law (κL sc L xs B) cu2 su2 1333 [some (.ref (sc)), some (.ref (a)), some (.ref (b)), some (.int (nI (i)))] [] h2) : nG YL_law (κL sc L xs B) cu su 384 [some (.ref (sc)), some (.ref (a)), some (.ref (b)), some (.int (nI (i)))] [] h := by
  refine x_aload_n rfl d_L_law_384 ?_
  refine x_aload_n rfl d_L_law_385 ?_
  refine x_iload_n rfl d_L_law_386 ?_
  refine x_iconst (v := nI 1) (by decide) d_L_law_387 ?_
  refine x_iaddN d_L_law_388 ?_
  refine x_lsld d_L_law_389 hB (nIx_nI (j := i + 1) (by omega) (by omega)) ?_
  refine x_aload_n rfl d_L_law_390 ?_
  refine x_iload_n rfl d_L_law_391 ?_
  refine x_iconst (v := nI 2) (by decide) d_L_law_392 ?_
  refine x_iaddN d_L_law_393 ?_
  refine x_lsld d_L_law_394 hB (nIx_nI (j := i + 2) (by omega) (by omega)) ?_
  obtain ⟨v, hv⟩ := ct_meshes G (p := xs (i + 1)) (r := xs (i + 2))
  have HC : ∃ V, o7 h a V := by
    obtain ⟨M, V, P, R, E, Y, T, S, C, H, W⟩ := G
    exact ⟨V, C.1.1⟩
  obtain ⟨V, HC⟩ := HC
  refine x_wvV d_L_law_395 lk_9_38 mo_X7_meshes vi_X7_meshes hv (o7_o HC) ⟨_, rfl, rfl⟩ rfl ⟨Nat.le_of_ble_eq_true rfl, Nat.le_of_ble_eq_true rfl⟩ (by show cu + 0 ≤ 600000; omega) (by show su + 0 ≤ 7302250; omega) (Nat.le_of_ble_eq_true rfl) rfl (fun h2 hp e1 e2 => ?_)
  obtain ⟨⟨M2, H2⟩, hv2⟩ := hp
  refine x_aload_n rfl d_L_law_398 ?_
  refine x_aload_n rfl d_L_law_399 ?_
  refine x_iload_n rfl d_L_law_400 ?_
  refine x_iconst (v := nI 1) (by decide) d_L_law_401 ?_
  refine x_iaddN d_L_law_402 ?_
  refine x_lsld d_L_law_403 (e2.trans hB) (nIx_nI (j := i + 1) (by omega) (by omega)) ?_
  refine x_aload_n rfl d_L_law_404 ?_
  refine x_iload_n rfl d_L_law_405 ?_
  refine x_iconst (v := nI 2) (by decide) d_L_law_406 ?_
  refine x_iaddN d_L_law_407 ?_
  refine x_lsld d_L_law_408 (e2.trans hB) (nIx_nI (j := i + 2) (by omega) (by omega)) ?_
  refine x_wvV d_L_law_409 lk_9_42 mo_X8_meshes vi_X8_meshes hv2 (o8_o H2) ⟨_, rfl, rfl⟩ rfl ⟨Nat.le_of_ble_eq_true rfl, Nat.le_of_ble_eq_true rfl⟩ (by show cu + 0 + 0 ≤ 600000; omega) (by show su + 0 + 0 ≤ 7302250; omega) (Nat.le_of_ble_eq_true rfl) rfl (fun h3 hp3 e3 e4 => ?_)
  refine x_icmp_eq (tgt := 1333) d_L_law_412 (by decide) (fun c_q => ?_) (fun c_q => by exfalso; exact c_q rfl)
  exact kk _ _ h3 (by show cu + 0 + 0 ≤ cu + 283; omega) (by show su + 0 + 0 ≤ su + 6091; omega) (e4.trans (e2.trans hB)) hp3
theorem lw_c6 {sc L B a b i cu su : Nat} {xs : Nat → Int32} {h : nPH} (hL : L ≤ 3072) (hi : i + 6 ≤ L) (hB : h.2.1 = B) (G : wB h a b) (hcu : cu + 283 ≤ 600000) (hsu : su + 6091 ≤ 7302250) (kk : ∀ (cu2 su2 : Nat) (h2 : nPH), cu2 ≤ cu + 283 → su2 ≤ su + 6091 → h2.2.1 = B → wB h2 a b → nG YL_law (κL sc L xs B) cu2 su2 1333 [some (.ref (sc)), some (.ref (a)), some (.ref (b)), some (.int (nI (i)))] [] h2) : nG YL_law (κL sc L xs B) cu su 417 [some (.ref (sc)), some (.ref (a)), some (.ref (b)), some (.int (nI (i)))] [] h := by
  refine x_aload_n rfl d_L_law_417 ?_
  refine x_aload_n rfl d_L_law_418 ?_
  refine x_iload_n rfl d_L_law_419 ?_
  refine x_iconst (v := nI 1) (by decide) d_L_law_420 ?_
  refine x_iaddN d_L_law_421 ?_
  refine x_lsld d_L_law_422 hB (nIx_nI (j := i + 1) (by omega) (by omega)) ?_
  refine x_aload_n rfl d_L_law_423 ?_
  refine x_iload_n rfl d_L_law_424 ?_
  refine x_iconst (v := nI 2) (by decide) d_L_law_425 ?_
  refine x_iaddN d_L_law_426 ?_
  refine x_lsld d_L_law_427 hB (nIx_nI (j := i + 2) (by omega) (by omega)) ?_
  refine x_aload_n rfl d_L_law_428 ?_
  refine x_iload_n rfl d_L_law_429 ?_
  refine x_iconst (v := nI 3) (by decide) d_L_law_430 ?_
  refine x_iaddN d_L_law_431 ?_
  refine x_lsld d_L_law_432 hB (nIx_nI (j := i + 3) (by omega) (by omega)) ?_
  refine x_aload_n rfl d_L_law_433 ?_
  refine x_iload_n rfl d_L_law_434 ?_
  refine x_iconst (v := nI 4) (by decide) d_L_law_435 ?_
  refine x_iaddN d_L_law_436 ?_
  refine x_lsld d_L_law_437 hB (nIx_nI (j := i + 4) (by omega) (by omega)) ?_
  obtain ⟨v, hv⟩ := ct_of G (p := xs (i + 1)) (r := xs (i + 2)) (k := xs (i + 3)) (c := xs (i + 4))
  have HC : ∃ V, o7 h a V := by
    obtain ⟨M, V, P, R, E, Y, T, S, C, H, W⟩ := G
    exact ⟨V, C.1.1⟩
  obtain ⟨V, HC⟩ := HC
  refine x_wvV d_L_law_438 lk_9_43 mo_X7_of vi_X7_of hv (o7_o HC) ⟨_, rfl, rfl⟩ rfl ⟨Nat.le_of_ble_eq_true rfl, Nat.le_of_ble_eq_true rfl⟩ (by show cu + 0 ≤ 600000; omega) (by show su + 0 ≤ 7302250; omega) (Nat.le_of_ble_eq_true rfl) rfl (fun h2 hp e1 e2 => ?_)
  obtain ⟨⟨M2, H2⟩, hv2⟩ := hp
  refine x_aload_n rfl d_L_law_441 ?_
  refine x_aload_n rfl d_L_law_442 ?_
  refine x_iload_n rfl d_L_law_443 ?_
  refine x_iconst (v := nI 1) (by decide) d_L_law_444 ?_
  refine x_iaddN d_L_law_445 ?_
  refine x_lsld d_L_law_446 (e2.trans hB) (nIx_nI (j := i + 1) (by omega) (by omega)) ?_
  refine x_aload_n rfl d_L_law_447 ?_
  refine x_iload_n rfl d_L_law_448 ?_
  refine x_iconst (v := nI 2) (by decide) d_L_law_449 ?_
  refine x_iaddN d_L_law_450 ?_
  refine x_lsld d_L_law_451 (e2.trans hB) (nIx_nI (j := i + 2) (by omega) (by omega)) ?_
  refine x_aload_n rfl d_L_law_452 ?_
  refine x_iload_n rfl d_L_law_453 ?_
  refine x_iconst (v := nI 3) (by decide) d_L_law_454 ?_
  refine x_iaddN d_L_law_455 ?_
  refine x_lsld d_L_law_456 (e2.trans hB) (nIx_nI (j := i + 3) (by omega) (by omega)) ?_
  refine x_aload_n rfl d_L_law_457 ?_
  refine x_iload_n rfl d_L_law_458 ?_
  refine x_iconst (v := nI 4) (by decide) d_L_law_459 ?_
  refine x_iaddN d_L_law_460 ?_
  refine x_lsld d_L_law_461 (e2.trans hB) (nIx_nI (j := i + 4) (by omega) (by omega)) ?_
  refine x_wvV d_L_law_462 lk_9_46 mo_X8_of vi_X8_of hv2 (o8_o H2) ⟨_, rfl, rfl⟩ rfl ⟨Nat.le_of_ble_eq_true rfl, Nat.le_of_ble_eq_true rfl⟩ (by show cu + 0 + 0 ≤ 600000; omega) (by show su + 0 + 0 ≤ 7302250; omega) (Nat.le_of_ble_eq_true rfl) rfl (fun h3 hp3 e3 e4 => ?_)
  refine x_icmp_eq (tgt := 1333) d_L_law_465 (by decide) (fun c_q => ?_) (fun c_q => by exfalso; exact c_q rfl)
  exact kk _ _ h3 (by show cu + 0 + 0 ≤ cu + 283; omega) (by show su + 0 + 0 ≤ su + 6091; omega) (e4.trans (e2.trans hB)) hp3
theorem lw_c7 {sc L B a b i cu su : Nat} {xs : Nat → Int32} {h : nPH} (hL : L ≤ 3072) (hi : i + 6 ≤ L) (hB : h.2.1 = B) (G : wB h a b) (hcu : cu + 283 ≤ 600000) (hsu : su + 6091 ≤ 7302250) (kk : ∀ (cu2 su2 : Nat) (h2 : nPH), cu2 ≤ cu + 283 → su2 ≤ su + 6091 → h2.2.1 = B → wB h2 a b → nG YL_law (κL sc L xs B) cu2 su2 1333 [some (.ref (sc)), some (.ref (a)), some (.ref (b)), some (.int (nI (i)))] [] h2) : nG YL_law (κL sc L xs B) cu su 470 [some (.ref (sc)), some (.ref (a)), some (.ref (b)), some (.int (nI (i)))] [] h := by
  refine x_aload_n rfl d_L_law_470 ?_
  refine x_aload_n rfl d_L_law_471 ?_
  refine x_iload_n rfl d_L_law_472 ?_
  refine x_iconst (v := nI 1) (by decide) d_L_law_473 ?_
  refine x_iaddN d_L_law_474 ?_
  refine x_lsld d_L_law_475 hB (nIx_nI (j := i + 1) (by omega) (by omega)) ?_
  refine x_aload_n rfl d_L_law_476 ?_
  refine x_iload_n rfl d_L_law_477 ?_
  refine x_iconst (v := nI 2) (by decide) d_L_law_478 ?_
  refine x_iaddN d_L_law_479 ?_
  refine x_lsld d_L_law_480 hB (nIx_nI (j := i + 2) (by omega) (by omega)) ?_
  refine x_aload_n rfl d_L_law_481 ?_
  refine x_iload_n rfl d_L_law_482 ?_
  refine x_iconst (v := nI 3) (by decide) d_L_law_483 ?_
  refine x_iaddN d_L_law_484 ?_
  refine x_lsld d_L_law_485 hB (nIx_nI (j := i + 3) (by omega) (by omega)) ?_
  refine x_aload_n rfl d_L_law_486 ?_
  refine x_iload_n rfl d_L_law_487 ?_
  refine x_iconst (v := nI 4) (by decide) d_L_law_488 ?_
  refine x_iaddN d_L_law_489 ?_
  refine x_lsld d_L_law_490 hB (nIx_nI (j := i + 4) (by omega) (by omega)) ?_
  refine x_aload_n rfl d_L_law_491 ?_
  refine x_iload_n rfl d_L_law_492 ?_
  refine x_iconst (v := nI 5) (by decide) d_L_law_493 ?_
  refine x_iaddN d_L_law_494 ?_
  refine x_lsld d_L_law_495 hB (nIx_nI (j := i + 5) (by omega) (by omega)) ?_
  refine x_if_eq (tgt := 503) d_L_law_496 (by decide) (fun c_o => ?_) (fun c_o => ?_)
  · refine x_iconst (v := nI 0) (by decide) d_L_law_503 ?_
    obtain ⟨v, hv⟩ := ct_side G (p := xs (i + 1)) (r := xs (i + 2)) (k := xs (i + 3)) (s := xs (i + 4)) (o := 0) (by decide)
    have HC : ∃ V, o7 h a V := by
      obtain ⟨M, V, P, R, E, Y, T, S, C, H, W⟩ := G
      exact ⟨V, C.1.1⟩
    obtain ⟨V, HC⟩ := HC
    refine x_wvV d_L_law_504 lk_9_47 mo_X7_side vi_X7_side hv (o7_o HC) ⟨_, rfl, rfl⟩ rfl ⟨Nat.le_of_ble_eq_true rfl, Nat.le_of_ble_eq_true rfl⟩ (by show cu + 0 ≤ 600000; omega) (by show su + 0 ≤ 7302250; omega) (Nat.le_of_ble_eq_true rfl) rfl (fun h2 hp e1 e2 => ?_)
    obtain ⟨⟨M2, H2⟩, hv2⟩ := hp
    refine x_aload_n rfl d_L_law_507 ?_
    refine x_aload_n rfl d_L_law_508 ?_
    refine x_iload_n rfl d_L_law_509 ?_
    refine x_iconst (v := nI 1) (by decide) d_L_law_510 ?_
    refine x_iaddN d_L_law_511 ?_
    refine x_lsld d_L_law_512 (e2.trans hB) (nIx_nI (j := i + 1) (by omega) (by omega)) ?_
    refine x_aload_n rfl d_L_law_513 ?_
    refine x_iload_n rfl d_L_law_514 ?_
    refine x_iconst (v := nI 2) (by decide) d_L_law_515 ?_
    refine x_iaddN d_L_law_516 ?_
    refine x_lsld d_L_law_517 (e2.trans hB) (nIx_nI (j := i + 2) (by omega) (by omega)) ?_
    refine x_aload_n rfl d_L_law_518 ?_
    refine x_iload_n rfl d_L_law_519 ?_
    refine x_iconst (v := nI 3) (by decide) d_L_law_520 ?_
    refine x_iaddN d_L_law_521 ?_
    refine x_lsld d_L_law_522 (e2.trans hB) (nIx_nI (j := i + 3) (by omega) (by omega)) ?_
    refine x_aload_n rfl d_L_law_523 ?_
    refine x_iload_n rfl d_L_law_524 ?_
    refine x_iconst (v := nI 4) (by decide) d_L_law_525 ?_
    refine x_iaddN d_L_law_526 ?_
    refine x_lsld d_L_law_527 (e2.trans hB) (nIx_nI (j := i + 4) (by omega) (by omega)) ?_
    refine x_aload_n rfl d_L_law_528 ?_
    refine x_iload_n rfl d_L_law_529 ?_
    refine x_iconst (v := nI 5) (by decide) d_L_law_530 ?_
    refine x_iaddN d_L_law_531 ?_
    refine x_lsld d_L_law_532 (e2.trans hB) (nIx_nI (j := i + 5) (by omega) (by omega)) ?_
    refine x_if_eq (tgt := 540) d_L_law_533 (by decide) (fun c_p => ?_) (fun c_p => by exfalso; exact c_p c_o)
    refine x_iconst (v := nI 0) (by decide) d_L_law_540 ?_
    refine x_wvV d_L_law_541 lk_9_51 mo_X8_side vi_X8_side hv2 (o8_o H2) ⟨_, rfl, rfl⟩ rfl ⟨Nat.le_of_ble_eq_true rfl, Nat.le_of_ble_eq_true rfl⟩ (by show cu + 0 + 0 ≤ 600000; omega) (by show su + 0 + 0 ≤ 7302250; omega) (Nat.le_of_ble_eq_true rfl) rfl (fun h3 hp3 e3 e4 => ?_)
    refine x_icmp_eq (tgt := 1333) d_L_law_544 (by decide) (fun c_q => ?_) (fun c_q => by exfalso; exact c_q rfl)
    exact kk _ _ h3 (by show cu + 0 + 0 ≤ cu + 283; omega) (by show su + 0 + 0 ≤ su + 6091; omega) (e4.trans (e2.trans hB)) hp3
  · refine x_iconst (v := nI 1) (by decide) d_L_law_499 ?_
    refine x_goto (tgt := 504) d_L_law_500 (by decide) ?_
    obtain ⟨v, hv⟩ := ct_side G (p := xs (i + 1)) (r := xs (i + 2)) (k := xs (i + 3)) (s := xs (i + 4)) (o := 1) (by decide)
    have HC : ∃ V, o7 h a V := by
      obtain ⟨M, V, P, R, E, Y, T, S, C, H, W⟩ := G
      exact ⟨V, C.1.1⟩
    obtain ⟨V, HC⟩ := HC
    refine x_wvV d_L_law_504 lk_9_47 mo_X7_side vi_X7_side hv (o7_o HC) ⟨_, rfl, rfl⟩ rfl ⟨Nat.le_of_ble_eq_true rfl, Nat.le_of_ble_eq_true rfl⟩ (by show cu + 0 ≤ 600000; omega) (by show su + 0 ≤ 7302250; omega) (Nat.le_of_ble_eq_true rfl) rfl (fun h2 hp e1 e2 => ?_)
    obtain ⟨⟨M2, H2⟩, hv2⟩ := hp
    refine x_aload_n rfl d_L_law_507 ?_
    refine x_aload_n rfl d_L_law_508 ?_
    refine x_iload_n rfl d_L_law_509 ?_
    refine x_iconst (v := nI 1) (by decide) d_L_law_510 ?_
    refine x_iaddN d_L_law_511 ?_
    refine x_lsld d_L_law_512 (e2.trans hB) (nIx_nI (j := i + 1) (by omega) (by omega)) ?_
    refine x_aload_n rfl d_L_law_513 ?_
    refine x_iload_n rfl d_L_law_514 ?_
    refine x_iconst (v := nI 2) (by decide) d_L_law_515 ?_
    refine x_iaddN d_L_law_516 ?_
    refine x_lsld d_L_law_517 (e2.trans hB) (nIx_nI (j := i + 2) (by omega) (by omega)) ?_
    refine x_aload_n rfl d_L_law_518 ?_
    refine x_iload_n rfl d_L_law_519 ?_
    refine x_iconst (v := nI 3) (by decide) d_L_law_520 ?_
    refine x_iaddN d_L_law_521 ?_
    refine x_lsld d_L_law_522 (e2.trans hB) (nIx_nI (j := i + 3) (by omega) (by omega)) ?_
    refine x_aload_n rfl d_L_law_523 ?_
    refine x_iload_n rfl d_L_law_524 ?_
    refine x_iconst (v := nI 4) (by decide) d_L_law_525 ?_
    refine x_iaddN d_L_law_526 ?_
    refine x_lsld d_L_law_527 (e2.trans hB) (nIx_nI (j := i + 4) (by omega) (by omega)) ?_
    refine x_aload_n rfl d_L_law_528 ?_
    refine x_iload_n rfl d_L_law_529 ?_
    refine x_iconst (v := nI 5) (by decide) d_L_law_530 ?_
    refine x_iaddN d_L_law_531 ?_
    refine x_lsld d_L_law_532 (e2.trans hB) (nIx_nI (j := i + 5) (by omega) (by omega)) ?_
    refine x_if_eq (tgt := 540) d_L_law_533 (by decide) (fun c_p => by exfalso; exact c_o c_p) (fun c_p => ?_)
    refine x_iconst (v := nI 1) (by decide) d_L_law_536 ?_
    refine x_goto (tgt := 541) d_L_law_537 (by decide) ?_
    refine x_wvV d_L_law_541 lk_9_51 mo_X8_side vi_X8_side hv2 (o8_o H2) ⟨_, rfl, rfl⟩ rfl ⟨Nat.le_of_ble_eq_true rfl, Nat.le_of_ble_eq_true rfl⟩ (by show cu + 0 + 0 ≤ 600000; omega) (by show su + 0 + 0 ≤ 7302250; omega) (Nat.le_of_ble_eq_true rfl) rfl (fun h3 hp3 e3 e4 => ?_)
    refine x_icmp_eq (tgt := 1333) d_L_law_544 (by decide) (fun c_q => ?_) (fun c_q => by exfalso; exact c_q rfl)
    exact kk _ _ h3 (by show cu + 0 + 0 ≤ cu + 283; omega) (by show su + 0 + 0 ≤ su + 6091; omega) (e4.trans (e2.trans hB)) hp3
theorem lw_c8 {sc L B a b i cu su : Nat} {xs : Nat → Int32} {h : nPH} (hL : L ≤ 3072) (hi : i + 6 ≤ L) (hB : h.2.1 = B) (G : wB h a b) (hcu : cu + 283 ≤ 600000) (hsu : su + 6091 ≤ 7302250) (kk : ∀ (cu2 su2 : Nat) (h2 : nPH), cu2 ≤ cu + 283 → su2 ≤ su + 6091 → h2.2.1 = B → wB h2 a b → nG YL_law (κL sc L xs B) cu2 su2 1333 [some (.ref (sc)), some (.ref (a)), some (.ref (b)), some (.int (nI (i)))] [] h2) : nG YL_law (κL sc L xs B) cu su 549 [some (.ref (sc)), some (.ref (a)), some (.ref (b)), some (.int (nI (i)))] [] h := by
  refine x_aload_n rfl d_L_law_549 ?_
  refine x_aload_n rfl d_L_law_550 ?_
  refine x_iload_n rfl d_L_law_551 ?_
  refine x_iconst (v := nI 1) (by decide) d_L_law_552 ?_
  refine x_iaddN d_L_law_553 ?_
  refine x_lsld d_L_law_554 hB (nIx_nI (j := i + 1) (by omega) (by omega)) ?_
  refine x_aload_n rfl d_L_law_555 ?_
  refine x_iload_n rfl d_L_law_556 ?_
  refine x_iconst (v := nI 2) (by decide) d_L_law_557 ?_
  refine x_iaddN d_L_law_558 ?_
  refine x_lsld d_L_law_559 hB (nIx_nI (j := i + 2) (by omega) (by omega)) ?_
  refine x_aload_n rfl d_L_law_560 ?_
  refine x_iload_n rfl d_L_law_561 ?_
  refine x_iconst (v := nI 3) (by decide) d_L_law_562 ?_
  refine x_iaddN d_L_law_563 ?_
  refine x_lsld d_L_law_564 hB (nIx_nI (j := i + 3) (by omega) (by omega)) ?_
  obtain ⟨v, hv⟩ := ct_cut G (p := xs (i + 1)) (r := xs (i + 2)) (k := xs (i + 3))
  have HC : ∃ V, o7 h a V := by
    obtain ⟨M, V, P, R, E, Y, T, S, C, H, W⟩ := G
    exact ⟨V, C.1.1⟩
  obtain ⟨V, HC⟩ := HC
  refine x_wvV d_L_law_565 lk_9_52 mo_X7_cut vi_X7_cut hv (o7_o HC) ⟨_, rfl, rfl⟩ rfl ⟨Nat.le_of_ble_eq_true rfl, Nat.le_of_ble_eq_true rfl⟩ (by show cu + 0 ≤ 600000; omega) (by show su + 0 ≤ 7302250; omega) (Nat.le_of_ble_eq_true rfl) rfl (fun h2 hp e1 e2 => ?_)
  obtain ⟨⟨M2, H2⟩, hv2⟩ := hp
  refine x_aload_n rfl d_L_law_568 ?_
  refine x_aload_n rfl d_L_law_569 ?_
  refine x_iload_n rfl d_L_law_570 ?_
  refine x_iconst (v := nI 1) (by decide) d_L_law_571 ?_
  refine x_iaddN d_L_law_572 ?_
  refine x_lsld d_L_law_573 (e2.trans hB) (nIx_nI (j := i + 1) (by omega) (by omega)) ?_
  refine x_aload_n rfl d_L_law_574 ?_
  refine x_iload_n rfl d_L_law_575 ?_
  refine x_iconst (v := nI 2) (by decide) d_L_law_576 ?_
  refine x_iaddN d_L_law_577 ?_
  refine x_lsld d_L_law_578 (e2.trans hB) (nIx_nI (j := i + 2) (by omega) (by omega)) ?_
  refine x_aload_n rfl d_L_law_579 ?_
  refine x_iload_n rfl d_L_law_580 ?_
  refine x_iconst (v := nI 3) (by decide) d_L_law_581 ?_
  refine x_iaddN d_L_law_582 ?_
  refine x_lsld d_L_law_583 (e2.trans hB) (nIx_nI (j := i + 3) (by omega) (by omega)) ?_
  refine x_wvV d_L_law_584 lk_9_55 mo_X8_cut vi_X8_cut hv2 (o8_o H2) ⟨_, rfl, rfl⟩ rfl ⟨Nat.le_of_ble_eq_true rfl, Nat.le_of_ble_eq_true rfl⟩ (by show cu + 0 + 0 ≤ 600000; omega) (by show su + 0 + 0 ≤ 7302250; omega) (Nat.le_of_ble_eq_true rfl) rfl (fun h3 hp3 e3 e4 => ?_)
  refine x_icmp_eq (tgt := 1333) d_L_law_587 (by decide) (fun c_q => ?_) (fun c_q => by exfalso; exact c_q rfl)
  exact kk _ _ h3 (by show cu + 0 + 0 ≤ cu + 283; omega) (by show su + 0 + 0 ≤ su + 6091; omega) (e4.trans (e2.trans hB)) hp3
theorem lw_c9 {sc L B a b i cu su : Nat} {xs : Nat → Int32} {h : nPH} (hL : L ≤ 3072) (hi : i + 6 ≤ L) (hB : h.2.1 = B) (G : wB h a b) (hcu : cu + 283 ≤ 600000) (hsu : su + 6091 ≤ 7302250) (kk : ∀ (cu2 su2 : Nat) (h2 : nPH), cu2 ≤ cu + 283 → su2 ≤ su + 6091 → h2.2.1 = B → wB h2 a b → nG YL_law (κL sc L xs B) cu2 su2 1333 [some (.ref (sc)), some (.ref (a)), some (.ref (b)), some (.int (nI (i)))] [] h2) : nG YL_law (κL sc L xs B) cu su 592 [some (.ref (sc)), some (.ref (a)), some (.ref (b)), some (.int (nI (i)))] [] h := by
  refine x_aload_n rfl d_L_law_592 ?_
  refine x_aload_n rfl d_L_law_593 ?_
  refine x_iload_n rfl d_L_law_594 ?_
  refine x_iconst (v := nI 1) (by decide) d_L_law_595 ?_
  refine x_iaddN d_L_law_596 ?_
  refine x_lsld d_L_law_597 hB (nIx_nI (j := i + 1) (by omega) (by omega)) ?_
  refine x_aload_n rfl d_L_law_598 ?_
  refine x_iload_n rfl d_L_law_599 ?_
  refine x_iconst (v := nI 2) (by decide) d_L_law_600 ?_
  refine x_iaddN d_L_law_601 ?_
  refine x_lsld d_L_law_602 hB (nIx_nI (j := i + 2) (by omega) (by omega)) ?_
  obtain ⟨v, hv⟩ := ct_tear G (p := xs (i + 1)) (r := xs (i + 2))
  have HC : ∃ V, o7 h a V := by
    obtain ⟨M, V, P, R, E, Y, T, S, C, H, W⟩ := G
    exact ⟨V, C.1.1⟩
  obtain ⟨V, HC⟩ := HC
  refine x_wvV d_L_law_603 lk_9_56 mo_X7_tear vi_X7_tear hv (o7_o HC) ⟨_, rfl, rfl⟩ rfl ⟨Nat.le_of_ble_eq_true rfl, Nat.le_of_ble_eq_true rfl⟩ (by show cu + 0 ≤ 600000; omega) (by show su + 0 ≤ 7302250; omega) (Nat.le_of_ble_eq_true rfl) rfl (fun h2 hp e1 e2 => ?_)
  obtain ⟨⟨M2, H2⟩, hv2⟩ := hp
  refine x_aload_n rfl d_L_law_606 ?_
  refine x_aload_n rfl d_L_law_607 ?_
  refine x_iload_n rfl d_L_law_608 ?_
  refine x_iconst (v := nI 1) (by decide) d_L_law_609 ?_
  refine x_iaddN d_L_law_610 ?_
  refine x_lsld d_L_law_611 (e2.trans hB) (nIx_nI (j := i + 1) (by omega) (by omega)) ?_
  refine x_aload_n rfl d_L_law_612 ?_
  refine x_iload_n rfl d_L_law_613 ?_
  refine x_iconst (v := nI 2) (by decide) d_L_law_614 ?_
  refine x_iaddN d_L_law_615 ?_
  refine x_lsld d_L_law_616 (e2.trans hB) (nIx_nI (j := i + 2) (by omega) (by omega)) ?_
  refine x_wvV d_L_law_617 lk_9_60 mo_X8_tear vi_X8_tear hv2 (o8_o H2) ⟨_, rfl, rfl⟩ rfl ⟨Nat.le_of_ble_eq_true rfl, Nat.le_of_ble_eq_true rfl⟩ (by show cu + 0 + 0 ≤ 600000; omega) (by show su + 0 + 0 ≤ 7302250; omega) (Nat.le_of_ble_eq_true rfl) rfl (fun h3 hp3 e3 e4 => ?_)
  refine x_icmp_eq (tgt := 1333) d_L_law_620 (by decide) (fun c_q => ?_) (fun c_q => by exfalso; exact c_q rfl)
  exact kk _ _ h3 (by show cu + 0 + 0 ≤ cu + 283; omega) (by show su + 0 + 0 ≤ su + 6091; omega) (e4.trans (e2.trans hB)) hp3
theorem lw_c10 {sc L B a b i cu su : Nat} {xs : Nat → Int32} {h : nPH} (hL : L ≤ 3072) (hi : i + 6 ≤ L) (hB : h.2.1 = B) (G : wB h a b) (hcu : cu + 283 ≤ 600000) (hsu : su + 6091 ≤ 7302250) (kk : ∀ (cu2 su2 : Nat) (h2 : nPH), cu2 ≤ cu + 283 → su2 ≤ su + 6091 → h2.2.1 = B → wB h2 a b → nG YL_law (κL sc L xs B) cu2 su2 1333 [some (.ref (sc)), some (.ref (a)), some (.ref (b)), some (.int (nI (i)))] [] h2) : nG YL_law (κL sc L xs B) cu su 625 [some (.ref (sc)), some (.ref (a)), some (.ref (b)), some (.int (nI (i)))] [] h := by
  refine x_aload_n rfl d_L_law_625 ?_
  refine x_aload_n rfl d_L_law_626 ?_
  refine x_iload_n rfl d_L_law_627 ?_
  refine x_iconst (v := nI 1) (by decide) d_L_law_628 ?_
  refine x_iaddN d_L_law_629 ?_
  refine x_lsld d_L_law_630 hB (nIx_nI (j := i + 1) (by omega) (by omega)) ?_
  refine x_aload_n rfl d_L_law_631 ?_
  refine x_iload_n rfl d_L_law_632 ?_
  refine x_iconst (v := nI 2) (by decide) d_L_law_633 ?_
  refine x_iaddN d_L_law_634 ?_
  refine x_lsld d_L_law_635 hB (nIx_nI (j := i + 2) (by omega) (by omega)) ?_
  refine x_aload_n rfl d_L_law_636 ?_
  refine x_iload_n rfl d_L_law_637 ?_
  refine x_iconst (v := nI 3) (by decide) d_L_law_638 ?_
  refine x_iaddN d_L_law_639 ?_
  refine x_lsld d_L_law_640 hB (nIx_nI (j := i + 3) (by omega) (by omega)) ?_
  refine x_aload_n rfl d_L_law_641 ?_
  refine x_iload_n rfl d_L_law_642 ?_
  refine x_iconst (v := nI 4) (by decide) d_L_law_643 ?_
  refine x_iaddN d_L_law_644 ?_
  refine x_lsld d_L_law_645 hB (nIx_nI (j := i + 4) (by omega) (by omega)) ?_
  refine x_if_eq (tgt := 653) d_L_law_646 (by decide) (fun c_o => ?_) (fun c_o => ?_)
  · refine x_iconst (v := nI 0) (by decide) d_L_law_653 ?_
    obtain ⟨v, hv⟩ := ct_needle G (p := xs (i + 1)) (r := xs (i + 2)) (k := xs (i + 3)) (o := 0) (by decide)
    have HC : ∃ V, o7 h a V := by
      obtain ⟨M, V, P, R, E, Y, T, S, C, H, W⟩ := G
      exact ⟨V, C.1.1⟩
    obtain ⟨V, HC⟩ := HC
    refine x_wvV d_L_law_654 lk_9_61 mo_X7_needle vi_X7_needle hv (o7_o HC) ⟨_, rfl, rfl⟩ rfl ⟨Nat.le_of_ble_eq_true rfl, Nat.le_of_ble_eq_true rfl⟩ (by show cu + 0 ≤ 600000; omega) (by show su + 0 ≤ 7302250; omega) (Nat.le_of_ble_eq_true rfl) rfl (fun h2 hp e1 e2 => ?_)
    obtain ⟨⟨M2, H2⟩, hv2⟩ := hp
    refine x_aload_n rfl d_L_law_657 ?_
    refine x_aload_n rfl d_L_law_658 ?_
    refine x_iload_n rfl d_L_law_659 ?_
    refine x_iconst (v := nI 1) (by decide) d_L_law_660 ?_
    refine x_iaddN d_L_law_661 ?_
    refine x_lsld d_L_law_662 (e2.trans hB) (nIx_nI (j := i + 1) (by omega) (by omega)) ?_
    refine x_aload_n rfl d_L_law_663 ?_
    refine x_iload_n rfl d_L_law_664 ?_
    refine x_iconst (v := nI 2) (by decide) d_L_law_665 ?_
    refine x_iaddN d_L_law_666 ?_
    refine x_lsld d_L_law_667 (e2.trans hB) (nIx_nI (j := i + 2) (by omega) (by omega)) ?_
    refine x_aload_n rfl d_L_law_668 ?_
    refine x_iload_n rfl d_L_law_669 ?_
    refine x_iconst (v := nI 3) (by decide) d_L_law_670 ?_
    refine x_iaddN d_L_law_671 ?_
    refine x_lsld d_L_law_672 (e2.trans hB) (nIx_nI (j := i + 3) (by omega) (by omega)) ?_
    refine x_aload_n rfl d_L_law_673 ?_
    refine x_iload_n rfl d_L_law_674 ?_
    refine x_iconst (v := nI 4) (by decide) d_L_law_675 ?_
    refine x_iaddN d_L_law_676 ?_
    refine x_lsld d_L_law_677 (e2.trans hB) (nIx_nI (j := i + 4) (by omega) (by omega)) ?_
    refine x_if_eq (tgt := 685) d_L_law_678 (by decide) (fun c_p => ?_) (fun c_p => by exfalso; exact c_p c_o)
    refine x_iconst (v := nI 0) (by decide) d_L_law_685 ?_
    refine x_wvV d_L_law_686 lk_9_65 mo_X8_needle vi_X8_needle hv2 (o8_o H2) ⟨_, rfl, rfl⟩ rfl ⟨Nat.le_of_ble_eq_true rfl, Nat.le_of_ble_eq_true rfl⟩ (by show cu + 0 + 0 ≤ 600000; omega) (by show su + 0 + 0 ≤ 7302250; omega) (Nat.le_of_ble_eq_true rfl) rfl (fun h3 hp3 e3 e4 => ?_)
    refine x_icmp_eq (tgt := 1333) d_L_law_689 (by decide) (fun c_q => ?_) (fun c_q => by exfalso; exact c_q rfl)
    exact kk _ _ h3 (by show cu + 0 + 0 ≤ cu + 283; omega) (by show su + 0 + 0 ≤ su + 6091; omega) (e4.trans (e2.trans hB)) hp3
  · refine x_iconst (v := nI 1) (by decide) d_L_law_649 ?_
    refine x_goto (tgt := 654) d_L_law_650 (by decide) ?_
    obtain ⟨v, hv⟩ := ct_needle G (p := xs (i + 1)) (r := xs (i + 2)) (k := xs (i + 3)) (o := 1) (by decide)
    have HC : ∃ V, o7 h a V := by
      obtain ⟨M, V, P, R, E, Y, T, S, C, H, W⟩ := G
      exact ⟨V, C.1.1⟩
    obtain ⟨V, HC⟩ := HC
    refine x_wvV d_L_law_654 lk_9_61 mo_X7_needle vi_X7_needle hv (o7_o HC) ⟨_, rfl, rfl⟩ rfl ⟨Nat.le_of_ble_eq_true rfl, Nat.le_of_ble_eq_true rfl⟩ (by show cu + 0 ≤ 600000; omega) (by show su + 0 ≤ 7302250; omega) (Nat.le_of_ble_eq_true rfl) rfl (fun h2 hp e1 e2 => ?_)
    obtain ⟨⟨M2, H2⟩, hv2⟩ := hp
    refine x_aload_n rfl d_L_law_657 ?_
    refine x_aload_n rfl d_L_law_658 ?_
    refine x_iload_n rfl d_L_law_659 ?_
    refine x_iconst (v := nI 1) (by decide) d_L_law_660 ?_
    refine x_iaddN d_L_law_661 ?_
    refine x_lsld d_L_law_662 (e2.trans hB) (nIx_nI (j := i + 1) (by omega) (by omega)) ?_
    refine x_aload_n rfl d_L_law_663 ?_
    refine x_iload_n rfl d_L_law_664 ?_
    refine x_iconst (v := nI 2) (by decide) d_L_law_665 ?_
    refine x_iaddN d_L_law_666 ?_
    refine x_lsld d_L_law_667 (e2.trans hB) (nIx_nI (j := i + 2) (by omega) (by omega)) ?_
    refine x_aload_n rfl d_L_law_668 ?_
    refine x_iload_n rfl d_L_law_669 ?_
    refine x_iconst (v := nI 3) (by decide) d_L_law_670 ?_
    refine x_iaddN d_L_law_671 ?_
    refine x_lsld d_L_law_672 (e2.trans hB) (nIx_nI (j := i + 3) (by omega) (by omega)) ?_
    refine x_aload_n rfl d_L_law_673 ?_
    refine x_iload_n rfl d_L_law_674 ?_
    refine x_iconst (v := nI 4) (by decide) d_L_law_675 ?_
    refine x_iaddN d_L_law_676 ?_
    refine x_lsld d_L_law_677 (e2.trans hB) (nIx_nI (j := i + 4) (by omega) (by omega)) ?_
    refine x_if_eq (tgt := 685) d_L_law_678 (by decide) (fun c_p => by exfalso; exact c_o c_p) (fun c_p => ?_)
    refine x_iconst (v := nI 1) (by decide) d_L_law_681 ?_
    refine x_goto (tgt := 686) d_L_law_682 (by decide) ?_
    refine x_wvV d_L_law_686 lk_9_65 mo_X8_needle vi_X8_needle hv2 (o8_o H2) ⟨_, rfl, rfl⟩ rfl ⟨Nat.le_of_ble_eq_true rfl, Nat.le_of_ble_eq_true rfl⟩ (by show cu + 0 + 0 ≤ 600000; omega) (by show su + 0 + 0 ≤ 7302250; omega) (Nat.le_of_ble_eq_true rfl) rfl (fun h3 hp3 e3 e4 => ?_)
    refine x_icmp_eq (tgt := 1333) d_L_law_689 (by decide) (fun c_q => ?_) (fun c_q => by exfalso; exact c_q rfl)
    exact kk _ _ h3 (by show cu + 0 + 0 ≤ cu + 283; omega) (by show su + 0 + 0 ≤ su + 6091; omega) (e4.trans (e2.trans hB)) hp3
theorem lw_c11 {sc L B a b i cu su : Nat} {xs : Nat → Int32} {h : nPH} (hL : L ≤ 3072) (hi : i + 6 ≤ L) (hB : h.2.1 = B) (G : wB h a b) (hcu : cu + 283 ≤ 600000) (hsu : su + 6091 ≤ 7302250) (kk : ∀ (cu2 su2 : Nat) (h2 : nPH), cu2 ≤ cu + 283 → su2 ≤ su + 6091 → h2.2.1 = B → wB h2 a b → nG YL_law (κL sc L xs B) cu2 su2 1333 [some (.ref (sc)), some (.ref (a)), some (.ref (b)), some (.int (nI (i)))] [] h2) : nG YL_law (κL sc L xs B) cu su 694 [some (.ref (sc)), some (.ref (a)), some (.ref (b)), some (.int (nI (i)))] [] h := by
  refine x_aload_n rfl d_L_law_694 ?_
  refine x_aload_n rfl d_L_law_695 ?_
  refine x_iload_n rfl d_L_law_696 ?_
  refine x_iconst (v := nI 1) (by decide) d_L_law_697 ?_
  refine x_iaddN d_L_law_698 ?_
  refine x_lsld d_L_law_699 hB (nIx_nI (j := i + 1) (by omega) (by omega)) ?_
  refine x_aload_n rfl d_L_law_700 ?_
  refine x_iload_n rfl d_L_law_701 ?_
  refine x_iconst (v := nI 2) (by decide) d_L_law_702 ?_
  refine x_iaddN d_L_law_703 ?_
  refine x_lsld d_L_law_704 hB (nIx_nI (j := i + 2) (by omega) (by omega)) ?_
  refine x_aload_n rfl d_L_law_705 ?_
  refine x_iload_n rfl d_L_law_706 ?_
  refine x_iconst (v := nI 3) (by decide) d_L_law_707 ?_
  refine x_iaddN d_L_law_708 ?_
  refine x_lsld d_L_law_709 hB (nIx_nI (j := i + 3) (by omega) (by omega)) ?_
  obtain ⟨v, hv⟩ := ct_hole G (p := xs (i + 1)) (r := xs (i + 2)) (k := xs (i + 3))
  have HC : ∃ V, o7 h a V := by
    obtain ⟨M, V, P, R, E, Y, T, S, C, H, W⟩ := G
    exact ⟨V, C.1.1⟩
  obtain ⟨V, HC⟩ := HC
  refine x_wvV d_L_law_710 lk_9_66 mo_X7_hole vi_X7_hole hv (o7_o HC) ⟨_, rfl, rfl⟩ rfl ⟨Nat.le_of_ble_eq_true rfl, Nat.le_of_ble_eq_true rfl⟩ (by show cu + 0 ≤ 600000; omega) (by show su + 0 ≤ 7302250; omega) (Nat.le_of_ble_eq_true rfl) rfl (fun h2 hp e1 e2 => ?_)
  obtain ⟨⟨M2, H2⟩, hv2⟩ := hp
  refine x_aload_n rfl d_L_law_713 ?_
  refine x_aload_n rfl d_L_law_714 ?_
  refine x_iload_n rfl d_L_law_715 ?_
  refine x_iconst (v := nI 1) (by decide) d_L_law_716 ?_
  refine x_iaddN d_L_law_717 ?_
  refine x_lsld d_L_law_718 (e2.trans hB) (nIx_nI (j := i + 1) (by omega) (by omega)) ?_
  refine x_aload_n rfl d_L_law_719 ?_
  refine x_iload_n rfl d_L_law_720 ?_
  refine x_iconst (v := nI 2) (by decide) d_L_law_721 ?_
  refine x_iaddN d_L_law_722 ?_
  refine x_lsld d_L_law_723 (e2.trans hB) (nIx_nI (j := i + 2) (by omega) (by omega)) ?_
  refine x_aload_n rfl d_L_law_724 ?_
  refine x_iload_n rfl d_L_law_725 ?_
  refine x_iconst (v := nI 3) (by decide) d_L_law_726 ?_
  refine x_iaddN d_L_law_727 ?_
  refine x_lsld d_L_law_728 (e2.trans hB) (nIx_nI (j := i + 3) (by omega) (by omega)) ?_
  refine x_wvV d_L_law_729 lk_9_69 mo_X8_hole vi_X8_hole hv2 (o8_o H2) ⟨_, rfl, rfl⟩ rfl ⟨Nat.le_of_ble_eq_true rfl, Nat.le_of_ble_eq_true rfl⟩ (by show cu + 0 + 0 ≤ 600000; omega) (by show su + 0 + 0 ≤ 7302250; omega) (Nat.le_of_ble_eq_true rfl) rfl (fun h3 hp3 e3 e4 => ?_)
  refine x_icmp_eq (tgt := 1333) d_L_law_732 (by decide) (fun c_q => ?_) (fun c_q => by exfalso; exact c_q rfl)
  exact kk _ _ h3 (by show cu + 0 + 0 ≤ cu + 283; omega) (by show su + 0 + 0 ≤ su + 6091; omega) (e4.trans (e2.trans hB)) hp3
theorem lw_c12 {sc L B a b i cu su : Nat} {xs : Nat → Int32} {h : nPH} (hL : L ≤ 3072) (hi : i + 6 ≤ L) (hB : h.2.1 = B) (G : wB h a b) (hcu : cu + 283 ≤ 600000) (hsu : su + 6091 ≤ 7302250) (kk : ∀ (cu2 su2 : Nat) (h2 : nPH), cu2 ≤ cu + 283 → su2 ≤ su + 6091 → h2.2.1 = B → wB h2 a b → nG YL_law (κL sc L xs B) cu2 su2 1333 [some (.ref (sc)), some (.ref (a)), some (.ref (b)), some (.int (nI (i)))] [] h2) : nG YL_law (κL sc L xs B) cu su 737 [some (.ref (sc)), some (.ref (a)), some (.ref (b)), some (.int (nI (i)))] [] h := by
  refine x_aload_n rfl d_L_law_737 ?_
  refine x_aload_n rfl d_L_law_738 ?_
  refine x_iload_n rfl d_L_law_739 ?_
  refine x_iconst (v := nI 1) (by decide) d_L_law_740 ?_
  refine x_iaddN d_L_law_741 ?_
  refine x_lsld d_L_law_742 hB (nIx_nI (j := i + 1) (by omega) (by omega)) ?_
  refine x_aload_n rfl d_L_law_743 ?_
  refine x_iload_n rfl d_L_law_744 ?_
  refine x_iconst (v := nI 2) (by decide) d_L_law_745 ?_
  refine x_iaddN d_L_law_746 ?_
  refine x_lsld d_L_law_747 hB (nIx_nI (j := i + 2) (by omega) (by omega)) ?_
  obtain ⟨v, hv⟩ := ct_edge G (i := xs (i + 1)) (c := xs (i + 2))
  have HC : ∃ V, o7 h a V := by
    obtain ⟨M, V, P, R, E, Y, T, S, C, H, W⟩ := G
    exact ⟨V, C.1.1⟩
  obtain ⟨V, HC⟩ := HC
  refine x_wvV d_L_law_748 lk_9_70 mo_X7_edge vi_X7_edge hv (o7_o HC) ⟨_, rfl, rfl⟩ rfl ⟨Nat.le_of_ble_eq_true rfl, Nat.le_of_ble_eq_true rfl⟩ (by show cu + 0 ≤ 600000; omega) (by show su + 0 ≤ 7302250; omega) (Nat.le_of_ble_eq_true rfl) rfl (fun h2 hp e1 e2 => ?_)
  obtain ⟨⟨M2, H2⟩, hv2⟩ := hp
  refine x_aload_n rfl d_L_law_751 ?_
  refine x_aload_n rfl d_L_law_752 ?_
  refine x_iload_n rfl d_L_law_753 ?_
  refine x_iconst (v := nI 1) (by decide) d_L_law_754 ?_
  refine x_iaddN d_L_law_755 ?_
  refine x_lsld d_L_law_756 (e2.trans hB) (nIx_nI (j := i + 1) (by omega) (by omega)) ?_
  refine x_aload_n rfl d_L_law_757 ?_
  refine x_iload_n rfl d_L_law_758 ?_
  refine x_iconst (v := nI 2) (by decide) d_L_law_759 ?_
  refine x_iaddN d_L_law_760 ?_
  refine x_lsld d_L_law_761 (e2.trans hB) (nIx_nI (j := i + 2) (by omega) (by omega)) ?_
  refine x_wvV d_L_law_762 lk_9_73 mo_X8_edge vi_X8_edge hv2 (o8_o H2) ⟨_, rfl, rfl⟩ rfl ⟨Nat.le_of_ble_eq_true rfl, Nat.le_of_ble_eq_true rfl⟩ (by show cu + 0 + 0 ≤ 600000; omega) (by show su + 0 + 0 ≤ 7302250; omega) (Nat.le_of_ble_eq_true rfl) rfl (fun h3 hp3 e3 e4 => ?_)
  refine x_icmp_eq (tgt := 1333) d_L_law_765 (by decide) (fun c_q => ?_) (fun c_q => by exfalso; exact c_q rfl)
  exact kk _ _ h3 (by show cu + 0 + 0 ≤ cu + 283; omega) (by show su + 0 + 0 ≤ su + 6091; omega) (e4.trans (e2.trans hB)) hp3
theorem lw_c13 {sc L B a b i cu su : Nat} {xs : Nat → Int32} {h : nPH} (hL : L ≤ 3072) (hi : i + 6 ≤ L) (hB : h.2.1 = B) (G : wB h a b) (hcu : cu + 283 ≤ 600000) (hsu : su + 6091 ≤ 7302250) (kk : ∀ (cu2 su2 : Nat) (h2 : nPH), cu2 ≤ cu + 283 → su2 ≤ su + 6091 → h2.2.1 = B → wB h2 a b → nG YL_law (κL sc L xs B) cu2 su2 1333 [some (.ref (sc)), some (.ref (a)), some (.ref (b)), some (.int (nI (i)))] [] h2) : nG YL_law (κL sc L xs B) cu su 770 [some (.ref (sc)), some (.ref (a)), some (.ref (b)), some (.int (nI (i)))] [] h := by
  refine x_aload_n rfl d_L_law_770 ?_
  refine x_aload_n rfl d_L_law_771 ?_
  refine x_iload_n rfl d_L_law_772 ?_
  refine x_iconst (v := nI 1) (by decide) d_L_law_773 ?_
  refine x_iaddN d_L_law_774 ?_
  refine x_lsld d_L_law_775 hB (nIx_nI (j := i + 1) (by omega) (by omega)) ?_
  refine x_aload_n rfl d_L_law_776 ?_
  refine x_iload_n rfl d_L_law_777 ?_
  refine x_iconst (v := nI 2) (by decide) d_L_law_778 ?_
  refine x_iaddN d_L_law_779 ?_
  refine x_lsld d_L_law_780 hB (nIx_nI (j := i + 2) (by omega) (by omega)) ?_
  refine x_aload_n rfl d_L_law_781 ?_
  refine x_iload_n rfl d_L_law_782 ?_
  refine x_iconst (v := nI 3) (by decide) d_L_law_783 ?_
  refine x_iaddN d_L_law_784 ?_
  refine x_lsld d_L_law_785 hB (nIx_nI (j := i + 3) (by omega) (by omega)) ?_
  obtain ⟨v, hv⟩ := ct_mend G (p := xs (i + 1)) (r := xs (i + 2)) (k := xs (i + 3))
  have HC : ∃ V, o7 h a V := by
    obtain ⟨M, V, P, R, E, Y, T, S, C, H, W⟩ := G
    exact ⟨V, C.1.1⟩
  obtain ⟨V, HC⟩ := HC
  refine x_wvV d_L_law_786 lk_9_74 mo_X7_mend vi_X7_mend hv (o7_o HC) ⟨_, rfl, rfl⟩ rfl ⟨Nat.le_of_ble_eq_true rfl, Nat.le_of_ble_eq_true rfl⟩ (by show cu + 0 ≤ 600000; omega) (by show su + 0 ≤ 7302250; omega) (Nat.le_of_ble_eq_true rfl) rfl (fun h2 hp e1 e2 => ?_)
  obtain ⟨⟨M2, H2⟩, hv2⟩ := hp
  refine x_aload_n rfl d_L_law_789 ?_
  refine x_aload_n rfl d_L_law_790 ?_
  refine x_iload_n rfl d_L_law_791 ?_
  refine x_iconst (v := nI 1) (by decide) d_L_law_792 ?_
  refine x_iaddN d_L_law_793 ?_
  refine x_lsld d_L_law_794 (e2.trans hB) (nIx_nI (j := i + 1) (by omega) (by omega)) ?_
  refine x_aload_n rfl d_L_law_795 ?_
  refine x_iload_n rfl d_L_law_796 ?_
  refine x_iconst (v := nI 2) (by decide) d_L_law_797 ?_
  refine x_iaddN d_L_law_798 ?_
  refine x_lsld d_L_law_799 (e2.trans hB) (nIx_nI (j := i + 2) (by omega) (by omega)) ?_
  refine x_aload_n rfl d_L_law_800 ?_
  refine x_iload_n rfl d_L_law_801 ?_
  refine x_iconst (v := nI 3) (by decide) d_L_law_802 ?_
  refine x_iaddN d_L_law_803 ?_
  refine x_lsld d_L_law_804 (e2.trans hB) (nIx_nI (j := i + 3) (by omega) (by omega)) ?_
  refine x_wvV d_L_law_805 lk_9_77 mo_X8_mend vi_X8_mend hv2 (o8_o H2) ⟨_, rfl, rfl⟩ rfl ⟨Nat.le_of_ble_eq_true rfl, Nat.le_of_ble_eq_true rfl⟩ (by show cu + 0 + 0 ≤ 600000; omega) (by show su + 0 + 0 ≤ 7302250; omega) (Nat.le_of_ble_eq_true rfl) rfl (fun h3 hp3 e3 e4 => ?_)
  refine x_icmp_eq (tgt := 1333) d_L_law_808 (by decide) (fun c_q => ?_) (fun c_q => by exfalso; exact c_q rfl)
  exact kk _ _ h3 (by show cu + 0 + 0 ≤ cu + 283; omega) (by show su + 0 + 0 ≤ su + 6091; omega) (e4.trans (e2.trans hB)) hp3
theorem lw_c14 {sc L B a b i cu su : Nat} {xs : Nat → Int32} {h : nPH} (hL : L ≤ 3072) (hi : i + 6 ≤ L) (hB : h.2.1 = B) (G : wB h a b) (hcu : cu + 283 ≤ 600000) (hsu : su + 6091 ≤ 7302250) (kk : ∀ (cu2 su2 : Nat) (h2 : nPH), cu2 ≤ cu + 283 → su2 ≤ su + 6091 → h2.2.1 = B → wB h2 a b → nG YL_law (κL sc L xs B) cu2 su2 1333 [some (.ref (sc)), some (.ref (a)), some (.ref (b)), some (.int (nI (i)))] [] h2) : nG YL_law (κL sc L xs B) cu su 813 [some (.ref (sc)), some (.ref (a)), some (.ref (b)), some (.int (nI (i)))] [] h := by
  refine x_aload_n rfl d_L_law_813 ?_
  refine x_aload_n rfl d_L_law_814 ?_
  refine x_iload_n rfl d_L_law_815 ?_
  refine x_iconst (v := nI 1) (by decide) d_L_law_816 ?_
  refine x_iaddN d_L_law_817 ?_
  refine x_lsld d_L_law_818 hB (nIx_nI (j := i + 1) (by omega) (by omega)) ?_
  obtain ⟨v, hv⟩ := ct_way G (i := xs (i + 1))
  have HC : ∃ V, o7 h a V := by
    obtain ⟨M, V, P, R, E, Y, T, S, C, H, W⟩ := G
    exact ⟨V, C.1.1⟩
  obtain ⟨V, HC⟩ := HC
  refine x_wvV d_L_law_819 lk_9_78 mo_X7_way vi_X7_way hv (o7_o HC) ⟨_, rfl, rfl⟩ rfl ⟨Nat.le_of_ble_eq_true rfl, Nat.le_of_ble_eq_true rfl⟩ (by show cu + 0 ≤ 600000; omega) (by show su + 0 ≤ 7302250; omega) (Nat.le_of_ble_eq_true rfl) rfl (fun h2 hp e1 e2 => ?_)
  obtain ⟨⟨M2, H2⟩, hv2⟩ := hp
  refine x_aload_n rfl d_L_law_822 ?_
  refine x_aload_n rfl d_L_law_823 ?_
  refine x_iload_n rfl d_L_law_824 ?_
  refine x_iconst (v := nI 1) (by decide) d_L_law_825 ?_
  refine x_iaddN d_L_law_826 ?_
  refine x_lsld d_L_law_827 (e2.trans hB) (nIx_nI (j := i + 1) (by omega) (by omega)) ?_
  refine x_wvV d_L_law_828 lk_9_81 mo_X8_way vi_X8_way hv2 (o8_o H2) ⟨_, rfl, rfl⟩ rfl ⟨Nat.le_of_ble_eq_true rfl, Nat.le_of_ble_eq_true rfl⟩ (by show cu + 0 + 0 ≤ 600000; omega) (by show su + 0 + 0 ≤ 7302250; omega) (Nat.le_of_ble_eq_true rfl) rfl (fun h3 hp3 e3 e4 => ?_)
  refine x_icmp_eq (tgt := 1333) d_L_law_831 (by decide) (fun c_q => ?_) (fun c_q => by exfalso; exact c_q rfl)
  exact kk _ _ h3 (by show cu + 0 + 0 ≤ cu + 283; omega) (by show su + 0 + 0 ≤ su + 6091; omega) (e4.trans (e2.trans hB)) hp3
theorem lw_c15 {sc L B a b i cu su : Nat} {xs : Nat → Int32} {h : nPH} (hL : L ≤ 3072) (hi : i + 6 ≤ L) (hB : h.2.1 = B) (G : wB h a b) (hcu : cu + 283 ≤ 600000) (hsu : su + 6091 ≤ 7302250) (kk : ∀ (cu2 su2 : Nat) (h2 : nPH), cu2 ≤ cu + 283 → su2 ≤ su + 6091 → h2.2.1 = B → wB h2 a b → nG YL_law (κL sc L xs B) cu2 su2 1333 [some (.ref (sc)), some (.ref (a)), some (.ref (b)), some (.int (nI (i)))] [] h2) : nG YL_law (κL sc L xs B) cu su 836 [some (.ref (sc)), some (.ref (a)), some (.ref (b)), some (.int (nI (i)))] [] h := by
  refine x_aload_n rfl d_L_law_836 ?_
  refine x_aload_n rfl d_L_law_837 ?_
  refine x_iload_n rfl d_L_law_838 ?_
  refine x_iconst (v := nI 1) (by decide) d_L_law_839 ?_
  refine x_iaddN d_L_law_840 ?_
  refine x_lsld d_L_law_841 hB (nIx_nI (j := i + 1) (by omega) (by omega)) ?_
  refine x_aload_n rfl d_L_law_842 ?_
  refine x_iload_n rfl d_L_law_843 ?_
  refine x_iconst (v := nI 2) (by decide) d_L_law_844 ?_
  refine x_iaddN d_L_law_845 ?_
  refine x_lsld d_L_law_846 hB (nIx_nI (j := i + 2) (by omega) (by omega)) ?_
  refine x_aload_n rfl d_L_law_847 ?_
  refine x_iload_n rfl d_L_law_848 ?_
  refine x_iconst (v := nI 3) (by decide) d_L_law_849 ?_
  refine x_iaddN d_L_law_850 ?_
  refine x_lsld d_L_law_851 hB (nIx_nI (j := i + 3) (by omega) (by omega)) ?_
  obtain ⟨v, hv⟩ := ct_taper G (w := xs (i + 1)) (v := xs (i + 2)) (d := xs (i + 3))
  have HC : ∃ V, o7 h a V := by
    obtain ⟨M, V, P, R, E, Y, T, S, C, H, W⟩ := G
    exact ⟨V, C.1.1⟩
  obtain ⟨V, HC⟩ := HC
  refine x_wvV d_L_law_852 lk_9_82 mo_X7_taper vi_X7_taper hv (o7_o HC) ⟨_, rfl, rfl⟩ rfl ⟨Nat.le_of_ble_eq_true rfl, Nat.le_of_ble_eq_true rfl⟩ (by show cu + 0 ≤ 600000; omega) (by show su + 0 ≤ 7302250; omega) (Nat.le_of_ble_eq_true rfl) rfl (fun h2 hp e1 e2 => ?_)
  obtain ⟨⟨M2, H2⟩, hv2⟩ := hp
  refine x_aload_n rfl d_L_law_855 ?_
  refine x_aload_n rfl d_L_law_856 ?_
  refine x_iload_n rfl d_L_law_857 ?_
  refine x_iconst (v := nI 1) (by decide) d_L_law_858 ?_
  refine x_iaddN d_L_law_859 ?_
  refine x_lsld d_L_law_860 (e2.trans hB) (nIx_nI (j := i + 1) (by omega) (by omega)) ?_
  refine x_aload_n rfl d_L_law_861 ?_
  refine x_iload_n rfl d_L_law_862 ?_
  refine x_iconst (v := nI 2) (by decide) d_L_law_863 ?_
  refine x_iaddN d_L_law_864 ?_
  refine x_lsld d_L_law_865 (e2.trans hB) (nIx_nI (j := i + 2) (by omega) (by omega)) ?_
  refine x_aload_n rfl d_L_law_866 ?_
  refine x_iload_n rfl d_L_law_867 ?_
  refine x_iconst (v := nI 3) (by decide) d_L_law_868 ?_
  refine x_iaddN d_L_law_869 ?_
  refine x_lsld d_L_law_870 (e2.trans hB) (nIx_nI (j := i + 3) (by omega) (by omega)) ?_
  refine x_wvV d_L_law_871 lk_9_85 mo_X8_taper vi_X8_taper hv2 (o8_o H2) ⟨_, rfl, rfl⟩ rfl ⟨Nat.le_of_ble_eq_true rfl, Nat.le_of_ble_eq_true rfl⟩ (by show cu + 0 + 0 ≤ 600000; omega) (by show su + 0 + 0 ≤ 7302250; omega) (Nat.le_of_ble_eq_true rfl) rfl (fun h3 hp3 e3 e4 => ?_)
  refine x_icmp_eq (tgt := 1333) d_L_law_874 (by decide) (fun c_q => ?_) (fun c_q => by exfalso; exact c_q rfl)
  exact kk _ _ h3 (by show cu + 0 + 0 ≤ cu + 283; omega) (by show su + 0 + 0 ≤ su + 6091; omega) (e4.trans (e2.trans hB)) hp3
theorem lw_c16 {sc L B a b i cu su : Nat} {xs : Nat → Int32} {h : nPH} (hL : L ≤ 3072) (hi : i + 6 ≤ L) (hB : h.2.1 = B) (G : wB h a b) (hcu : cu + 283 ≤ 600000) (hsu : su + 6091 ≤ 7302250) (kk : ∀ (cu2 su2 : Nat) (h2 : nPH), cu2 ≤ cu + 283 → su2 ≤ su + 6091 → h2.2.1 = B → wB h2 a b → nG YL_law (κL sc L xs B) cu2 su2 1333 [some (.ref (sc)), some (.ref (a)), some (.ref (b)), some (.int (nI (i)))] [] h2) : nG YL_law (κL sc L xs B) cu su 879 [some (.ref (sc)), some (.ref (a)), some (.ref (b)), some (.int (nI (i)))] [] h := by
  refine x_aload_n rfl d_L_law_879 ?_
  refine x_aload_n rfl d_L_law_880 ?_
  refine x_iload_n rfl d_L_law_881 ?_
  refine x_iconst (v := nI 1) (by decide) d_L_law_882 ?_
  refine x_iaddN d_L_law_883 ?_
  refine x_lsld d_L_law_884 hB (nIx_nI (j := i + 1) (by omega) (by omega)) ?_
  obtain ⟨v, hv⟩ := ct_cycle G (c := xs (i + 1))
  have HC : ∃ V, o7 h a V := by
    obtain ⟨M, V, P, R, E, Y, T, S, C, H, W⟩ := G
    exact ⟨V, C.1.1⟩
  obtain ⟨V, HC⟩ := HC
  refine x_wvV d_L_law_885 lk_9_86 mo_X7_cycle vi_X7_cycle hv (o7_o HC) ⟨_, rfl, rfl⟩ rfl ⟨Nat.le_of_ble_eq_true rfl, Nat.le_of_ble_eq_true rfl⟩ (by show cu + 0 ≤ 600000; omega) (by show su + 0 ≤ 7302250; omega) (Nat.le_of_ble_eq_true rfl) rfl (fun h2 hp e1 e2 => ?_)
  obtain ⟨⟨M2, H2⟩, hv2⟩ := hp
  refine x_aload_n rfl d_L_law_888 ?_
  refine x_aload_n rfl d_L_law_889 ?_
  refine x_iload_n rfl d_L_law_890 ?_
  refine x_iconst (v := nI 1) (by decide) d_L_law_891 ?_
  refine x_iaddN d_L_law_892 ?_
  refine x_lsld d_L_law_893 (e2.trans hB) (nIx_nI (j := i + 1) (by omega) (by omega)) ?_
  refine x_wvV d_L_law_894 lk_9_89 mo_X8_cycle vi_X8_cycle hv2 (o8_o H2) ⟨_, rfl, rfl⟩ rfl ⟨Nat.le_of_ble_eq_true rfl, Nat.le_of_ble_eq_true rfl⟩ (by show cu + 0 + 0 ≤ 600000; omega) (by show su + 0 + 0 ≤ 7302250; omega) (Nat.le_of_ble_eq_true rfl) rfl (fun h3 hp3 e3 e4 => ?_)
  refine x_icmp_eq (tgt := 1333) d_L_law_897 (by decide) (fun c_q => ?_) (fun c_q => by exfalso; exact c_q rfl)
  exact kk _ _ h3 (by show cu + 0 + 0 ≤ cu + 283; omega) (by show su + 0 + 0 ≤ su + 6091; omega) (e4.trans (e2.trans hB)) hp3
theorem lw_c17 {sc L B a b i cu su : Nat} {xs : Nat → Int32} {h : nPH} (hL : L ≤ 3072) (hi : i + 6 ≤ L) (hB : h.2.1 = B) (G : wB h a b) (hcu : cu + 283 ≤ 600000) (hsu : su + 6091 ≤ 7302250) (kk : ∀ (cu2 su2 : Nat) (h2 : nPH), cu2 ≤ cu + 283 → su2 ≤ su + 6091 → h2.2.1 = B → wB h2 a b → nG YL_law (κL sc L xs B) cu2 su2 1333 [some (.ref (sc)), some (.ref (a)), some (.ref (b)), some (.int (nI (i)))] [] h2) : nG YL_law (κL sc L xs B) cu su 902 [some (.ref (sc)), some (.ref (a)), some (.ref (b)), some (.int (nI (i)))] [] h := by
  refine x_aload_n rfl d_L_law_902 ?_
  refine x_aload_n rfl d_L_law_903 ?_
  refine x_iload_n rfl d_L_law_904 ?_
  refine x_iconst (v := nI 1) (by decide) d_L_law_905 ?_
  refine x_iaddN d_L_law_906 ?_
  refine x_lsld d_L_law_907 hB (nIx_nI (j := i + 1) (by omega) (by omega)) ?_
  refine x_aload_n rfl d_L_law_908 ?_
  refine x_iload_n rfl d_L_law_909 ?_
  refine x_iconst (v := nI 2) (by decide) d_L_law_910 ?_
  refine x_iaddN d_L_law_911 ?_
  refine x_lsld d_L_law_912 hB (nIx_nI (j := i + 2) (by omega) (by omega)) ?_
  obtain ⟨v, hv⟩ := ct_sew G (p := xs (i + 1)) (q := xs (i + 2))
  have HC : ∃ V, o7 h a V := by
    obtain ⟨M, V, P, R, E, Y, T, S, C, H, W⟩ := G
    exact ⟨V, C.1.1⟩
  obtain ⟨V, HC⟩ := HC
  refine x_wvV d_L_law_913 lk_9_90 mo_X7_sew vi_X7_sew hv (o7_o HC) ⟨_, rfl, rfl⟩ rfl ⟨Nat.le_of_ble_eq_true rfl, Nat.le_of_ble_eq_true rfl⟩ (by show cu + 283 ≤ 600000; omega) (by show su + 6091 ≤ 7302250; omega) (Nat.le_of_ble_eq_true rfl) rfl (fun h2 hp e1 e2 => ?_)
  obtain ⟨⟨M2, H2⟩, hv2⟩ := hp
  refine x_aload_n rfl d_L_law_916 ?_
  refine x_aload_n rfl d_L_law_917 ?_
  refine x_iload_n rfl d_L_law_918 ?_
  refine x_iconst (v := nI 1) (by decide) d_L_law_919 ?_
  refine x_iaddN d_L_law_920 ?_
  refine x_lsld d_L_law_921 (e2.trans hB) (nIx_nI (j := i + 1) (by omega) (by omega)) ?_
  refine x_aload_n rfl d_L_law_922 ?_
  refine x_iload_n rfl d_L_law_923 ?_
  refine x_iconst (v := nI 2) (by decide) d_L_law_924 ?_
  refine x_iaddN d_L_law_925 ?_
  refine x_lsld d_L_law_926 (e2.trans hB) (nIx_nI (j := i + 2) (by omega) (by omega)) ?_
  refine x_wvV d_L_law_927 lk_9_93 mo_X8_sew vi_X8_sew hv2 (o8_o H2) ⟨_, rfl, rfl⟩ rfl ⟨Nat.le_of_ble_eq_true rfl, Nat.le_of_ble_eq_true rfl⟩ (by show cu + 283 + 0 ≤ 600000; omega) (by show su + 6091 + 0 ≤ 7302250; omega) (Nat.le_of_ble_eq_true rfl) rfl (fun h3 hp3 e3 e4 => ?_)
  refine x_icmp_eq (tgt := 1333) d_L_law_930 (by decide) (fun c_q => ?_) (fun c_q => by exfalso; exact c_q rfl)
  exact kk _ _ h3 (by show cu + 283 + 0 ≤ cu + 283; omega) (by show su + 6091 + 0 ≤ su + 6091; omega) (e4.trans (e2.trans hB)) hp3
theorem lw_c18 {sc L B a b i cu su : Nat} {xs : Nat → Int32} {h : nPH} (hL : L ≤ 3072) (hi : i + 6 ≤ L) (hB : h.2.1 = B) (G : wB h a b) (hcu : cu + 283 ≤ 600000) (hsu : su + 6091 ≤ 7302250) (kk : ∀ (cu2 su2 : Nat) (h2 : nPH), cu2 ≤ cu + 283 → su2 ≤ su + 6091 → h2.2.1 = B → wB h2 a b → nG YL_law (κL sc L xs B) cu2 su2 1333 [some (.ref (sc)), some (.ref (a)), some (.ref (b)), some (.int (nI (i)))] [] h2) : nG YL_law (κL sc L xs B) cu su 935 [some (.ref (sc)), some (.ref (a)), some (.ref (b)), some (.int (nI (i)))] [] h := by
  refine x_aload_n rfl d_L_law_935 ?_
  refine x_aload_n rfl d_L_law_936 ?_
  refine x_iload_n rfl d_L_law_937 ?_
  refine x_iconst (v := nI 1) (by decide) d_L_law_938 ?_
  refine x_iaddN d_L_law_939 ?_
  refine x_lsld d_L_law_940 hB (nIx_nI (j := i + 1) (by omega) (by omega)) ?_
  obtain ⟨v, hv⟩ := ct_match G (i := xs (i + 1))
  have HC : ∃ V, o7 h a V := by
    obtain ⟨M, V, P, R, E, Y, T, S, C, H, W⟩ := G
    exact ⟨V, C.1.1⟩
  obtain ⟨V, HC⟩ := HC
  refine x_wvV d_L_law_941 lk_9_94 mo_X7_match vi_X7_match hv (o7_o HC) ⟨_, rfl, rfl⟩ rfl ⟨Nat.le_of_ble_eq_true rfl, Nat.le_of_ble_eq_true rfl⟩ (by show cu + 0 ≤ 600000; omega) (by show su + 0 ≤ 7302250; omega) (Nat.le_of_ble_eq_true rfl) rfl (fun h2 hp e1 e2 => ?_)
  obtain ⟨⟨M2, H2⟩, hv2⟩ := hp
  refine x_aload_n rfl d_L_law_944 ?_
  refine x_aload_n rfl d_L_law_945 ?_
  refine x_iload_n rfl d_L_law_946 ?_
  refine x_iconst (v := nI 1) (by decide) d_L_law_947 ?_
  refine x_iaddN d_L_law_948 ?_
  refine x_lsld d_L_law_949 (e2.trans hB) (nIx_nI (j := i + 1) (by omega) (by omega)) ?_
  refine x_wvV d_L_law_950 lk_9_97 mo_X8_match vi_X8_match hv2 (o8_o H2) ⟨_, rfl, rfl⟩ rfl ⟨Nat.le_of_ble_eq_true rfl, Nat.le_of_ble_eq_true rfl⟩ (by show cu + 0 + 0 ≤ 600000; omega) (by show su + 0 + 0 ≤ 7302250; omega) (Nat.le_of_ble_eq_true rfl) rfl (fun h3 hp3 e3 e4 => ?_)
  refine x_icmp_eq (tgt := 1333) d_L_law_953 (by decide) (fun c_q => ?_) (fun c_q => by exfalso; exact c_q rfl)
  exact kk _ _ h3 (by show cu + 0 + 0 ≤ cu + 283; omega) (by show su + 0 + 0 ≤ su + 6091; omega) (e4.trans (e2.trans hB)) hp3
theorem lw_c19 {sc L B a b i cu su : Nat} {xs : Nat → Int32} {h : nPH} (hL : L ≤ 3072) (hi : i + 6 ≤ L) (hB : h.2.1 = B) (G : wB h a b) (hcu : cu + 283 ≤ 600000) (hsu : su + 6091 ≤ 7302250) (kk : ∀ (cu2 su2 : Nat) (h2 : nPH), cu2 ≤ cu + 283 → su2 ≤ su + 6091 → h2.2.1 = B → wB h2 a b → nG YL_law (κL sc L xs B) cu2 su2 1333 [some (.ref (sc)), some (.ref (a)), some (.ref (b)), some (.int (nI (i)))] [] h2) : nG YL_law (κL sc L xs B) cu su 958 [some (.ref (sc)), some (.ref (a)), some (.ref (b)), some (.int (nI (i)))] [] h := by
  refine x_aload_n rfl d_L_law_958 ?_
  refine x_aload_n rfl d_L_law_959 ?_
  refine x_iload_n rfl d_L_law_960 ?_
  refine x_iconst (v := nI 1) (by decide) d_L_law_961 ?_
  refine x_iaddN d_L_law_962 ?_
  refine x_lsld d_L_law_963 hB (nIx_nI (j := i + 1) (by omega) (by omega)) ?_
  refine x_aload_n rfl d_L_law_964 ?_
  refine x_iload_n rfl d_L_law_965 ?_
  refine x_iconst (v := nI 2) (by decide) d_L_law_966 ?_
  refine x_iaddN d_L_law_967 ?_
  refine x_lsld d_L_law_968 hB (nIx_nI (j := i + 2) (by omega) (by omega)) ?_
  refine x_aload_n rfl d_L_law_969 ?_
  refine x_iload_n rfl d_L_law_970 ?_
  refine x_iconst (v := nI 3) (by decide) d_L_law_971 ?_
  refine x_iaddN d_L_law_972 ?_
  refine x_lsld d_L_law_973 hB (nIx_nI (j := i + 3) (by omega) (by omega)) ?_
  obtain ⟨v, hv⟩ := ct_hang G (p := xs (i + 1)) (x := xs (i + 2)) (y := xs (i + 3))
  have HC : ∃ V, o7 h a V := by
    obtain ⟨M, V, P, R, E, Y, T, S, C, H, W⟩ := G
    exact ⟨V, C.1.1⟩
  obtain ⟨V, HC⟩ := HC
  refine x_wvV d_L_law_974 lk_9_98 mo_X7_hang vi_X7_hang hv (o7_o HC) ⟨_, rfl, rfl⟩ rfl ⟨Nat.le_of_ble_eq_true rfl, Nat.le_of_ble_eq_true rfl⟩ (by show cu + 0 ≤ 600000; omega) (by show su + 0 ≤ 7302250; omega) (Nat.le_of_ble_eq_true rfl) rfl (fun h2 hp e1 e2 => ?_)
  obtain ⟨⟨M2, H2⟩, hv2⟩ := hp
  refine x_aload_n rfl d_L_law_977 ?_
  refine x_aload_n rfl d_L_law_978 ?_
  refine x_iload_n rfl d_L_law_979 ?_
  refine x_iconst (v := nI 1) (by decide) d_L_law_980 ?_
  refine x_iaddN d_L_law_981 ?_
  refine x_lsld d_L_law_982 (e2.trans hB) (nIx_nI (j := i + 1) (by omega) (by omega)) ?_
  refine x_aload_n rfl d_L_law_983 ?_
  refine x_iload_n rfl d_L_law_984 ?_
  refine x_iconst (v := nI 2) (by decide) d_L_law_985 ?_
  refine x_iaddN d_L_law_986 ?_
  refine x_lsld d_L_law_987 (e2.trans hB) (nIx_nI (j := i + 2) (by omega) (by omega)) ?_
  refine x_aload_n rfl d_L_law_988 ?_
  refine x_iload_n rfl d_L_law_989 ?_
  refine x_iconst (v := nI 3) (by decide) d_L_law_990 ?_
  refine x_iaddN d_L_law_991 ?_
  refine x_lsld d_L_law_992 (e2.trans hB) (nIx_nI (j := i + 3) (by omega) (by omega)) ?_
  refine x_wvV d_L_law_993 lk_9_101 mo_X8_hang vi_X8_hang hv2 (o8_o H2) ⟨_, rfl, rfl⟩ rfl ⟨Nat.le_of_ble_eq_true rfl, Nat.le_of_ble_eq_true rfl⟩ (by show cu + 0 + 0 ≤ 600000; omega) (by show su + 0 + 0 ≤ 7302250; omega) (Nat.le_of_ble_eq_true rfl) rfl (fun h3 hp3 e3 e4 => ?_)
  refine x_icmp_eq (tgt := 1333) d_L_law_996 (by decide) (fun c_q => ?_) (fun c_q => by exfalso; exact c_q rfl)
  exact kk _ _ h3 (by show cu + 0 + 0 ≤ cu + 283; omega) (by show su + 0 + 0 ≤ su + 6091; omega) (e4.trans (e2.trans hB)) hp3
theorem lw_c20 {sc L B a b i cu su : Nat} {xs : Nat → Int32} {h : nPH} (hL : L ≤ 3072) (hi : i + 6 ≤ L) (hB : h.2.1 = B) (G : wB h a b) (hcu : cu + 283 ≤ 600000) (hsu : su + 6091 ≤ 7302250) (kk : ∀ (cu2 su2 : Nat) (h2 : nPH), cu2 ≤ cu + 283 → su2 ≤ su + 6091 → h2.2.1 = B → wB h2 a b → nG YL_law (κL sc L xs B) cu2 su2 1333 [some (.ref (sc)), some (.ref (a)), some (.ref (b)), some (.int (nI (i)))] [] h2) : nG YL_law (κL sc L xs B) cu su 1001 [some (.ref (sc)), some (.ref (a)), some (.ref (b)), some (.int (nI (i)))] [] h := by
  refine x_aload_n rfl d_L_law_1001 ?_
  refine x_aload_n rfl d_L_law_1002 ?_
  refine x_iload_n rfl d_L_law_1003 ?_
  refine x_iconst (v := nI 1) (by decide) d_L_law_1004 ?_
  refine x_iaddN d_L_law_1005 ?_
  refine x_lsld d_L_law_1006 hB (nIx_nI (j := i + 1) (by omega) (by omega)) ?_
  obtain ⟨v, hv⟩ := ct_parts G (n := xs (i + 1))
  have HC : ∃ V, o7 h a V := by
    obtain ⟨M, V, P, R, E, Y, T, S, C, H, W⟩ := G
    exact ⟨V, C.1.1⟩
  obtain ⟨V, HC⟩ := HC
  refine x_wvV d_L_law_1007 lk_9_102 mo_X7_parts vi_X7_parts hv (o7_o HC) ⟨_, rfl, rfl⟩ rfl ⟨Nat.le_of_ble_eq_true rfl, Nat.le_of_ble_eq_true rfl⟩ (by show cu + 0 ≤ 600000; omega) (by show su + 0 ≤ 7302250; omega) (Nat.le_of_ble_eq_true rfl) rfl (fun h2 hp e1 e2 => ?_)
  obtain ⟨⟨M2, H2⟩, hv2⟩ := hp
  refine x_aload_n rfl d_L_law_1010 ?_
  refine x_aload_n rfl d_L_law_1011 ?_
  refine x_iload_n rfl d_L_law_1012 ?_
  refine x_iconst (v := nI 1) (by decide) d_L_law_1013 ?_
  refine x_iaddN d_L_law_1014 ?_
  refine x_lsld d_L_law_1015 (e2.trans hB) (nIx_nI (j := i + 1) (by omega) (by omega)) ?_
  refine x_wvV d_L_law_1016 lk_9_106 mo_X8_parts vi_X8_parts hv2 (o8_o H2) ⟨_, rfl, rfl⟩ rfl ⟨Nat.le_of_ble_eq_true rfl, Nat.le_of_ble_eq_true rfl⟩ (by show cu + 0 + 0 ≤ 600000; omega) (by show su + 0 + 0 ≤ 7302250; omega) (Nat.le_of_ble_eq_true rfl) rfl (fun h3 hp3 e3 e4 => ?_)
  refine x_icmp_eq (tgt := 1333) d_L_law_1019 (by decide) (fun c_q => ?_) (fun c_q => by exfalso; exact c_q rfl)
  exact kk _ _ h3 (by show cu + 0 + 0 ≤ cu + 283; omega) (by show su + 0 + 0 ≤ su + 6091; omega) (e4.trans (e2.trans hB)) hp3
theorem lw_c21 {sc L B a b i cu su : Nat} {xs : Nat → Int32} {h : nPH} (hL : L ≤ 3072) (hi : i + 6 ≤ L) (hB : h.2.1 = B) (G : wB h a b) (hcu : cu + 283 ≤ 600000) (hsu : su + 6091 ≤ 7302250) (kk : ∀ (cu2 su2 : Nat) (h2 : nPH), cu2 ≤ cu + 283 → su2 ≤ su + 6091 → h2.2.1 = B → wB h2 a b → nG YL_law (κL sc L xs B) cu2 su2 1333 [some (.ref (sc)), some (.ref (a)), some (.ref (b)), some (.int (nI (i)))] [] h2) : nG YL_law (κL sc L xs B) cu su 1024 [some (.ref (sc)), some (.ref (a)), some (.ref (b)), some (.int (nI (i)))] [] h := by
  refine x_aload_n rfl d_L_law_1024 ?_
  refine x_aload_n rfl d_L_law_1025 ?_
  refine x_iload_n rfl d_L_law_1026 ?_
  refine x_iconst (v := nI 1) (by decide) d_L_law_1027 ?_
  refine x_iaddN d_L_law_1028 ?_
  refine x_lsld d_L_law_1029 hB (nIx_nI (j := i + 1) (by omega) (by omega)) ?_
  refine x_aload_n rfl d_L_law_1030 ?_
  refine x_iload_n rfl d_L_law_1031 ?_
  refine x_iconst (v := nI 2) (by decide) d_L_law_1032 ?_
  refine x_iaddN d_L_law_1033 ?_
  refine x_lsld d_L_law_1034 hB (nIx_nI (j := i + 2) (by omega) (by omega)) ?_
  obtain ⟨v, hv⟩ := ct_part G (i := xs (i + 1)) (v := xs (i + 2))
  have HC : ∃ V, o7 h a V := by
    obtain ⟨M, V, P, R, E, Y, T, S, C, H, W⟩ := G
    exact ⟨V, C.1.1⟩
  obtain ⟨V, HC⟩ := HC
  refine x_wvV d_L_law_1035 lk_9_107 mo_X7_part vi_X7_part hv (o7_o HC) ⟨_, rfl, rfl⟩ rfl ⟨Nat.le_of_ble_eq_true rfl, Nat.le_of_ble_eq_true rfl⟩ (by show cu + 0 ≤ 600000; omega) (by show su + 0 ≤ 7302250; omega) (Nat.le_of_ble_eq_true rfl) rfl (fun h2 hp e1 e2 => ?_)
  obtain ⟨⟨M2, H2⟩, hv2⟩ := hp
  refine x_aload_n rfl d_L_law_1038 ?_
  refine x_aload_n rfl d_L_law_1039 ?_
  refine x_iload_n rfl d_L_law_1040 ?_
  refine x_iconst (v := nI 1) (by decide) d_L_law_1041 ?_
  refine x_iaddN d_L_law_1042 ?_
  refine x_lsld d_L_law_1043 (e2.trans hB) (nIx_nI (j := i + 1) (by omega) (by omega)) ?_
  refine x_aload_n rfl d_L_law_1044 ?_
  refine x_iload_n rfl d_L_law_1045 ?_
  refine x_iconst (v := nI 2) (by decide) d_L_law_1046 ?_
  refine x_iaddN d_L_law_1047 ?_
  refine x_lsld d_L_law_1048 (e2.trans hB) (nIx_nI (j := i + 2) (by omega) (by omega)) ?_
  refine x_wvV d_L_law_1049 lk_9_110 mo_X8_part vi_X8_part hv2 (o8_o H2) ⟨_, rfl, rfl⟩ rfl ⟨Nat.le_of_ble_eq_true rfl, Nat.le_of_ble_eq_true rfl⟩ (by show cu + 0 + 0 ≤ 600000; omega) (by show su + 0 + 0 ≤ 7302250; omega) (Nat.le_of_ble_eq_true rfl) rfl (fun h3 hp3 e3 e4 => ?_)
  refine x_icmp_eq (tgt := 1333) d_L_law_1052 (by decide) (fun c_q => ?_) (fun c_q => by exfalso; exact c_q rfl)
  exact kk _ _ h3 (by show cu + 0 + 0 ≤ cu + 283; omega) (by show su + 0 + 0 ≤ su + 6091; omega) (e4.trans (e2.trans hB)) hp3
theorem lw_c22 {sc L B a b i cu su : Nat} {xs : Nat → Int32} {h : nPH} (hL : L ≤ 3072) (hi : i + 6 ≤ L) (hB : h.2.1 = B) (G : wB h a b) (hcu : cu + 283 ≤ 600000) (hsu : su + 6091 ≤ 7302250) (kk : ∀ (cu2 su2 : Nat) (h2 : nPH), cu2 ≤ cu + 283 → su2 ≤ su + 6091 → h2.2.1 = B → wB h2 a b → nG YL_law (κL sc L xs B) cu2 su2 1333 [some (.ref (sc)), some (.ref (a)), some (.ref (b)), some (.int (nI (i)))] [] h2) : nG YL_law (κL sc L xs B) cu su 1057 [some (.ref (sc)), some (.ref (a)), some (.ref (b)), some (.int (nI (i)))] [] h := by
  refine x_aload_n rfl d_L_law_1057 ?_
  refine x_aload_n rfl d_L_law_1058 ?_
  refine x_iload_n rfl d_L_law_1059 ?_
  refine x_iconst (v := nI 1) (by decide) d_L_law_1060 ?_
  refine x_iaddN d_L_law_1061 ?_
  refine x_lsld d_L_law_1062 hB (nIx_nI (j := i + 1) (by omega) (by omega)) ?_
  obtain ⟨v, hv⟩ := ct_open G (p := xs (i + 1))
  have HC : ∃ V, o7 h a V := by
    obtain ⟨M, V, P, R, E, Y, T, S, C, H, W⟩ := G
    exact ⟨V, C.1.1⟩
  obtain ⟨V, HC⟩ := HC
  refine x_wvV d_L_law_1063 lk_9_111 mo_X7_open vi_X7_open hv (o7_o HC) ⟨_, rfl, rfl⟩ rfl ⟨Nat.le_of_ble_eq_true rfl, Nat.le_of_ble_eq_true rfl⟩ (by show cu + 0 ≤ 600000; omega) (by show su + 0 ≤ 7302250; omega) (Nat.le_of_ble_eq_true rfl) rfl (fun h2 hp e1 e2 => ?_)
  obtain ⟨⟨M2, H2⟩, hv2⟩ := hp
  refine x_aload_n rfl d_L_law_1066 ?_
  refine x_aload_n rfl d_L_law_1067 ?_
  refine x_iload_n rfl d_L_law_1068 ?_
  refine x_iconst (v := nI 1) (by decide) d_L_law_1069 ?_
  refine x_iaddN d_L_law_1070 ?_
  refine x_lsld d_L_law_1071 (e2.trans hB) (nIx_nI (j := i + 1) (by omega) (by omega)) ?_
  refine x_wvV d_L_law_1072 lk_9_114 mo_X8_open vi_X8_open hv2 (o8_o H2) ⟨_, rfl, rfl⟩ rfl ⟨Nat.le_of_ble_eq_true rfl, Nat.le_of_ble_eq_true rfl⟩ (by show cu + 0 + 0 ≤ 600000; omega) (by show su + 0 + 0 ≤ 7302250; omega) (Nat.le_of_ble_eq_true rfl) rfl (fun h3 hp3 e3 e4 => ?_)
  refine x_icmp_eq (tgt := 1333) d_L_law_1075 (by decide) (fun c_q => ?_) (fun c_q => by exfalso; exact c_q rfl)
  exact kk _ _ h3 (by show cu + 0 + 0 ≤ cu + 283; omega) (by show su + 0 + 0 ≤ su + 6091; omega) (e4.trans (e2.trans hB)) hp3
theorem lw_c23 {sc L B a b i cu su : Nat} {xs : Nat → Int32} {h : nPH} (hL : L ≤ 3072) (hi : i + 6 ≤ L) (hB : h.2.1 = B) (G : wB h a b) (hcu : cu + 283 ≤ 600000) (hsu : su + 6091 ≤ 7302250) (kk : ∀ (cu2 su2 : Nat) (h2 : nPH), cu2 ≤ cu + 283 → su2 ≤ su + 6091 → h2.2.1 = B → wB h2 a b → nG YL_law (κL sc L xs B) cu2 su2 1333 [some (.ref (sc)), some (.ref (a)), some (.ref (b)), some (.int (nI (i)))] [] h2) : nG YL_law (κL sc L xs B) cu su 1080 [some (.ref (sc)), some (.ref (a)), some (.ref (b)), some (.int (nI (i)))] [] h := by
  refine x_aload_n rfl d_L_law_1080 ?_
  refine x_aload_n rfl d_L_law_1081 ?_
  refine x_iload_n rfl d_L_law_1082 ?_
  refine x_iconst (v := nI 1) (by decide) d_L_law_1083 ?_
  refine x_iaddN d_L_law_1084 ?_
  refine x_lsld d_L_law_1085 hB (nIx_nI (j := i + 1) (by omega) (by omega)) ?_
  refine x_aload_n rfl d_L_law_1086 ?_
  refine x_iload_n rfl d_L_law_1087 ?_
  refine x_iconst (v := nI 2) (by decide) d_L_law_1088 ?_
  refine x_iaddN d_L_law_1089 ?_
  refine x_lsld d_L_law_1090 hB (nIx_nI (j := i + 2) (by omega) (by omega)) ?_
  obtain ⟨v, hv⟩ := ct_slips G (p := xs (i + 1)) (g := xs (i + 2))
  have HC : ∃ V, o7 h a V := by
    obtain ⟨M, V, P, R, E, Y, T, S, C, H, W⟩ := G
    exact ⟨V, C.1.1⟩
  obtain ⟨V, HC⟩ := HC
  refine x_wvV d_L_law_1091 lk_9_115 mo_X7_slips vi_X7_slips hv (o7_o HC) ⟨_, rfl, rfl⟩ rfl ⟨Nat.le_of_ble_eq_true rfl, Nat.le_of_ble_eq_true rfl⟩ (by show cu + 0 ≤ 600000; omega) (by show su + 0 ≤ 7302250; omega) (Nat.le_of_ble_eq_true rfl) rfl (fun h2 hp e1 e2 => ?_)
  obtain ⟨⟨M2, H2⟩, hv2⟩ := hp
  refine x_aload_n rfl d_L_law_1094 ?_
  refine x_aload_n rfl d_L_law_1095 ?_
  refine x_iload_n rfl d_L_law_1096 ?_
  refine x_iconst (v := nI 1) (by decide) d_L_law_1097 ?_
  refine x_iaddN d_L_law_1098 ?_
  refine x_lsld d_L_law_1099 (e2.trans hB) (nIx_nI (j := i + 1) (by omega) (by omega)) ?_
  refine x_aload_n rfl d_L_law_1100 ?_
  refine x_iload_n rfl d_L_law_1101 ?_
  refine x_iconst (v := nI 2) (by decide) d_L_law_1102 ?_
  refine x_iaddN d_L_law_1103 ?_
  refine x_lsld d_L_law_1104 (e2.trans hB) (nIx_nI (j := i + 2) (by omega) (by omega)) ?_
  refine x_wvV d_L_law_1105 lk_9_118 mo_X8_slips vi_X8_slips hv2 (o8_o H2) ⟨_, rfl, rfl⟩ rfl ⟨Nat.le_of_ble_eq_true rfl, Nat.le_of_ble_eq_true rfl⟩ (by show cu + 0 + 0 ≤ 600000; omega) (by show su + 0 + 0 ≤ 7302250; omega) (Nat.le_of_ble_eq_true rfl) rfl (fun h3 hp3 e3 e4 => ?_)
  refine x_icmp_eq (tgt := 1333) d_L_law_1108 (by decide) (fun c_q => ?_) (fun c_q => by exfalso; exact c_q rfl)
  exact kk _ _ h3 (by show cu + 0 + 0 ≤ cu + 283; omega) (by show su + 0 + 0 ≤ su + 6091; omega) (e4.trans (e2.trans hB)) hp3
theorem lw_c24 {sc L B a b i cu su : Nat} {xs : Nat → Int32} {h : nPH} (hL : L ≤ 3072) (hi : i + 6 ≤ L) (hB : h.2.1 = B) (G : wB h a b) (hcu : cu + 283 ≤ 600000) (hsu : su + 6091 ≤ 7302250) (kk : ∀ (cu2 su2 : Nat) (h2 : nPH), cu2 ≤ cu + 283 → su2 ≤ su + 6091 → h2.2.1 = B → wB h2 a b → nG YL_law (κL sc L xs B) cu2 su2 1333 [some (.ref (sc)), some (.ref (a)), some (.ref (b)), some (.int (nI (i)))] [] h2) : nG YL_law (κL sc L xs B) cu su 1113 [some (.ref (sc)), some (.ref (a)), some (.ref (b)), some (.int (nI (i)))] [] h := by
  refine x_aload_n rfl d_L_law_1113 ?_
  refine x_aload_n rfl d_L_law_1114 ?_
  refine x_iload_n rfl d_L_law_1115 ?_
  refine x_iconst (v := nI 1) (by decide) d_L_law_1116 ?_
  refine x_iaddN d_L_law_1117 ?_
  refine x_lsld d_L_law_1118 hB (nIx_nI (j := i + 1) (by omega) (by omega)) ?_
  refine x_aload_n rfl d_L_law_1119 ?_
  refine x_iload_n rfl d_L_law_1120 ?_
  refine x_iconst (v := nI 2) (by decide) d_L_law_1121 ?_
  refine x_iaddN d_L_law_1122 ?_
  refine x_lsld d_L_law_1123 hB (nIx_nI (j := i + 2) (by omega) (by omega)) ?_
  refine x_aload_n rfl d_L_law_1124 ?_
  refine x_iload_n rfl d_L_law_1125 ?_
  refine x_iconst (v := nI 3) (by decide) d_L_law_1126 ?_
  refine x_iaddN d_L_law_1127 ?_
  refine x_lsld d_L_law_1128 hB (nIx_nI (j := i + 3) (by omega) (by omega)) ?_
  obtain ⟨v, hv⟩ := ct_pull G (p := xs (i + 1)) (k := xs (i + 2)) (v := xs (i + 3))
  have HC : ∃ V, o7 h a V := by
    obtain ⟨M, V, P, R, E, Y, T, S, C, H, W⟩ := G
    exact ⟨V, C.1.1⟩
  obtain ⟨V, HC⟩ := HC
  refine x_wvV d_L_law_1129 lk_9_119 mo_X7_pull vi_X7_pull hv (o7_o HC) ⟨_, rfl, rfl⟩ rfl ⟨Nat.le_of_ble_eq_true rfl, Nat.le_of_ble_eq_true rfl⟩ (by show cu + 0 ≤ 600000; omega) (by show su + 0 ≤ 7302250; omega) (Nat.le_of_ble_eq_true rfl) rfl (fun h2 hp e1 e2 => ?_)
  obtain ⟨⟨M2, H2⟩, hv2⟩ := hp
  refine x_aload_n rfl d_L_law_1132 ?_
  refine x_aload_n rfl d_L_law_1133 ?_
  refine x_iload_n rfl d_L_law_1134 ?_
  refine x_iconst (v := nI 1) (by decide) d_L_law_1135 ?_
  refine x_iaddN d_L_law_1136 ?_
  refine x_lsld d_L_law_1137 (e2.trans hB) (nIx_nI (j := i + 1) (by omega) (by omega)) ?_
  refine x_aload_n rfl d_L_law_1138 ?_
  refine x_iload_n rfl d_L_law_1139 ?_
  refine x_iconst (v := nI 2) (by decide) d_L_law_1140 ?_
  refine x_iaddN d_L_law_1141 ?_
  refine x_lsld d_L_law_1142 (e2.trans hB) (nIx_nI (j := i + 2) (by omega) (by omega)) ?_
  refine x_aload_n rfl d_L_law_1143 ?_
  refine x_iload_n rfl d_L_law_1144 ?_
  refine x_iconst (v := nI 3) (by decide) d_L_law_1145 ?_
  refine x_iaddN d_L_law_1146 ?_
  refine x_lsld d_L_law_1147 (e2.trans hB) (nIx_nI (j := i + 3) (by omega) (by omega)) ?_
  refine x_wvV d_L_law_1148 lk_9_122 mo_X8_pull vi_X8_pull hv2 (o8_o H2) ⟨_, rfl, rfl⟩ rfl ⟨Nat.le_of_ble_eq_true rfl, Nat.le_of_ble_eq_true rfl⟩ (by show cu + 0 + 0 ≤ 600000; omega) (by show su + 0 + 0 ≤ 7302250; omega) (Nat.le_of_ble_eq_true rfl) rfl (fun h3 hp3 e3 e4 => ?_)
  refine x_icmp_eq (tgt := 1333) d_L_law_1151 (by decide) (fun c_q => ?_) (fun c_q => by exfalso; exact c_q rfl)
  exact kk _ _ h3 (by show cu + 0 + 0 ≤ cu + 283; omega) (by show su + 0 + 0 ≤ su + 6091; omega) (e4.trans (e2.trans hB)) hp3
theorem lw_c25 {sc L B a b i cu su : Nat} {xs : Nat → Int32} {h : nPH} (hL : L ≤ 3072) (hi : i + 6 ≤ L) (hB : h.2.1 = B) (G : wB h a b) (hcu : cu + 283 ≤ 600000) (hsu : su + 6091 ≤ 7302250) (kk : ∀ (cu2 su2 : Nat) (h2 : nPH), cu2 ≤ cu + 283 → su2 ≤ su + 6091 → h2.2.1 = B → wB h2 a b → nG YL_law (κL sc L xs B) cu2 su2 1333 [some (.ref (sc)), some (.ref (a)), some (.ref (b)), some (.int (nI (i)))] [] h2) : nG YL_law (κL sc L xs B) cu su 1156 [some (.ref (sc)), some (.ref (a)), some (.ref (b)), some (.int (nI (i)))] [] h := by
  refine x_aload_n rfl d_L_law_1156 ?_
  refine x_aload_n rfl d_L_law_1157 ?_
  refine x_iload_n rfl d_L_law_1158 ?_
  refine x_iconst (v := nI 1) (by decide) d_L_law_1159 ?_
  refine x_iaddN d_L_law_1160 ?_
  refine x_lsld d_L_law_1161 hB (nIx_nI (j := i + 1) (by omega) (by omega)) ?_
  refine x_aload_n rfl d_L_law_1162 ?_
  refine x_iload_n rfl d_L_law_1163 ?_
  refine x_iconst (v := nI 2) (by decide) d_L_law_1164 ?_
  refine x_iaddN d_L_law_1165 ?_
  refine x_lsld d_L_law_1166 hB (nIx_nI (j := i + 2) (by omega) (by omega)) ?_
  refine x_aload_n rfl d_L_law_1167 ?_
  refine x_iload_n rfl d_L_law_1168 ?_
  refine x_iconst (v := nI 3) (by decide) d_L_law_1169 ?_
  refine x_iaddN d_L_law_1170 ?_
  refine x_lsld d_L_law_1171 hB (nIx_nI (j := i + 3) (by omega) (by omega)) ?_
  refine x_aload_n rfl d_L_law_1172 ?_
  refine x_iload_n rfl d_L_law_1173 ?_
  refine x_iconst (v := nI 4) (by decide) d_L_law_1174 ?_
  refine x_iaddN d_L_law_1175 ?_
  refine x_lsld d_L_law_1176 hB (nIx_nI (j := i + 4) (by omega) (by omega)) ?_
  obtain ⟨v, hv⟩ := ct_load G (p := xs (i + 1)) (r := xs (i + 2)) (k := xs (i + 3)) (c := xs (i + 4))
  have HC : ∃ V, o7 h a V := by
    obtain ⟨M, V, P, R, E, Y, T, S, C, H, W⟩ := G
    exact ⟨V, C.1.1⟩
  obtain ⟨V, HC⟩ := HC
  refine x_wvV d_L_law_1177 lk_9_123 mo_X7_load vi_X7_load hv (o7_o HC) ⟨_, rfl, rfl⟩ rfl ⟨Nat.le_of_ble_eq_true rfl, Nat.le_of_ble_eq_true rfl⟩ (by show cu + 0 ≤ 600000; omega) (by show su + 0 ≤ 7302250; omega) (Nat.le_of_ble_eq_true rfl) rfl (fun h2 hp e1 e2 => ?_)
  obtain ⟨⟨M2, H2⟩, hv2⟩ := hp
  refine x_aload_n rfl d_L_law_1180 ?_
  refine x_aload_n rfl d_L_law_1181 ?_
  refine x_iload_n rfl d_L_law_1182 ?_
  refine x_iconst (v := nI 1) (by decide) d_L_law_1183 ?_
  refine x_iaddN d_L_law_1184 ?_
  refine x_lsld d_L_law_1185 (e2.trans hB) (nIx_nI (j := i + 1) (by omega) (by omega)) ?_
  refine x_aload_n rfl d_L_law_1186 ?_
  refine x_iload_n rfl d_L_law_1187 ?_
  refine x_iconst (v := nI 2) (by decide) d_L_law_1188 ?_
  refine x_iaddN d_L_law_1189 ?_
  refine x_lsld d_L_law_1190 (e2.trans hB) (nIx_nI (j := i + 2) (by omega) (by omega)) ?_
  refine x_aload_n rfl d_L_law_1191 ?_
  refine x_iload_n rfl d_L_law_1192 ?_
  refine x_iconst (v := nI 3) (by decide) d_L_law_1193 ?_
  refine x_iaddN d_L_law_1194 ?_
  refine x_lsld d_L_law_1195 (e2.trans hB) (nIx_nI (j := i + 3) (by omega) (by omega)) ?_
  refine x_aload_n rfl d_L_law_1196 ?_
  refine x_iload_n rfl d_L_law_1197 ?_
  refine x_iconst (v := nI 4) (by decide) d_L_law_1198 ?_
  refine x_iaddN d_L_law_1199 ?_
  refine x_lsld d_L_law_1200 (e2.trans hB) (nIx_nI (j := i + 4) (by omega) (by omega)) ?_
  refine x_wvV d_L_law_1201 lk_9_126 mo_X8_load vi_X8_load hv2 (o8_o H2) ⟨_, rfl, rfl⟩ rfl ⟨Nat.le_of_ble_eq_true rfl, Nat.le_of_ble_eq_true rfl⟩ (by show cu + 0 + 0 ≤ 600000; omega) (by show su + 0 + 0 ≤ 7302250; omega) (Nat.le_of_ble_eq_true rfl) rfl (fun h3 hp3 e3 e4 => ?_)
  refine x_lcmp d_L_law_1204 ?_
  refine x_if_eq (tgt := 1333) d_L_law_1205 (by decide) (fun c_q => ?_) (fun c_q => by exfalso; exact c_q (lg_cmp_s v))
  exact kk _ _ h3 (by show cu + 0 + 0 ≤ cu + 283; omega) (by show su + 0 + 0 ≤ su + 6091; omega) (e4.trans (e2.trans hB)) hp3
theorem lw_c26 {sc L B a b i cu su : Nat} {xs : Nat → Int32} {h : nPH} (hL : L ≤ 3072) (hi : i + 6 ≤ L) (hB : h.2.1 = B) (G : wB h a b) (hcu : cu + 283 ≤ 600000) (hsu : su + 6091 ≤ 7302250) (kk : ∀ (cu2 su2 : Nat) (h2 : nPH), cu2 ≤ cu + 283 → su2 ≤ su + 6091 → h2.2.1 = B → wB h2 a b → nG YL_law (κL sc L xs B) cu2 su2 1333 [some (.ref (sc)), some (.ref (a)), some (.ref (b)), some (.int (nI (i)))] [] h2) : nG YL_law (κL sc L xs B) cu su 1210 [some (.ref (sc)), some (.ref (a)), some (.ref (b)), some (.int (nI (i)))] [] h := by
  refine x_aload_n rfl d_L_law_1210 ?_
  refine x_aload_n rfl d_L_law_1211 ?_
  refine x_iload_n rfl d_L_law_1212 ?_
  refine x_iconst (v := nI 1) (by decide) d_L_law_1213 ?_
  refine x_iaddN d_L_law_1214 ?_
  refine x_lsld d_L_law_1215 hB (nIx_nI (j := i + 1) (by omega) (by omega)) ?_
  refine x_aload_n rfl d_L_law_1216 ?_
  refine x_iload_n rfl d_L_law_1217 ?_
  refine x_iconst (v := nI 2) (by decide) d_L_law_1218 ?_
  refine x_iaddN d_L_law_1219 ?_
  refine x_lsld d_L_law_1220 hB (nIx_nI (j := i + 2) (by omega) (by omega)) ?_
  refine x_aload_n rfl d_L_law_1221 ?_
  refine x_iload_n rfl d_L_law_1222 ?_
  refine x_iconst (v := nI 3) (by decide) d_L_law_1223 ?_
  refine x_iaddN d_L_law_1224 ?_
  refine x_lsld d_L_law_1225 hB (nIx_nI (j := i + 3) (by omega) (by omega)) ?_
  obtain ⟨v, hv⟩ := ct_sum G (p := xs (i + 1)) (q := xs (i + 2)) (c := xs (i + 3))
  have HC : ∃ V, o7 h a V := by
    obtain ⟨M, V, P, R, E, Y, T, S, C, H, W⟩ := G
    exact ⟨V, C.1.1⟩
  obtain ⟨V, HC⟩ := HC
  refine x_wvV d_L_law_1226 lk_9_127 mo_X7_sum vi_X7_sum hv (o7_o HC) ⟨_, rfl, rfl⟩ rfl ⟨Nat.le_of_ble_eq_true rfl, Nat.le_of_ble_eq_true rfl⟩ (by show cu + 0 ≤ 600000; omega) (by show su + 0 ≤ 7302250; omega) (Nat.le_of_ble_eq_true rfl) rfl (fun h2 hp e1 e2 => ?_)
  obtain ⟨⟨M2, H2⟩, hv2⟩ := hp
  refine x_aload_n rfl d_L_law_1229 ?_
  refine x_aload_n rfl d_L_law_1230 ?_
  refine x_iload_n rfl d_L_law_1231 ?_
  refine x_iconst (v := nI 1) (by decide) d_L_law_1232 ?_
  refine x_iaddN d_L_law_1233 ?_
  refine x_lsld d_L_law_1234 (e2.trans hB) (nIx_nI (j := i + 1) (by omega) (by omega)) ?_
  refine x_aload_n rfl d_L_law_1235 ?_
  refine x_iload_n rfl d_L_law_1236 ?_
  refine x_iconst (v := nI 2) (by decide) d_L_law_1237 ?_
  refine x_iaddN d_L_law_1238 ?_
  refine x_lsld d_L_law_1239 (e2.trans hB) (nIx_nI (j := i + 2) (by omega) (by omega)) ?_
  refine x_aload_n rfl d_L_law_1240 ?_
  refine x_iload_n rfl d_L_law_1241 ?_
  refine x_iconst (v := nI 3) (by decide) d_L_law_1242 ?_
  refine x_iaddN d_L_law_1243 ?_
  refine x_lsld d_L_law_1244 (e2.trans hB) (nIx_nI (j := i + 3) (by omega) (by omega)) ?_
  refine x_wvV d_L_law_1245 lk_9_131 mo_X8_sum vi_X8_sum hv2 (o8_o H2) ⟨_, rfl, rfl⟩ rfl ⟨Nat.le_of_ble_eq_true rfl, Nat.le_of_ble_eq_true rfl⟩ (by show cu + 0 + 0 ≤ 600000; omega) (by show su + 0 + 0 ≤ 7302250; omega) (Nat.le_of_ble_eq_true rfl) rfl (fun h3 hp3 e3 e4 => ?_)
  refine x_lcmp d_L_law_1248 ?_
  refine x_if_eq (tgt := 1333) d_L_law_1249 (by decide) (fun c_q => ?_) (fun c_q => by exfalso; exact c_q (lg_cmp_s v))
  exact kk _ _ h3 (by show cu + 0 + 0 ≤ cu + 283; omega) (by show su + 0 + 0 ≤ su + 6091; omega) (e4.trans (e2.trans hB)) hp3
theorem lw_c27 {sc L B a b i cu su : Nat} {xs : Nat → Int32} {h : nPH} (hL : L ≤ 3072) (hi : i + 6 ≤ L) (hB : h.2.1 = B) (G : wB h a b) (hcu : cu + 283 ≤ 600000) (hsu : su + 6091 ≤ 7302250) (kk : ∀ (cu2 su2 : Nat) (h2 : nPH), cu2 ≤ cu + 283 → su2 ≤ su + 6091 → h2.2.1 = B → wB h2 a b → nG YL_law (κL sc L xs B) cu2 su2 1333 [some (.ref (sc)), some (.ref (a)), some (.ref (b)), some (.int (nI (i)))] [] h2) : nG YL_law (κL sc L xs B) cu su 1254 [some (.ref (sc)), some (.ref (a)), some (.ref (b)), some (.int (nI (i)))] [] h := by
  refine x_aload_n rfl d_L_law_1254 ?_
  refine x_aload_n rfl d_L_law_1255 ?_
  refine x_iload_n rfl d_L_law_1256 ?_
  refine x_iconst (v := nI 1) (by decide) d_L_law_1257 ?_
  refine x_iaddN d_L_law_1258 ?_
  refine x_lsld d_L_law_1259 hB (nIx_nI (j := i + 1) (by omega) (by omega)) ?_
  obtain ⟨v, hv⟩ := ct_weak G (p := xs (i + 1))
  have HC : ∃ V, o7 h a V := by
    obtain ⟨M, V, P, R, E, Y, T, S, C, H, W⟩ := G
    exact ⟨V, C.1.1⟩
  obtain ⟨V, HC⟩ := HC
  refine x_wvV d_L_law_1260 lk_9_132 mo_X7_weak vi_X7_weak hv (o7_o HC) ⟨_, rfl, rfl⟩ rfl ⟨Nat.le_of_ble_eq_true rfl, Nat.le_of_ble_eq_true rfl⟩ (by show cu + 0 ≤ 600000; omega) (by show su + 0 ≤ 7302250; omega) (Nat.le_of_ble_eq_true rfl) rfl (fun h2 hp e1 e2 => ?_)
  obtain ⟨⟨M2, H2⟩, hv2⟩ := hp
  refine x_aload_n rfl d_L_law_1263 ?_
  refine x_aload_n rfl d_L_law_1264 ?_
  refine x_iload_n rfl d_L_law_1265 ?_
  refine x_iconst (v := nI 1) (by decide) d_L_law_1266 ?_
  refine x_iaddN d_L_law_1267 ?_
  refine x_lsld d_L_law_1268 (e2.trans hB) (nIx_nI (j := i + 1) (by omega) (by omega)) ?_
  refine x_wvV d_L_law_1269 lk_9_135 mo_X8_weak vi_X8_weak hv2 (o8_o H2) ⟨_, rfl, rfl⟩ rfl ⟨Nat.le_of_ble_eq_true rfl, Nat.le_of_ble_eq_true rfl⟩ (by show cu + 0 + 0 ≤ 600000; omega) (by show su + 0 + 0 ≤ 7302250; omega) (Nat.le_of_ble_eq_true rfl) rfl (fun h3 hp3 e3 e4 => ?_)
  refine x_icmp_eq (tgt := 1333) d_L_law_1272 (by decide) (fun c_q => ?_) (fun c_q => by exfalso; exact c_q rfl)
  exact kk _ _ h3 (by show cu + 0 + 0 ≤ cu + 283; omega) (by show su + 0 + 0 ≤ su + 6091; omega) (e4.trans (e2.trans hB)) hp3
theorem lw_c28 {sc L B a b i cu su : Nat} {xs : Nat → Int32} {h : nPH} (hL : L ≤ 3072) (hi : i + 6 ≤ L) (hB : h.2.1 = B) (G : wB h a b) (hcu : cu + 283 ≤ 600000) (hsu : su + 6091 ≤ 7302250) (kk : ∀ (cu2 su2 : Nat) (h2 : nPH), cu2 ≤ cu + 283 → su2 ≤ su + 6091 → h2.2.1 = B → wB h2 a b → nG YL_law (κL sc L xs B) cu2 su2 1333 [some (.ref (sc)), some (.ref (a)), some (.ref (b)), some (.int (nI (i)))] [] h2) : nG YL_law (κL sc L xs B) cu su 1277 [some (.ref (sc)), some (.ref (a)), some (.ref (b)), some (.int (nI (i)))] [] h := by
  refine x_aload_n rfl d_L_law_1277 ?_
  refine x_aload_n rfl d_L_law_1278 ?_
  refine x_iload_n rfl d_L_law_1279 ?_
  refine x_iconst (v := nI 1) (by decide) d_L_law_1280 ?_
  refine x_iaddN d_L_law_1281 ?_
  refine x_lsld d_L_law_1282 hB (nIx_nI (j := i + 1) (by omega) (by omega)) ?_
  obtain ⟨v, hv⟩ := ct_count G (c := xs (i + 1))
  have HC : ∃ V, o7 h a V := by
    obtain ⟨M, V, P, R, E, Y, T, S, C, H, W⟩ := G
    exact ⟨V, C.1.1⟩
  obtain ⟨V, HC⟩ := HC
  refine x_wvV d_L_law_1283 lk_9_136 mo_X7_count vi_X7_count hv (o7_o HC) ⟨_, rfl, rfl⟩ rfl ⟨Nat.le_of_ble_eq_true rfl, Nat.le_of_ble_eq_true rfl⟩ (by show cu + 0 ≤ 600000; omega) (by show su + 0 ≤ 7302250; omega) (Nat.le_of_ble_eq_true rfl) rfl (fun h2 hp e1 e2 => ?_)
  obtain ⟨⟨M2, H2⟩, hv2⟩ := hp
  refine x_aload_n rfl d_L_law_1286 ?_
  refine x_aload_n rfl d_L_law_1287 ?_
  refine x_iload_n rfl d_L_law_1288 ?_
  refine x_iconst (v := nI 1) (by decide) d_L_law_1289 ?_
  refine x_iaddN d_L_law_1290 ?_
  refine x_lsld d_L_law_1291 (e2.trans hB) (nIx_nI (j := i + 1) (by omega) (by omega)) ?_
  refine x_wvV d_L_law_1292 lk_9_139 mo_X8_count vi_X8_count hv2 (o8_o H2) ⟨_, rfl, rfl⟩ rfl ⟨Nat.le_of_ble_eq_true rfl, Nat.le_of_ble_eq_true rfl⟩ (by show cu + 0 + 0 ≤ 600000; omega) (by show su + 0 + 0 ≤ 7302250; omega) (Nat.le_of_ble_eq_true rfl) rfl (fun h3 hp3 e3 e4 => ?_)
  refine x_icmp_eq (tgt := 1333) d_L_law_1295 (by decide) (fun c_q => ?_) (fun c_q => by exfalso; exact c_q rfl)
  exact kk _ _ h3 (by show cu + 0 + 0 ≤ cu + 283; omega) (by show su + 0 + 0 ≤ su + 6091; omega) (e4.trans (e2.trans hB)) hp3
theorem lw_c29 {sc L B a b i cu su : Nat} {xs : Nat → Int32} {h : nPH} (hL : L ≤ 3072) (hi : i + 6 ≤ L) (hB : h.2.1 = B) (G : wB h a b) (hcu : cu + 283 ≤ 600000) (hsu : su + 6091 ≤ 7302250) (kk : ∀ (cu2 su2 : Nat) (h2 : nPH), cu2 ≤ cu + 283 → su2 ≤ su + 6091 → h2.2.1 = B → wB h2 a b → nG YL_law (κL sc L xs B) cu2 su2 1333 [some (.ref (sc)), some (.ref (a)), some (.ref (b)), some (.int (nI (i)))] [] h2) : nG YL_law (κL sc L xs B) cu su 1300 [some (.ref (sc)), some (.ref (a)), some (.ref (b)), some (.int (nI (i)))] [] h := by
  refine x_aload_n rfl d_L_law_1300 ?_
  refine x_aload_n rfl d_L_law_1301 ?_
  refine x_iload_n rfl d_L_law_1302 ?_
  refine x_iconst (v := nI 1) (by decide) d_L_law_1303 ?_
  refine x_iaddN d_L_law_1304 ?_
  refine x_lsld d_L_law_1305 hB (nIx_nI (j := i + 1) (by omega) (by omega)) ?_
  refine x_aload_n rfl d_L_law_1306 ?_
  refine x_iload_n rfl d_L_law_1307 ?_
  refine x_iconst (v := nI 2) (by decide) d_L_law_1308 ?_
  refine x_iaddN d_L_law_1309 ?_
  refine x_lsld d_L_law_1310 hB (nIx_nI (j := i + 2) (by omega) (by omega)) ?_
  obtain ⟨v, hv⟩ := ct_panelOf G (p := xs (i + 1)) (c := xs (i + 2))
  have HC : ∃ V, o7 h a V := by
    obtain ⟨M, V, P, R, E, Y, T, S, C, H, W⟩ := G
    exact ⟨V, C.1.1⟩
  obtain ⟨V, HC⟩ := HC
  refine x_wvV d_L_law_1311 lk_9_140 mo_X7_panelOf vi_X7_panelOf hv (o7_o HC) ⟨_, rfl, rfl⟩ rfl ⟨Nat.le_of_ble_eq_true rfl, Nat.le_of_ble_eq_true rfl⟩ (by show cu + 0 ≤ 600000; omega) (by show su + 0 ≤ 7302250; omega) (Nat.le_of_ble_eq_true rfl) rfl (fun h2 hp e1 e2 => ?_)
  obtain ⟨⟨M2, H2⟩, hv2⟩ := hp
  refine x_aload_n rfl d_L_law_1314 ?_
  refine x_aload_n rfl d_L_law_1315 ?_
  refine x_iload_n rfl d_L_law_1316 ?_
  refine x_iconst (v := nI 1) (by decide) d_L_law_1317 ?_
  refine x_iaddN d_L_law_1318 ?_
  refine x_lsld d_L_law_1319 (e2.trans hB) (nIx_nI (j := i + 1) (by omega) (by omega)) ?_
  refine x_aload_n rfl d_L_law_1320 ?_
  refine x_iload_n rfl d_L_law_1321 ?_
  refine x_iconst (v := nI 2) (by decide) d_L_law_1322 ?_
  refine x_iaddN d_L_law_1323 ?_
  refine x_lsld d_L_law_1324 (e2.trans hB) (nIx_nI (j := i + 2) (by omega) (by omega)) ?_
  refine x_wvV d_L_law_1325 lk_9_143 mo_X8_panelOf vi_X8_panelOf hv2 (o8_o H2) ⟨_, rfl, rfl⟩ rfl ⟨Nat.le_of_ble_eq_true rfl, Nat.le_of_ble_eq_true rfl⟩ (by show cu + 0 + 0 ≤ 600000; omega) (by show su + 0 + 0 ≤ 7302250; omega) (Nat.le_of_ble_eq_true rfl) rfl (fun h3 hp3 e3 e4 => ?_)
  refine x_icmp_eq (tgt := 1333) d_L_law_1328 (by decide) (fun c_q => ?_) (fun c_q => by exfalso; exact c_q rfl)
  exact kk _ _ h3 (by show cu + 0 + 0 ≤ cu + 283; omega) (by show su + 0 + 0 ≤ su + 6091; omega) (e4.trans (e2.trans hB)) hp3
