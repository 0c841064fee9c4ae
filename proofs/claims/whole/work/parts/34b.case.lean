/-! The law's cases: putRange. -/
section XL34b
theorem ww_putRange : xwW 77 y_L_putRange b_L_putRange 9 [(0, 13, 16, 13), (0, 13, 20, 15)] 5 := ⟨⟨by decide, by decide, by decide +kernel⟩, cw_L_putRange, in_L_ini, lk_L_putRange, st_L_putRange⟩
set_option maxHeartbeats 4000000 in
set_option maxRecDepth 100000 in
theorem k_putRange {p : Program} {l : Launch} {e : Env} {s : State} {m : MethodId} {below : List Frame} {meth : Method} {c : Code} {scr L : Nat} {xs : Nat → Int32} {D : va_G} {x w b r o : Nat} {cJ cZ : ClassId} {β : Nat → Bool} {n q : Nat} {f : Nat → Int64} {fa : Int32} {rd : Nat} {gd : Bool} {H : Heap} {ls : Array Slot} (C : xCx p l s m c scr L xs D x w b r o cJ cZ) (j : Nat) (hj : 7 * j + 7 ≤ L) (hok : xok (β, n, q)) (hP : PX D x w cJ β n q H) (hPM : PM D b r cZ β n q fa rd gd H) (hO : xOut D o cJ f H) (hS : va_S (xnew s) s.heap H []) (hl : lv_has ls 8 [(4, .int (nI (7 * j))), (3, .ref o), (2, .ref b), (1, .ref x), (0, .ref scr)])
    (next : xNext p l e s m below meth c scr D x w b r o cJ cZ j) :
    W p l e room_1 s m #[Value.ref scr] below meth c H [] (5 + j) (66570 + 6 * j) (lw_Z below #[Value.ref scr] s) (F0 m 208 ls []) := by
  have C0 := C
  obtain ⟨E, hL, hK, hN, hQ0, hX, hsc, hLb, hap⟩ := C
  have hbA : ¬ xnew s scr := fun z => Nat.not_le.mpr hsc z
  refine lv_aload_n E.1 E.2.1 d_L_law_208 rfl (lv_at hl 3 rfl) ?_
  refine lv_aload_n E.1 E.2.1 d_L_law_209 rfl (lv_at hl 4 rfl) ?_
  refine lv_iload E.1 E.2.1 d_L_law_210 (lv_at hl 0 rfl) ?_
  refine lv_iconst (v := 1) E.1 E.2.1 d_L_law_212 (by decide) ?_
  refine lv_iadd E.1 E.2.1 d_L_law_213 ?_
  refine xl_ti (y := nI (7 * j + 1)) (nI_add (7 * j) 1) ?_
  refine va_sld E.1 E.2.1 hX hsc hbA hS (vp_in_nI (n := 7 * j + 1) (by omega) (by omega)) d_L_law_214 ?_
  refine xl_ti (y := xs (7 * j + 1)) (by rw [nI_clamp (by omega)]) ?_
  refine lv_i2l (v := (xs (7 * j + 1)).toInt64) E.1 E.2.1 d_L_law_215 rfl ?_
  refine lv_bipush (v := 32) E.1 E.2.1 d_L_law_216 (by decide) ?_
  refine lv_lshl (v := xsl ((xs (7 * j + 1)).toInt64) 32) E.1 E.2.1 d_L_law_218 rfl ?_
  refine lv_aload_n E.1 E.2.1 d_L_law_219 rfl (lv_at hl 4 rfl) ?_
  refine lv_iload E.1 E.2.1 d_L_law_220 (lv_at hl 0 rfl) ?_
  refine lv_iconst (v := 2) E.1 E.2.1 d_L_law_222 (by decide) ?_
  refine lv_iadd E.1 E.2.1 d_L_law_223 ?_
  refine xl_ti (y := nI (7 * j + 2)) (nI_add (7 * j) 2) ?_
  refine va_sld E.1 E.2.1 hX hsc hbA hS (vp_in_nI (n := 7 * j + 2) (by omega) (by omega)) d_L_law_224 ?_
  refine xl_ti (y := xs (7 * j + 2)) (by rw [nI_clamp (by omega)]) ?_
  refine lv_i2l (v := (xs (7 * j + 2)).toInt64) E.1 E.2.1 d_L_law_225 rfl ?_
  refine lv_ldc2 (v := 4294967295) E.1 E.2.1 E.2.2.2.1 (E.2.2.2.2 _ co_L_66) d_L_law_226 ?_
  refine lv_land E.1 E.2.1 d_L_law_229 ?_
  refine lv_lor E.1 E.2.1 d_L_law_230 ?_
  refine lv_aload_n E.1 E.2.1 d_L_law_231 rfl (lv_at hl 4 rfl) ?_
  refine lv_iload E.1 E.2.1 d_L_law_232 (lv_at hl 0 rfl) ?_
  refine lv_iconst (v := 3) E.1 E.2.1 d_L_law_234 (by decide) ?_
  refine lv_iadd E.1 E.2.1 d_L_law_235 ?_
  refine xl_ti (y := nI (7 * j + 3)) (nI_add (7 * j) 3) ?_
  refine va_sld E.1 E.2.1 hX hsc hbA hS (vp_in_nI (n := 7 * j + 3) (by omega) (by omega)) d_L_law_236 ?_
  refine xl_ti (y := xs (7 * j + 3)) (by rw [nI_clamp (by omega)]) ?_
  refine lv_i2l (v := (xs (7 * j + 3)).toInt64) E.1 E.2.1 d_L_law_237 rfl ?_
  refine lv_bipush (v := 32) E.1 E.2.1 d_L_law_238 (by decide) ?_
  refine lv_lshl (v := xsl ((xs (7 * j + 3)).toInt64) 32) E.1 E.2.1 d_L_law_240 rfl ?_
  refine lv_aload_n E.1 E.2.1 d_L_law_241 rfl (lv_at hl 4 rfl) ?_
  refine lv_iload E.1 E.2.1 d_L_law_242 (lv_at hl 0 rfl) ?_
  refine lv_iconst (v := 4) E.1 E.2.1 d_L_law_244 (by decide) ?_
  refine lv_iadd E.1 E.2.1 d_L_law_245 ?_
  refine xl_ti (y := nI (7 * j + 4)) (nI_add (7 * j) 4) ?_
  refine va_sld E.1 E.2.1 hX hsc hbA hS (vp_in_nI (n := 7 * j + 4) (by omega) (by omega)) d_L_law_246 ?_
  refine xl_ti (y := xs (7 * j + 4)) (by rw [nI_clamp (by omega)]) ?_
  refine lv_i2l (v := (xs (7 * j + 4)).toInt64) E.1 E.2.1 d_L_law_247 rfl ?_
  refine lv_ldc2 (v := 4294967295) E.1 E.2.1 E.2.2.2.1 (E.2.2.2.2 _ co_L_66) d_L_law_248 ?_
  refine lv_land E.1 E.2.1 d_L_law_251 ?_
  refine lv_lor E.1 E.2.1 d_L_law_252 ?_
  refine lv_aload_n E.1 E.2.1 d_L_law_253 rfl (lv_at hl 4 rfl) ?_
  refine lv_iload E.1 E.2.1 d_L_law_254 (lv_at hl 0 rfl) ?_
  refine lv_iconst (v := 5) E.1 E.2.1 d_L_law_256 (by decide) ?_
  refine lv_iadd E.1 E.2.1 d_L_law_257 ?_
  refine xl_ti (y := nI (7 * j + 5)) (nI_add (7 * j) 5) ?_
  refine va_sld E.1 E.2.1 hX hsc hbA hS (vp_in_nI (n := 7 * j + 5) (by omega) (by omega)) d_L_law_258 ?_
  refine xl_ti (y := xs (7 * j + 5)) (by rw [nI_clamp (by omega)]) ?_
  refine lv_i2l (v := (xs (7 * j + 5)).toInt64) E.1 E.2.1 d_L_law_259 rfl ?_
  refine lv_bipush (v := 32) E.1 E.2.1 d_L_law_260 (by decide) ?_
  refine lv_lshl (v := xsl ((xs (7 * j + 5)).toInt64) 32) E.1 E.2.1 d_L_law_262 rfl ?_
  refine lv_aload_n E.1 E.2.1 d_L_law_263 rfl (lv_at hl 4 rfl) ?_
  refine lv_iload E.1 E.2.1 d_L_law_264 (lv_at hl 0 rfl) ?_
  refine lv_bipush (v := 6) E.1 E.2.1 d_L_law_266 (by decide) ?_
  refine lv_iadd E.1 E.2.1 d_L_law_268 ?_
  refine xl_ti (y := nI (7 * j + 6)) (nI_add (7 * j) 6) ?_
  refine va_sld E.1 E.2.1 hX hsc hbA hS (vp_in_nI (n := 7 * j + 6) (by omega) (by omega)) d_L_law_269 ?_
  refine xl_ti (y := xs (7 * j + 6)) (by rw [nI_clamp (by omega)]) ?_
  refine lv_i2l (v := (xs (7 * j + 6)).toInt64) E.1 E.2.1 d_L_law_270 rfl ?_
  refine lv_ldc2 (v := 4294967295) E.1 E.2.1 E.2.2.2.1 (E.2.2.2.2 _ co_L_66) d_L_law_271 ?_
  refine lv_land E.1 E.2.1 d_L_law_274 ?_
  refine lv_lor E.1 E.2.1 d_L_law_275 ?_
  refine lv_aload_n E.1 E.2.1 d_L_law_276 rfl (lv_at hl 1 rfl) ?_
  refine xk_wrap C0 (l_putRange l hL D x w o cJ cZ β n q f hok.1 hok.2 hap.2.1.1 hap.2.2.1.1 hap.2.2.1.2.1 ((xsl ((xs (7 * j + 1)).toInt64) 32) ||| (((xs (7 * j + 2)).toInt64) &&& 4294967295)) ((xsl ((xs (7 * j + 3)).toInt64) 32) ||| (((xs (7 * j + 4)).toInt64) &&& 4294967295)) ((xsl ((xs (7 * j + 5)).toInt64) 32) ||| (((xs (7 * j + 6)).toInt64) &&& 4294967295))) ww_putRange (by decide) hP hPM hO hS rfl hl.1 rfl (Nat.le_of_ble_eq_true rfl) (by omega) (by omega) d_L_law_277 (fun H1 f1 hf1 hP1 hPM1 hO1 hS1 => ?_)
  clear hP hPM hO hS
  have hS := hS1
  refine W.eq (g2 := F0 m 280 ls [.int (nI (sp_putRange (β, n, q) ((xsl ((xs (7 * j + 1)).toInt64) 32) ||| (((xs (7 * j + 2)).toInt64) &&& 4294967295)) ((xsl ((xs (7 * j + 3)).toInt64) 32) ||| (((xs (7 * j + 4)).toInt64) &&& 4294967295)) ((xsl ((xs (7 * j + 5)).toInt64) 32) ||| (((xs (7 * j + 6)).toInt64) &&& 4294967295))).1)]) rfl ?_
  refine lv_istore E.1 E.2.1 d_L_law_280 hl (by decide) rfl (fun ls hl => ?_)
  have hl : lv_has ls 8 [(5, .int (nI (sp_putRange (β, n, q) ((xsl ((xs (7 * j + 1)).toInt64) 32) ||| (((xs (7 * j + 2)).toInt64) &&& 4294967295)) ((xsl ((xs (7 * j + 3)).toInt64) 32) ||| (((xs (7 * j + 4)).toInt64) &&& 4294967295)) ((xsl ((xs (7 * j + 5)).toInt64) 32) ||| (((xs (7 * j + 6)).toInt64) &&& 4294967295))).1)), (4, .int (nI (7 * j))), (3, .ref o), (2, .ref b), (1, .ref x), (0, .ref scr)] := hl
  refine lv_aload_n E.1 E.2.1 d_L_law_282 rfl (lv_at hl 3 rfl) ?_
  refine lv_aload_n E.1 E.2.1 d_L_law_283 rfl (lv_at hl 5 rfl) ?_
  refine lv_iload E.1 E.2.1 d_L_law_284 (lv_at hl 1 rfl) ?_
  refine lv_iconst (v := 1) E.1 E.2.1 d_L_law_286 (by decide) ?_
  refine lv_iadd E.1 E.2.1 d_L_law_287 ?_
  refine xl_ti (y := nI (7 * j + 1)) (nI_add (7 * j) 1) ?_
  refine va_sld E.1 E.2.1 hX hsc hbA hS (vp_in_nI (n := 7 * j + 1) (by omega) (by omega)) d_L_law_288 ?_
  refine xl_ti (y := xs (7 * j + 1)) (by rw [nI_clamp (by omega)]) ?_
  refine lv_i2l (v := (xs (7 * j + 1)).toInt64) E.1 E.2.1 d_L_law_289 rfl ?_
  refine lv_bipush (v := 32) E.1 E.2.1 d_L_law_290 (by decide) ?_
  refine lv_lshl (v := xsl ((xs (7 * j + 1)).toInt64) 32) E.1 E.2.1 d_L_law_292 rfl ?_
  refine lv_aload_n E.1 E.2.1 d_L_law_293 rfl (lv_at hl 5 rfl) ?_
  refine lv_iload E.1 E.2.1 d_L_law_294 (lv_at hl 1 rfl) ?_
  refine lv_iconst (v := 2) E.1 E.2.1 d_L_law_296 (by decide) ?_
  refine lv_iadd E.1 E.2.1 d_L_law_297 ?_
  refine xl_ti (y := nI (7 * j + 2)) (nI_add (7 * j) 2) ?_
  refine va_sld E.1 E.2.1 hX hsc hbA hS (vp_in_nI (n := 7 * j + 2) (by omega) (by omega)) d_L_law_298 ?_
  refine xl_ti (y := xs (7 * j + 2)) (by rw [nI_clamp (by omega)]) ?_
  refine lv_i2l (v := (xs (7 * j + 2)).toInt64) E.1 E.2.1 d_L_law_299 rfl ?_
  refine lv_ldc2 (v := 4294967295) E.1 E.2.1 E.2.2.2.1 (E.2.2.2.2 _ co_L_66) d_L_law_300 ?_
  refine lv_land E.1 E.2.1 d_L_law_303 ?_
  refine lv_lor E.1 E.2.1 d_L_law_304 ?_
  refine lv_aload_n E.1 E.2.1 d_L_law_305 rfl (lv_at hl 5 rfl) ?_
  refine lv_iload E.1 E.2.1 d_L_law_306 (lv_at hl 1 rfl) ?_
  refine lv_iconst (v := 3) E.1 E.2.1 d_L_law_308 (by decide) ?_
  refine lv_iadd E.1 E.2.1 d_L_law_309 ?_
  refine xl_ti (y := nI (7 * j + 3)) (nI_add (7 * j) 3) ?_
  refine va_sld E.1 E.2.1 hX hsc hbA hS (vp_in_nI (n := 7 * j + 3) (by omega) (by omega)) d_L_law_310 ?_
  refine xl_ti (y := xs (7 * j + 3)) (by rw [nI_clamp (by omega)]) ?_
  refine lv_i2l (v := (xs (7 * j + 3)).toInt64) E.1 E.2.1 d_L_law_311 rfl ?_
  refine lv_bipush (v := 32) E.1 E.2.1 d_L_law_312 (by decide) ?_
  refine lv_lshl (v := xsl ((xs (7 * j + 3)).toInt64) 32) E.1 E.2.1 d_L_law_314 rfl ?_
  refine lv_aload_n E.1 E.2.1 d_L_law_315 rfl (lv_at hl 5 rfl) ?_
  refine lv_iload E.1 E.2.1 d_L_law_316 (lv_at hl 1 rfl) ?_
  refine lv_iconst (v := 4) E.1 E.2.1 d_L_law_318 (by decide) ?_
  refine lv_iadd E.1 E.2.1 d_L_law_319 ?_
  refine xl_ti (y := nI (7 * j + 4)) (nI_add (7 * j) 4) ?_
  refine va_sld E.1 E.2.1 hX hsc hbA hS (vp_in_nI (n := 7 * j + 4) (by omega) (by omega)) d_L_law_320 ?_
  refine xl_ti (y := xs (7 * j + 4)) (by rw [nI_clamp (by omega)]) ?_
  refine lv_i2l (v := (xs (7 * j + 4)).toInt64) E.1 E.2.1 d_L_law_321 rfl ?_
  refine lv_ldc2 (v := 4294967295) E.1 E.2.1 E.2.2.2.1 (E.2.2.2.2 _ co_L_66) d_L_law_322 ?_
  refine lv_land E.1 E.2.1 d_L_law_325 ?_
  refine lv_lor E.1 E.2.1 d_L_law_326 ?_
  refine lv_aload_n E.1 E.2.1 d_L_law_327 rfl (lv_at hl 5 rfl) ?_
  refine lv_iload E.1 E.2.1 d_L_law_328 (lv_at hl 1 rfl) ?_
  refine lv_iconst (v := 5) E.1 E.2.1 d_L_law_330 (by decide) ?_
  refine lv_iadd E.1 E.2.1 d_L_law_331 ?_
  refine xl_ti (y := nI (7 * j + 5)) (nI_add (7 * j) 5) ?_
  refine va_sld E.1 E.2.1 hX hsc hbA hS (vp_in_nI (n := 7 * j + 5) (by omega) (by omega)) d_L_law_332 ?_
  refine xl_ti (y := xs (7 * j + 5)) (by rw [nI_clamp (by omega)]) ?_
  refine lv_i2l (v := (xs (7 * j + 5)).toInt64) E.1 E.2.1 d_L_law_333 rfl ?_
  refine lv_bipush (v := 32) E.1 E.2.1 d_L_law_334 (by decide) ?_
  refine lv_lshl (v := xsl ((xs (7 * j + 5)).toInt64) 32) E.1 E.2.1 d_L_law_336 rfl ?_
  refine lv_aload_n E.1 E.2.1 d_L_law_337 rfl (lv_at hl 5 rfl) ?_
  refine lv_iload E.1 E.2.1 d_L_law_338 (lv_at hl 1 rfl) ?_
  refine lv_bipush (v := 6) E.1 E.2.1 d_L_law_340 (by decide) ?_
  refine lv_iadd E.1 E.2.1 d_L_law_342 ?_
  refine xl_ti (y := nI (7 * j + 6)) (nI_add (7 * j) 6) ?_
  refine va_sld E.1 E.2.1 hX hsc hbA hS (vp_in_nI (n := 7 * j + 6) (by omega) (by omega)) d_L_law_343 ?_
  refine xl_ti (y := xs (7 * j + 6)) (by rw [nI_clamp (by omega)]) ?_
  refine lv_i2l (v := (xs (7 * j + 6)).toInt64) E.1 E.2.1 d_L_law_344 rfl ?_
  refine lv_ldc2 (v := 4294967295) E.1 E.2.1 E.2.2.2.1 (E.2.2.2.2 _ co_L_66) d_L_law_345 ?_
  refine lv_land E.1 E.2.1 d_L_law_348 ?_
  refine lv_lor E.1 E.2.1 d_L_law_349 ?_
  refine xk_model C0 (m_putRange l D b r cJ cZ β n q fa rd gd hok.1 hap.2.1.2 ((xsl ((xs (7 * j + 1)).toInt64) 32) ||| (((xs (7 * j + 2)).toInt64) &&& 4294967295)) ((xsl ((xs (7 * j + 3)).toInt64) 32) ||| (((xs (7 * j + 4)).toInt64) &&& 4294967295)) ((xsl ((xs (7 * j + 5)).toInt64) 32) ||| (((xs (7 * j + 6)).toInt64) &&& 4294967295))) vw_L_M_putRange rfl (by decide) hP1 hPM1 hO1 hS1 rfl hl.1 rfl (Nat.le_of_ble_eq_true rfl) (by omega) (by omega) d_L_law_350 (fun v st t hrt hP2 hO2 hS2 => ?_)
  obtain ⟨i, rd2, gd2, rfl, hi, hPM2⟩ := hrt
  generalize t.heap = H2 at hPM2 hP2 hO2 hS2 ⊢
  refine W.eq (g2 := F0 m 353 ls [.int i]) rfl ?_
  have hs2 := s2_putRange (β, n, q) ((xsl ((xs (7 * j + 1)).toInt64) 32) ||| (((xs (7 * j + 2)).toInt64) &&& 4294967295)) ((xsl ((xs (7 * j + 3)).toInt64) 32) ||| (((xs (7 * j + 4)).toInt64) &&& 4294967295)) ((xsl ((xs (7 * j + 5)).toInt64) 32) ||| (((xs (7 * j + 6)).toInt64) &&& 4294967295))
  have hok2 : xok (sp_putRange (β, n, q) ((xsl ((xs (7 * j + 1)).toInt64) 32) ||| (((xs (7 * j + 2)).toInt64) &&& 4294967295)) ((xsl ((xs (7 * j + 3)).toInt64) 32) ||| (((xs (7 * j + 4)).toInt64) &&& 4294967295)) ((xsl ((xs (7 * j + 5)).toInt64) 32) ||| (((xs (7 * j + 6)).toInt64) &&& 4294967295))).2.2 := so_putRange hok
  generalize sp_putRange (β, n, q) ((xsl ((xs (7 * j + 1)).toInt64) 32) ||| (((xs (7 * j + 2)).toInt64) &&& 4294967295)) ((xsl ((xs (7 * j + 3)).toInt64) 32) ||| (((xs (7 * j + 4)).toInt64) &&& 4294967295)) ((xsl ((xs (7 * j + 5)).toInt64) 32) ||| (((xs (7 * j + 6)).toInt64) &&& 4294967295)) = z at hf1 hi hPM2 hP2 hl hs2 hok2 ⊢
  refine lv_istore E.1 E.2.1 d_L_law_353 hl (by decide) rfl (fun ls hl => ?_)
  have hl : lv_has ls 8 [(6, .int i), (5, .int (nI z.1)), (4, .int (nI (7 * j))), (3, .ref o), (2, .ref b), (1, .ref x), (0, .ref scr)] := hl
  refine lv_aload_n E.1 E.2.1 d_L_law_355 rfl (lv_at hl 4 rfl) ?_
  refine xk_thrown C0 hPM2 hl.1 (Nat.le_of_ble_eq_true rfl) (by omega) (by omega) d_L_law_356 ?_
  refine lv_iload E.1 E.2.1 d_L_law_359 (lv_at hl 1 rfl) ?_
  have hfin : W p l e room_1 s m #[Value.ref scr] below meth c H2 [] (5 + j + 1) (66570 + 6 * j + 6) (lw_Z below #[Value.ref scr] s) (F0 m 1102 ls []) := next z.2.2 H2 ls f1 _ rd2 gd2 hok2 hP2 hPM2 hO2 hS2 (lv_sub hl [2, 3, 4, 5, 6] rfl)
  refine lv_icmp_eq (tgt := 366) E.1 E.2.1 d_L_law_361 (by decide) (fun h1 => ?_) (fun h1 => ?_)
  · skip
    refine lv_iload E.1 E.2.1 d_L_law_366 (lv_at hl 1 rfl) ?_
    refine lv_if_ne (tgt := 383) E.1 E.2.1 d_L_law_368 (by decide) (fun h2 => ?_) (fun h2 => ?_)
    · skip
      refine lv_goto (tgt := 1102) E.1 E.2.1 d_L_law_383 (by decide) ?_
      exact hfin
    · skip
      have h2 : z.1 = 0 := (nI_eq (b := 0) (by omega) (by decide)).mp h2
      refine lv_aload_n E.1 E.2.1 d_L_law_371 rfl (lv_at hl 3 rfl) ?_
      refine lv_iconst (v := 0) E.1 E.2.1 d_L_law_372 (by decide) ?_
      refine va_lald E.1 E.2.1 hK hO2 0 0 rfl rfl (vp_in_nI (n := 0) (N := 1) (by decide) (by decide)) d_L_law_373 ?_
      refine xl_tl (y := z.2.1) (hf1 h2) ?_
      refine lv_iload E.1 E.2.1 d_L_law_374 (lv_at hl 0 rfl) ?_
      refine lv_i2l (v := i.toInt64) E.1 E.2.1 d_L_law_376 rfl ?_
      refine xl_tl (y := z.2.1) (hi h2) ?_
      refine xl_lc_eq (tgt := 383) E.1 E.2.1 d_L_law_377 d_L_law_378 (by decide) (fun h3 => ?_) (fun h3 => ?_)
      · skip
        refine lv_goto (tgt := 1102) E.1 E.2.1 d_L_law_383 (by decide) ?_
        exact hfin
      · skip
        exact absurd rfl h3
  · skip
    exact absurd rfl h1
end XL34b

