/-! The law's cases: putLength, putNumber. -/
section XL34c
theorem ww_putLength : xwW 81 y_L_putLength b_L_putLength 4 [(0, 9, 12, 13), (0, 9, 15, 15)] 3 := ⟨⟨by decide, by decide, by decide +kernel⟩, cw_L_putLength, in_L_ini, lk_L_putLength, st_L_putLength⟩
set_option maxHeartbeats 4000000 in
set_option maxRecDepth 100000 in
theorem k_putLength {p : Program} {l : Launch} {e : Env} {s : State} {m : MethodId} {below : List Frame} {meth : Method} {c : Code} {scr L : Nat} {xs : Nat → Int32} {D : va_G} {x w b r o : Nat} {cJ cZ : ClassId} {β : Nat → Bool} {n q : Nat} {f : Nat → Int64} {fa : Int32} {rd : Nat} {gd : Bool} {H : Heap} {ls : Array Slot} (C : xCx p l s m c scr L xs D x w b r o cJ cZ) (j : Nat) (hj : 7 * j + 7 ≤ L) (hok : xok (β, n, q)) (hP : PX D x w cJ β n q H) (hPM : PM D b r cZ β n q fa rd gd H) (hO : xOut D o cJ f H) (hS : va_S (xnew s) s.heap H []) (hl : lv_has ls 8 [(4, .int (nI (7 * j))), (3, .ref o), (2, .ref b), (1, .ref x), (0, .ref scr)])
    (next : xNext p l e s m below meth c scr D x w b r o cJ cZ j) :
    W p l e room_1 s m #[Value.ref scr] below meth c H [] (5 + j) (66570 + 6 * j) (lw_Z below #[Value.ref scr] s) (F0 m 386 ls []) := by
  have C0 := C
  obtain ⟨E, hL, hK, hN, hQ0, hX, hsc, hLb, hap⟩ := C
  have hbA : ¬ xnew s scr := fun z => Nat.not_le.mpr hsc z
  refine lv_aload_n E.1 E.2.1 d_L_law_386 rfl (lv_at hl 3 rfl) ?_
  refine lv_aload_n E.1 E.2.1 d_L_law_387 rfl (lv_at hl 4 rfl) ?_
  refine lv_iload E.1 E.2.1 d_L_law_388 (lv_at hl 0 rfl) ?_
  refine lv_iconst (v := 1) E.1 E.2.1 d_L_law_390 (by decide) ?_
  refine lv_iadd E.1 E.2.1 d_L_law_391 ?_
  refine xl_ti (y := nI (7 * j + 1)) (nI_add (7 * j) 1) ?_
  refine va_sld E.1 E.2.1 hX hsc hbA hS (vp_in_nI (n := 7 * j + 1) (by omega) (by omega)) d_L_law_392 ?_
  refine xl_ti (y := xs (7 * j + 1)) (by rw [nI_clamp (by omega)]) ?_
  refine lv_aload_n E.1 E.2.1 d_L_law_393 rfl (lv_at hl 1 rfl) ?_
  refine xk_wrap C0 (l_putLength l hL D x w o cJ cZ β n q f hok.1 hok.2 hap.2.1.1 hap.2.2.1.1 hap.2.2.1.2.1 (xs (7 * j + 1))) ww_putLength (by decide) hP hPM hO hS rfl hl.1 rfl (Nat.le_of_ble_eq_true rfl) (by omega) (by omega) d_L_law_394 (fun H1 f1 hf1 hP1 hPM1 hO1 hS1 => ?_)
  clear hP hPM hO hS
  have hS := hS1
  refine W.eq (g2 := F0 m 397 ls [.int (nI (sp_putLength (β, n, q) (xs (7 * j + 1))).1)]) rfl ?_
  refine lv_istore E.1 E.2.1 d_L_law_397 hl (by decide) rfl (fun ls hl => ?_)
  have hl : lv_has ls 8 [(5, .int (nI (sp_putLength (β, n, q) (xs (7 * j + 1))).1)), (4, .int (nI (7 * j))), (3, .ref o), (2, .ref b), (1, .ref x), (0, .ref scr)] := hl
  refine lv_aload_n E.1 E.2.1 d_L_law_399 rfl (lv_at hl 3 rfl) ?_
  refine lv_aload_n E.1 E.2.1 d_L_law_400 rfl (lv_at hl 5 rfl) ?_
  refine lv_iload E.1 E.2.1 d_L_law_401 (lv_at hl 1 rfl) ?_
  refine lv_iconst (v := 1) E.1 E.2.1 d_L_law_403 (by decide) ?_
  refine lv_iadd E.1 E.2.1 d_L_law_404 ?_
  refine xl_ti (y := nI (7 * j + 1)) (nI_add (7 * j) 1) ?_
  refine va_sld E.1 E.2.1 hX hsc hbA hS (vp_in_nI (n := 7 * j + 1) (by omega) (by omega)) d_L_law_405 ?_
  refine xl_ti (y := xs (7 * j + 1)) (by rw [nI_clamp (by omega)]) ?_
  refine xk_model C0 (m_putLength l D b r cJ cZ β n q fa rd gd hok.1 hap.2.1.2 (xs (7 * j + 1))) vw_L_M_putLength rfl (by decide) hP1 hPM1 hO1 hS1 rfl hl.1 rfl (Nat.le_of_ble_eq_true rfl) (by omega) (by omega) d_L_law_406 (fun v st t hrt hP2 hO2 hS2 => ?_)
  obtain ⟨i, rd2, gd2, rfl, hi, hPM2⟩ := hrt
  generalize t.heap = H2 at hPM2 hP2 hO2 hS2 ⊢
  refine W.eq (g2 := F0 m 409 ls [.int i]) rfl ?_
  have hs2 := s2_putLength (β, n, q) (xs (7 * j + 1))
  have hok2 : xok (sp_putLength (β, n, q) (xs (7 * j + 1))).2.2 := so_putLength hok
  generalize sp_putLength (β, n, q) (xs (7 * j + 1)) = z at hf1 hi hPM2 hP2 hl hs2 hok2 ⊢
  refine lv_istore E.1 E.2.1 d_L_law_409 hl (by decide) rfl (fun ls hl => ?_)
  have hl : lv_has ls 8 [(6, .int i), (5, .int (nI z.1)), (4, .int (nI (7 * j))), (3, .ref o), (2, .ref b), (1, .ref x), (0, .ref scr)] := hl
  refine lv_aload_n E.1 E.2.1 d_L_law_411 rfl (lv_at hl 4 rfl) ?_
  refine xk_thrown C0 hPM2 hl.1 (Nat.le_of_ble_eq_true rfl) (by omega) (by omega) d_L_law_412 ?_
  refine lv_iload E.1 E.2.1 d_L_law_415 (lv_at hl 1 rfl) ?_
  have hfin : W p l e room_1 s m #[Value.ref scr] below meth c H2 [] (5 + j + 1) (66570 + 6 * j + 6) (lw_Z below #[Value.ref scr] s) (F0 m 1102 ls []) := next z.2.2 H2 ls f1 _ rd2 gd2 hok2 hP2 hPM2 hO2 hS2 (lv_sub hl [2, 3, 4, 5, 6] rfl)
  refine lv_icmp_eq (tgt := 422) E.1 E.2.1 d_L_law_417 (by decide) (fun h1 => ?_) (fun h1 => ?_)
  · skip
    refine lv_iload E.1 E.2.1 d_L_law_422 (lv_at hl 1 rfl) ?_
    refine lv_if_ne (tgt := 439) E.1 E.2.1 d_L_law_424 (by decide) (fun h2 => ?_) (fun h2 => ?_)
    · skip
      refine lv_goto (tgt := 1102) E.1 E.2.1 d_L_law_439 (by decide) ?_
      exact hfin
    · skip
      have h2 : z.1 = 0 := (nI_eq (b := 0) (by omega) (by decide)).mp h2
      refine lv_aload_n E.1 E.2.1 d_L_law_427 rfl (lv_at hl 3 rfl) ?_
      refine lv_iconst (v := 0) E.1 E.2.1 d_L_law_428 (by decide) ?_
      refine va_lald E.1 E.2.1 hK hO2 0 0 rfl rfl (vp_in_nI (n := 0) (N := 1) (by decide) (by decide)) d_L_law_429 ?_
      refine xl_tl (y := z.2.1) (hf1 h2) ?_
      refine lv_iload E.1 E.2.1 d_L_law_430 (lv_at hl 0 rfl) ?_
      refine lv_i2l (v := i.toInt64) E.1 E.2.1 d_L_law_432 rfl ?_
      refine xl_tl (y := z.2.1) (hi h2) ?_
      refine xl_lc_eq (tgt := 439) E.1 E.2.1 d_L_law_433 d_L_law_434 (by decide) (fun h3 => ?_) (fun h3 => ?_)
      · skip
        refine lv_goto (tgt := 1102) E.1 E.2.1 d_L_law_439 (by decide) ?_
        exact hfin
      · skip
        exact absurd rfl h3
  · skip
    exact absurd rfl h1
theorem ww_putNumber : xwW 85 y_L_putNumber b_L_putNumber 6 [(0, 11, 14, 13), (0, 11, 18, 15)] 4 := ⟨⟨by decide, by decide, by decide +kernel⟩, cw_L_putNumber, in_L_ini, lk_L_putNumber, st_L_putNumber⟩
set_option maxHeartbeats 4000000 in
set_option maxRecDepth 100000 in
theorem k_putNumber {p : Program} {l : Launch} {e : Env} {s : State} {m : MethodId} {below : List Frame} {meth : Method} {c : Code} {scr L : Nat} {xs : Nat → Int32} {D : va_G} {x w b r o : Nat} {cJ cZ : ClassId} {β : Nat → Bool} {n q : Nat} {f : Nat → Int64} {fa : Int32} {rd : Nat} {gd : Bool} {H : Heap} {ls : Array Slot} (C : xCx p l s m c scr L xs D x w b r o cJ cZ) (j : Nat) (hj : 7 * j + 7 ≤ L) (hok : xok (β, n, q)) (hP : PX D x w cJ β n q H) (hPM : PM D b r cZ β n q fa rd gd H) (hO : xOut D o cJ f H) (hS : va_S (xnew s) s.heap H []) (hl : lv_has ls 8 [(4, .int (nI (7 * j))), (3, .ref o), (2, .ref b), (1, .ref x), (0, .ref scr)])
    (next : xNext p l e s m below meth c scr D x w b r o cJ cZ j) :
    W p l e room_1 s m #[Value.ref scr] below meth c H [] (5 + j) (66570 + 6 * j) (lw_Z below #[Value.ref scr] s) (F0 m 442 ls []) := by
  have C0 := C
  obtain ⟨E, hL, hK, hN, hQ0, hX, hsc, hLb, hap⟩ := C
  have hbA : ¬ xnew s scr := fun z => Nat.not_le.mpr hsc z
  refine lv_aload_n E.1 E.2.1 d_L_law_442 rfl (lv_at hl 3 rfl) ?_
  refine lv_aload_n E.1 E.2.1 d_L_law_443 rfl (lv_at hl 4 rfl) ?_
  refine lv_iload E.1 E.2.1 d_L_law_444 (lv_at hl 0 rfl) ?_
  refine lv_iconst (v := 1) E.1 E.2.1 d_L_law_446 (by decide) ?_
  refine lv_iadd E.1 E.2.1 d_L_law_447 ?_
  refine xl_ti (y := nI (7 * j + 1)) (nI_add (7 * j) 1) ?_
  refine va_sld E.1 E.2.1 hX hsc hbA hS (vp_in_nI (n := 7 * j + 1) (by omega) (by omega)) d_L_law_448 ?_
  refine xl_ti (y := xs (7 * j + 1)) (by rw [nI_clamp (by omega)]) ?_
  refine lv_aload_n E.1 E.2.1 d_L_law_449 rfl (lv_at hl 4 rfl) ?_
  refine lv_iload E.1 E.2.1 d_L_law_450 (lv_at hl 0 rfl) ?_
  refine lv_iconst (v := 2) E.1 E.2.1 d_L_law_452 (by decide) ?_
  refine lv_iadd E.1 E.2.1 d_L_law_453 ?_
  refine xl_ti (y := nI (7 * j + 2)) (nI_add (7 * j) 2) ?_
  refine va_sld E.1 E.2.1 hX hsc hbA hS (vp_in_nI (n := 7 * j + 2) (by omega) (by omega)) d_L_law_454 ?_
  refine xl_ti (y := xs (7 * j + 2)) (by rw [nI_clamp (by omega)]) ?_
  refine lv_i2l (v := (xs (7 * j + 2)).toInt64) E.1 E.2.1 d_L_law_455 rfl ?_
  refine lv_bipush (v := 32) E.1 E.2.1 d_L_law_456 (by decide) ?_
  refine lv_lshl (v := xsl ((xs (7 * j + 2)).toInt64) 32) E.1 E.2.1 d_L_law_458 rfl ?_
  refine lv_aload_n E.1 E.2.1 d_L_law_459 rfl (lv_at hl 4 rfl) ?_
  refine lv_iload E.1 E.2.1 d_L_law_460 (lv_at hl 0 rfl) ?_
  refine lv_iconst (v := 3) E.1 E.2.1 d_L_law_462 (by decide) ?_
  refine lv_iadd E.1 E.2.1 d_L_law_463 ?_
  refine xl_ti (y := nI (7 * j + 3)) (nI_add (7 * j) 3) ?_
  refine va_sld E.1 E.2.1 hX hsc hbA hS (vp_in_nI (n := 7 * j + 3) (by omega) (by omega)) d_L_law_464 ?_
  refine xl_ti (y := xs (7 * j + 3)) (by rw [nI_clamp (by omega)]) ?_
  refine lv_i2l (v := (xs (7 * j + 3)).toInt64) E.1 E.2.1 d_L_law_465 rfl ?_
  refine lv_ldc2 (v := 4294967295) E.1 E.2.1 E.2.2.2.1 (E.2.2.2.2 _ co_L_66) d_L_law_466 ?_
  refine lv_land E.1 E.2.1 d_L_law_469 ?_
  refine lv_lor E.1 E.2.1 d_L_law_470 ?_
  refine lv_aload_n E.1 E.2.1 d_L_law_471 rfl (lv_at hl 1 rfl) ?_
  refine xk_wrap C0 (l_putNumber l hL D x w o cJ cZ β n q f hok.1 hok.2 hap.2.1.1 hap.2.2.1.1 hap.2.2.1.2.1 (xs (7 * j + 1)) ((xsl ((xs (7 * j + 2)).toInt64) 32) ||| (((xs (7 * j + 3)).toInt64) &&& 4294967295))) ww_putNumber (by decide) hP hPM hO hS rfl hl.1 rfl (Nat.le_of_ble_eq_true rfl) (by omega) (by omega) d_L_law_472 (fun H1 f1 hf1 hP1 hPM1 hO1 hS1 => ?_)
  clear hP hPM hO hS
  have hS := hS1
  refine W.eq (g2 := F0 m 475 ls [.int (nI (sp_putNumber (β, n, q) (xs (7 * j + 1)) ((xsl ((xs (7 * j + 2)).toInt64) 32) ||| (((xs (7 * j + 3)).toInt64) &&& 4294967295))).1)]) rfl ?_
  refine lv_istore E.1 E.2.1 d_L_law_475 hl (by decide) rfl (fun ls hl => ?_)
  have hl : lv_has ls 8 [(5, .int (nI (sp_putNumber (β, n, q) (xs (7 * j + 1)) ((xsl ((xs (7 * j + 2)).toInt64) 32) ||| (((xs (7 * j + 3)).toInt64) &&& 4294967295))).1)), (4, .int (nI (7 * j))), (3, .ref o), (2, .ref b), (1, .ref x), (0, .ref scr)] := hl
  refine lv_aload_n E.1 E.2.1 d_L_law_477 rfl (lv_at hl 3 rfl) ?_
  refine lv_aload_n E.1 E.2.1 d_L_law_478 rfl (lv_at hl 5 rfl) ?_
  refine lv_iload E.1 E.2.1 d_L_law_479 (lv_at hl 1 rfl) ?_
  refine lv_iconst (v := 1) E.1 E.2.1 d_L_law_481 (by decide) ?_
  refine lv_iadd E.1 E.2.1 d_L_law_482 ?_
  refine xl_ti (y := nI (7 * j + 1)) (nI_add (7 * j) 1) ?_
  refine va_sld E.1 E.2.1 hX hsc hbA hS (vp_in_nI (n := 7 * j + 1) (by omega) (by omega)) d_L_law_483 ?_
  refine xl_ti (y := xs (7 * j + 1)) (by rw [nI_clamp (by omega)]) ?_
  refine lv_aload_n E.1 E.2.1 d_L_law_484 rfl (lv_at hl 5 rfl) ?_
  refine lv_iload E.1 E.2.1 d_L_law_485 (lv_at hl 1 rfl) ?_
  refine lv_iconst (v := 2) E.1 E.2.1 d_L_law_487 (by decide) ?_
  refine lv_iadd E.1 E.2.1 d_L_law_488 ?_
  refine xl_ti (y := nI (7 * j + 2)) (nI_add (7 * j) 2) ?_
  refine va_sld E.1 E.2.1 hX hsc hbA hS (vp_in_nI (n := 7 * j + 2) (by omega) (by omega)) d_L_law_489 ?_
  refine xl_ti (y := xs (7 * j + 2)) (by rw [nI_clamp (by omega)]) ?_
  refine lv_i2l (v := (xs (7 * j + 2)).toInt64) E.1 E.2.1 d_L_law_490 rfl ?_
  refine lv_bipush (v := 32) E.1 E.2.1 d_L_law_491 (by decide) ?_
  refine lv_lshl (v := xsl ((xs (7 * j + 2)).toInt64) 32) E.1 E.2.1 d_L_law_493 rfl ?_
  refine lv_aload_n E.1 E.2.1 d_L_law_494 rfl (lv_at hl 5 rfl) ?_
  refine lv_iload E.1 E.2.1 d_L_law_495 (lv_at hl 1 rfl) ?_
  refine lv_iconst (v := 3) E.1 E.2.1 d_L_law_497 (by decide) ?_
  refine lv_iadd E.1 E.2.1 d_L_law_498 ?_
  refine xl_ti (y := nI (7 * j + 3)) (nI_add (7 * j) 3) ?_
  refine va_sld E.1 E.2.1 hX hsc hbA hS (vp_in_nI (n := 7 * j + 3) (by omega) (by omega)) d_L_law_499 ?_
  refine xl_ti (y := xs (7 * j + 3)) (by rw [nI_clamp (by omega)]) ?_
  refine lv_i2l (v := (xs (7 * j + 3)).toInt64) E.1 E.2.1 d_L_law_500 rfl ?_
  refine lv_ldc2 (v := 4294967295) E.1 E.2.1 E.2.2.2.1 (E.2.2.2.2 _ co_L_66) d_L_law_501 ?_
  refine lv_land E.1 E.2.1 d_L_law_504 ?_
  refine lv_lor E.1 E.2.1 d_L_law_505 ?_
  refine xk_model C0 (m_putNumber l D b r cJ cZ β n q fa rd gd hok.1 hap.2.1.2 (xs (7 * j + 1)) ((xsl ((xs (7 * j + 2)).toInt64) 32) ||| (((xs (7 * j + 3)).toInt64) &&& 4294967295))) vw_L_M_putNumber rfl (by decide) hP1 hPM1 hO1 hS1 rfl hl.1 rfl (Nat.le_of_ble_eq_true rfl) (by omega) (by omega) d_L_law_506 (fun v st t hrt hP2 hO2 hS2 => ?_)
  obtain ⟨i, rd2, gd2, rfl, hi, hPM2⟩ := hrt
  generalize t.heap = H2 at hPM2 hP2 hO2 hS2 ⊢
  refine W.eq (g2 := F0 m 509 ls [.int i]) rfl ?_
  have hs2 := s2_putNumber (β, n, q) (xs (7 * j + 1)) ((xsl ((xs (7 * j + 2)).toInt64) 32) ||| (((xs (7 * j + 3)).toInt64) &&& 4294967295))
  have hok2 : xok (sp_putNumber (β, n, q) (xs (7 * j + 1)) ((xsl ((xs (7 * j + 2)).toInt64) 32) ||| (((xs (7 * j + 3)).toInt64) &&& 4294967295))).2.2 := so_putNumber hok
  generalize sp_putNumber (β, n, q) (xs (7 * j + 1)) ((xsl ((xs (7 * j + 2)).toInt64) 32) ||| (((xs (7 * j + 3)).toInt64) &&& 4294967295)) = z at hf1 hi hPM2 hP2 hl hs2 hok2 ⊢
  refine lv_istore E.1 E.2.1 d_L_law_509 hl (by decide) rfl (fun ls hl => ?_)
  have hl : lv_has ls 8 [(6, .int i), (5, .int (nI z.1)), (4, .int (nI (7 * j))), (3, .ref o), (2, .ref b), (1, .ref x), (0, .ref scr)] := hl
  refine lv_aload_n E.1 E.2.1 d_L_law_511 rfl (lv_at hl 4 rfl) ?_
  refine xk_thrown C0 hPM2 hl.1 (Nat.le_of_ble_eq_true rfl) (by omega) (by omega) d_L_law_512 ?_
  refine lv_iload E.1 E.2.1 d_L_law_515 (lv_at hl 1 rfl) ?_
  have hfin : W p l e room_1 s m #[Value.ref scr] below meth c H2 [] (5 + j + 1) (66570 + 6 * j + 6) (lw_Z below #[Value.ref scr] s) (F0 m 1102 ls []) := next z.2.2 H2 ls f1 _ rd2 gd2 hok2 hP2 hPM2 hO2 hS2 (lv_sub hl [2, 3, 4, 5, 6] rfl)
  refine lv_icmp_eq (tgt := 522) E.1 E.2.1 d_L_law_517 (by decide) (fun h1 => ?_) (fun h1 => ?_)
  · skip
    refine lv_iload E.1 E.2.1 d_L_law_522 (lv_at hl 1 rfl) ?_
    refine lv_if_ne (tgt := 539) E.1 E.2.1 d_L_law_524 (by decide) (fun h2 => ?_) (fun h2 => ?_)
    · skip
      refine lv_goto (tgt := 1102) E.1 E.2.1 d_L_law_539 (by decide) ?_
      exact hfin
    · skip
      have h2 : z.1 = 0 := (nI_eq (b := 0) (by omega) (by decide)).mp h2
      refine lv_aload_n E.1 E.2.1 d_L_law_527 rfl (lv_at hl 3 rfl) ?_
      refine lv_iconst (v := 0) E.1 E.2.1 d_L_law_528 (by decide) ?_
      refine va_lald E.1 E.2.1 hK hO2 0 0 rfl rfl (vp_in_nI (n := 0) (N := 1) (by decide) (by decide)) d_L_law_529 ?_
      refine xl_tl (y := z.2.1) (hf1 h2) ?_
      refine lv_iload E.1 E.2.1 d_L_law_530 (lv_at hl 0 rfl) ?_
      refine lv_i2l (v := i.toInt64) E.1 E.2.1 d_L_law_532 rfl ?_
      refine xl_tl (y := z.2.1) (hi h2) ?_
      refine xl_lc_eq (tgt := 539) E.1 E.2.1 d_L_law_533 d_L_law_534 (by decide) (fun h3 => ?_) (fun h3 => ?_)
      · skip
        refine lv_goto (tgt := 1102) E.1 E.2.1 d_L_law_539 (by decide) ?_
        exact hfin
      · skip
        exact absurd rfl h3
  · skip
    exact absurd rfl h1
end XL34c

