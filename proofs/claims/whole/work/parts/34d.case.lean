/-! The law's cases: fill, take, takeRange. -/
section XL34d
theorem ww_fill : xwW 89 y_L_fill b_L_fill 3 [(0, 8, 11, 15)] 2 := ⟨⟨by decide, by decide, by decide +kernel⟩, cw_L_fill, in_L_ini, lk_L_fill, st_L_fill⟩
set_option maxHeartbeats 4000000 in
set_option maxRecDepth 100000 in
theorem k_fill {p : Program} {l : Launch} {e : Env} {s : State} {m : MethodId} {below : List Frame} {meth : Method} {c : Code} {scr L : Nat} {xs : Nat → Int32} {D : va_G} {x w b r o : Nat} {cJ cZ : ClassId} {β : Nat → Bool} {n q : Nat} {f : Nat → Int64} {fa : Int32} {rd : Nat} {gd : Bool} {H : Heap} {ls : Array Slot} (C : xCx p l s m c scr L xs D x w b r o cJ cZ) (j : Nat) (hj : 7 * j + 7 ≤ L) (hok : xok (β, n, q)) (hP : PX D x w cJ β n q H) (hPM : PM D b r cZ β n q fa rd gd H) (hO : xOut D o cJ f H) (hS : va_S (xnew s) s.heap H []) (hl : lv_has ls 8 [(4, .int (nI (7 * j))), (3, .ref o), (2, .ref b), (1, .ref x), (0, .ref scr)])
    (next : xNext p l e s m below meth c scr D x w b r o cJ cZ j) :
    W p l e room_1 s m #[Value.ref scr] below meth c H [] (5 + j) (66570 + 6 * j) (lw_Z below #[Value.ref scr] s) (F0 m 542 ls []) := by
  have C0 := C
  obtain ⟨E, hL, hK, hN, hQ0, hX, hsc, hLb, hap⟩ := C
  have hbA : ¬ xnew s scr := fun z => Nat.not_le.mpr hsc z
  refine lv_aload_n E.1 E.2.1 d_L_law_542 rfl (lv_at hl 3 rfl) ?_
  refine lv_aload_n E.1 E.2.1 d_L_law_543 rfl (lv_at hl 1 rfl) ?_
  refine xk_wrap C0 (l_fill l hL D x w o cJ cZ β n q f hok.1 hok.2 hap.2.1.1 hap.2.2.1.1 hap.2.2.1.2.1 ) ww_fill (by decide) hP hPM hO hS rfl hl.1 rfl (Nat.le_of_ble_eq_true rfl) (by omega) (by omega) d_L_law_544 (fun H1 f1 hf1 hP1 hPM1 hO1 hS1 => ?_)
  clear hP hPM hO hS
  have hS := hS1
  refine W.eq (g2 := F0 m 547 ls [.int (nI (sp_fill (β, n, q) ).1)]) rfl ?_
  refine lv_istore E.1 E.2.1 d_L_law_547 hl (by decide) rfl (fun ls hl => ?_)
  have hl : lv_has ls 8 [(5, .int (nI (sp_fill (β, n, q) ).1)), (4, .int (nI (7 * j))), (3, .ref o), (2, .ref b), (1, .ref x), (0, .ref scr)] := hl
  refine lv_aload_n E.1 E.2.1 d_L_law_549 rfl (lv_at hl 3 rfl) ?_
  refine xk_model C0 (m_fill l D b r cJ cZ β n q fa rd gd hok.1 hap.2.1.2 ) vw_L_M_fill rfl (by decide) hP1 hPM1 hO1 hS1 rfl hl.1 rfl (Nat.le_of_ble_eq_true rfl) (by omega) (by omega) d_L_law_550 (fun v st t hrt hP2 hO2 hS2 => ?_)
  obtain ⟨i, rd2, gd2, rfl, hi, hPM2⟩ := hrt
  generalize t.heap = H2 at hPM2 hP2 hO2 hS2 ⊢
  refine W.eq (g2 := F0 m 553 ls [.int i]) rfl ?_
  have hs2 := s2_fill (β, n, q) 
  have hok2 : xok (sp_fill (β, n, q) ).2.2 := so_fill hok
  generalize sp_fill (β, n, q)  = z at hf1 hi hPM2 hP2 hl hs2 hok2 ⊢
  refine lv_istore E.1 E.2.1 d_L_law_553 hl (by decide) rfl (fun ls hl => ?_)
  have hl : lv_has ls 8 [(6, .int i), (5, .int (nI z.1)), (4, .int (nI (7 * j))), (3, .ref o), (2, .ref b), (1, .ref x), (0, .ref scr)] := hl
  refine lv_aload_n E.1 E.2.1 d_L_law_555 rfl (lv_at hl 4 rfl) ?_
  refine xk_thrown C0 hPM2 hl.1 (Nat.le_of_ble_eq_true rfl) (by omega) (by omega) d_L_law_556 ?_
  refine lv_iload E.1 E.2.1 d_L_law_559 (lv_at hl 1 rfl) ?_
  have hfin : W p l e room_1 s m #[Value.ref scr] below meth c H2 [] (5 + j + 1) (66570 + 6 * j + 6) (lw_Z below #[Value.ref scr] s) (F0 m 1102 ls []) := next z.2.2 H2 ls f1 _ rd2 gd2 hok2 hP2 hPM2 hO2 hS2 (lv_sub hl [2, 3, 4, 5, 6] rfl)
  refine lv_icmp_eq (tgt := 566) E.1 E.2.1 d_L_law_561 (by decide) (fun h1 => ?_) (fun h1 => ?_)
  · skip
    refine lv_iload E.1 E.2.1 d_L_law_566 (lv_at hl 1 rfl) ?_
    refine lv_if_ne (tgt := 583) E.1 E.2.1 d_L_law_568 (by decide) (fun h2 => ?_) (fun h2 => ?_)
    · skip
      refine lv_goto (tgt := 1102) E.1 E.2.1 d_L_law_583 (by decide) ?_
      exact hfin
    · skip
      have h2 : z.1 = 0 := (nI_eq (b := 0) (by omega) (by decide)).mp h2
      refine lv_aload_n E.1 E.2.1 d_L_law_571 rfl (lv_at hl 3 rfl) ?_
      refine lv_iconst (v := 0) E.1 E.2.1 d_L_law_572 (by decide) ?_
      refine va_lald E.1 E.2.1 hK hO2 0 0 rfl rfl (vp_in_nI (n := 0) (N := 1) (by decide) (by decide)) d_L_law_573 ?_
      refine xl_tl (y := z.2.1) (hf1 h2) ?_
      refine lv_iload E.1 E.2.1 d_L_law_574 (lv_at hl 0 rfl) ?_
      refine lv_i2l (v := i.toInt64) E.1 E.2.1 d_L_law_576 rfl ?_
      refine xl_tl (y := z.2.1) (hi h2) ?_
      refine xl_lc_eq (tgt := 583) E.1 E.2.1 d_L_law_577 d_L_law_578 (by decide) (fun h3 => ?_) (fun h3 => ?_)
      · skip
        refine lv_goto (tgt := 1102) E.1 E.2.1 d_L_law_583 (by decide) ?_
        exact hfin
      · skip
        exact absurd rfl h3
  · skip
    exact absurd rfl h1
theorem ww_take : xwW 93 y_L_take b_L_take 4 [(0, 8, 11, 13), (0, 8, 14, 37)] 3 := ⟨⟨by decide, by decide, by decide +kernel⟩, cw_L_take, in_L_ini, lk_L_take, st_L_take⟩
set_option maxHeartbeats 4000000 in
set_option maxRecDepth 100000 in
theorem k_take {p : Program} {l : Launch} {e : Env} {s : State} {m : MethodId} {below : List Frame} {meth : Method} {c : Code} {scr L : Nat} {xs : Nat → Int32} {D : va_G} {x w b r o : Nat} {cJ cZ : ClassId} {β : Nat → Bool} {n q : Nat} {f : Nat → Int64} {fa : Int32} {rd : Nat} {gd : Bool} {H : Heap} {ls : Array Slot} (C : xCx p l s m c scr L xs D x w b r o cJ cZ) (j : Nat) (hj : 7 * j + 7 ≤ L) (hok : xok (β, n, q)) (hP : PX D x w cJ β n q H) (hPM : PM D b r cZ β n q fa rd gd H) (hO : xOut D o cJ f H) (hS : va_S (xnew s) s.heap H []) (hl : lv_has ls 8 [(4, .int (nI (7 * j))), (3, .ref o), (2, .ref b), (1, .ref x), (0, .ref scr)])
    (next : xNext p l e s m below meth c scr D x w b r o cJ cZ j) :
    W p l e room_1 s m #[Value.ref scr] below meth c H [] (5 + j) (66570 + 6 * j) (lw_Z below #[Value.ref scr] s) (F0 m 586 ls []) := by
  have C0 := C
  obtain ⟨E, hL, hK, hN, hQ0, hX, hsc, hLb, hap⟩ := C
  have hbA : ¬ xnew s scr := fun z => Nat.not_le.mpr hsc z
  refine lv_aload_n E.1 E.2.1 d_L_law_586 rfl (lv_at hl 3 rfl) ?_
  refine lv_aload_n E.1 E.2.1 d_L_law_587 rfl (lv_at hl 4 rfl) ?_
  refine lv_iload E.1 E.2.1 d_L_law_588 (lv_at hl 0 rfl) ?_
  refine lv_iconst (v := 1) E.1 E.2.1 d_L_law_590 (by decide) ?_
  refine lv_iadd E.1 E.2.1 d_L_law_591 ?_
  refine xl_ti (y := nI (7 * j + 1)) (nI_add (7 * j) 1) ?_
  refine va_sld E.1 E.2.1 hX hsc hbA hS (vp_in_nI (n := 7 * j + 1) (by omega) (by omega)) d_L_law_592 ?_
  refine xl_ti (y := xs (7 * j + 1)) (by rw [nI_clamp (by omega)]) ?_
  refine lv_aload_n E.1 E.2.1 d_L_law_593 rfl (lv_at hl 1 rfl) ?_
  refine xk_wrap C0 (l_take l hL D x w o cJ cZ β n q f hok.1 hok.2 hap.2.1.1 hap.2.2.1.1 hap.2.2.1.2.1 (xs (7 * j + 1))) ww_take (by decide) hP hPM hO hS rfl hl.1 rfl (Nat.le_of_ble_eq_true rfl) (by omega) (by omega) d_L_law_594 (fun H1 f1 hf1 hP1 hPM1 hO1 hS1 => ?_)
  clear hP hPM hO hS
  have hS := hS1
  refine W.eq (g2 := F0 m 597 ls [.int (nI (sp_take (β, n, q) (xs (7 * j + 1))).1)]) rfl ?_
  refine lv_istore E.1 E.2.1 d_L_law_597 hl (by decide) rfl (fun ls hl => ?_)
  have hl : lv_has ls 8 [(5, .int (nI (sp_take (β, n, q) (xs (7 * j + 1))).1)), (4, .int (nI (7 * j))), (3, .ref o), (2, .ref b), (1, .ref x), (0, .ref scr)] := hl
  refine lv_aload_n E.1 E.2.1 d_L_law_599 rfl (lv_at hl 3 rfl) ?_
  refine lv_aload_n E.1 E.2.1 d_L_law_600 rfl (lv_at hl 5 rfl) ?_
  refine lv_iload E.1 E.2.1 d_L_law_601 (lv_at hl 1 rfl) ?_
  refine lv_iconst (v := 1) E.1 E.2.1 d_L_law_603 (by decide) ?_
  refine lv_iadd E.1 E.2.1 d_L_law_604 ?_
  refine xl_ti (y := nI (7 * j + 1)) (nI_add (7 * j) 1) ?_
  refine va_sld E.1 E.2.1 hX hsc hbA hS (vp_in_nI (n := 7 * j + 1) (by omega) (by omega)) d_L_law_605 ?_
  refine xl_ti (y := xs (7 * j + 1)) (by rw [nI_clamp (by omega)]) ?_
  refine xk_model C0 (m_take l D b r cJ cZ β n q fa rd gd hok.1 hok.2 hap.2.1.2 (xs (7 * j + 1))) vw_L_M_take rfl (by decide) hP1 hPM1 hO1 hS1 rfl hl.1 rfl (Nat.le_of_ble_eq_true rfl) (by omega) (by omega) d_L_law_606 (fun v st t hrt hP2 hO2 hS2 => ?_)
  obtain ⟨i, rd2, gd2, rfl, hi, hPM2⟩ := hrt
  generalize t.heap = H2 at hPM2 hP2 hO2 hS2 ⊢
  refine W.eq (g2 := F0 m 609 ls [.long i]) rfl ?_
  have hs2 := s2_take (β, n, q) (xs (7 * j + 1))
  have hok2 : xok (sp_take (β, n, q) (xs (7 * j + 1))).2.2 := so_take hok
  generalize sp_take (β, n, q) (xs (7 * j + 1)) = z at hf1 hi hPM2 hP2 hl hs2 hok2 ⊢
  refine lv_lstore E.1 E.2.1 d_L_law_609 hl (by decide) rfl (fun ls hl => ?_)
  have hl : lv_has ls 8 [(6, .long i), (5, .int (nI z.1)), (4, .int (nI (7 * j))), (3, .ref o), (2, .ref b), (1, .ref x), (0, .ref scr)] := hl
  refine lv_aload_n E.1 E.2.1 d_L_law_611 rfl (lv_at hl 4 rfl) ?_
  refine xk_thrown C0 hPM2 hl.1 (Nat.le_of_ble_eq_true rfl) (by omega) (by omega) d_L_law_612 ?_
  refine lv_iload E.1 E.2.1 d_L_law_615 (lv_at hl 1 rfl) ?_
  have hfin : W p l e room_1 s m #[Value.ref scr] below meth c H2 [] (5 + j + 1) (66570 + 6 * j + 6) (lw_Z below #[Value.ref scr] s) (F0 m 1102 ls []) := next z.2.2 H2 ls f1 _ rd2 gd2 hok2 hP2 hPM2 hO2 hS2 (lv_sub hl [2, 3, 4, 5, 6] rfl)
  refine lv_icmp_eq (tgt := 622) E.1 E.2.1 d_L_law_617 (by decide) (fun h1 => ?_) (fun h1 => ?_)
  · skip
    refine lv_iload E.1 E.2.1 d_L_law_622 (lv_at hl 1 rfl) ?_
    refine lv_if_ne (tgt := 638) E.1 E.2.1 d_L_law_624 (by decide) (fun h2 => ?_) (fun h2 => ?_)
    · skip
      refine lv_goto (tgt := 1102) E.1 E.2.1 d_L_law_638 (by decide) ?_
      exact hfin
    · skip
      have h2 : z.1 = 0 := (nI_eq (b := 0) (by omega) (by decide)).mp h2
      refine lv_aload_n E.1 E.2.1 d_L_law_627 rfl (lv_at hl 3 rfl) ?_
      refine lv_iconst (v := 0) E.1 E.2.1 d_L_law_628 (by decide) ?_
      refine va_lald E.1 E.2.1 hK hO2 0 0 rfl rfl (vp_in_nI (n := 0) (N := 1) (by decide) (by decide)) d_L_law_629 ?_
      refine xl_tl (y := z.2.1) (hf1 h2) ?_
      refine lv_lload E.1 E.2.1 d_L_law_630 (lv_at hl 0 rfl) ?_
      refine xl_tl (y := z.2.1) (hi h2) ?_
      refine xl_lc_eq (tgt := 638) E.1 E.2.1 d_L_law_632 d_L_law_633 (by decide) (fun h3 => ?_) (fun h3 => ?_)
      · skip
        refine lv_goto (tgt := 1102) E.1 E.2.1 d_L_law_638 (by decide) ?_
        exact hfin
      · skip
        exact absurd rfl h3
  · skip
    exact absurd rfl h1
theorem ww_takeRange : xwW 96 y_L_takeRange b_L_takeRange 7 [(0, 10, 13, 13), (0, 10, 17, 37)] 4 := ⟨⟨by decide, by decide, by decide +kernel⟩, cw_L_takeRange, in_L_ini, lk_L_takeRange, st_L_takeRange⟩
set_option maxHeartbeats 4000000 in
set_option maxRecDepth 100000 in
theorem k_takeRange {p : Program} {l : Launch} {e : Env} {s : State} {m : MethodId} {below : List Frame} {meth : Method} {c : Code} {scr L : Nat} {xs : Nat → Int32} {D : va_G} {x w b r o : Nat} {cJ cZ : ClassId} {β : Nat → Bool} {n q : Nat} {f : Nat → Int64} {fa : Int32} {rd : Nat} {gd : Bool} {H : Heap} {ls : Array Slot} (C : xCx p l s m c scr L xs D x w b r o cJ cZ) (j : Nat) (hj : 7 * j + 7 ≤ L) (hok : xok (β, n, q)) (hP : PX D x w cJ β n q H) (hPM : PM D b r cZ β n q fa rd gd H) (hO : xOut D o cJ f H) (hS : va_S (xnew s) s.heap H []) (hl : lv_has ls 8 [(4, .int (nI (7 * j))), (3, .ref o), (2, .ref b), (1, .ref x), (0, .ref scr)])
    (next : xNext p l e s m below meth c scr D x w b r o cJ cZ j) :
    W p l e room_1 s m #[Value.ref scr] below meth c H [] (5 + j) (66570 + 6 * j) (lw_Z below #[Value.ref scr] s) (F0 m 641 ls []) := by
  have C0 := C
  obtain ⟨E, hL, hK, hN, hQ0, hX, hsc, hLb, hap⟩ := C
  have hbA : ¬ xnew s scr := fun z => Nat.not_le.mpr hsc z
  refine lv_aload_n E.1 E.2.1 d_L_law_641 rfl (lv_at hl 3 rfl) ?_
  refine lv_aload_n E.1 E.2.1 d_L_law_642 rfl (lv_at hl 4 rfl) ?_
  refine lv_iload E.1 E.2.1 d_L_law_643 (lv_at hl 0 rfl) ?_
  refine lv_iconst (v := 1) E.1 E.2.1 d_L_law_645 (by decide) ?_
  refine lv_iadd E.1 E.2.1 d_L_law_646 ?_
  refine xl_ti (y := nI (7 * j + 1)) (nI_add (7 * j) 1) ?_
  refine va_sld E.1 E.2.1 hX hsc hbA hS (vp_in_nI (n := 7 * j + 1) (by omega) (by omega)) d_L_law_647 ?_
  refine xl_ti (y := xs (7 * j + 1)) (by rw [nI_clamp (by omega)]) ?_
  refine lv_i2l (v := (xs (7 * j + 1)).toInt64) E.1 E.2.1 d_L_law_648 rfl ?_
  refine lv_bipush (v := 32) E.1 E.2.1 d_L_law_649 (by decide) ?_
  refine lv_lshl (v := xsl ((xs (7 * j + 1)).toInt64) 32) E.1 E.2.1 d_L_law_651 rfl ?_
  refine lv_aload_n E.1 E.2.1 d_L_law_652 rfl (lv_at hl 4 rfl) ?_
  refine lv_iload E.1 E.2.1 d_L_law_653 (lv_at hl 0 rfl) ?_
  refine lv_iconst (v := 2) E.1 E.2.1 d_L_law_655 (by decide) ?_
  refine lv_iadd E.1 E.2.1 d_L_law_656 ?_
  refine xl_ti (y := nI (7 * j + 2)) (nI_add (7 * j) 2) ?_
  refine va_sld E.1 E.2.1 hX hsc hbA hS (vp_in_nI (n := 7 * j + 2) (by omega) (by omega)) d_L_law_657 ?_
  refine xl_ti (y := xs (7 * j + 2)) (by rw [nI_clamp (by omega)]) ?_
  refine lv_i2l (v := (xs (7 * j + 2)).toInt64) E.1 E.2.1 d_L_law_658 rfl ?_
  refine lv_ldc2 (v := 4294967295) E.1 E.2.1 E.2.2.2.1 (E.2.2.2.2 _ co_L_66) d_L_law_659 ?_
  refine lv_land E.1 E.2.1 d_L_law_662 ?_
  refine lv_lor E.1 E.2.1 d_L_law_663 ?_
  refine lv_aload_n E.1 E.2.1 d_L_law_664 rfl (lv_at hl 4 rfl) ?_
  refine lv_iload E.1 E.2.1 d_L_law_665 (lv_at hl 0 rfl) ?_
  refine lv_iconst (v := 3) E.1 E.2.1 d_L_law_667 (by decide) ?_
  refine lv_iadd E.1 E.2.1 d_L_law_668 ?_
  refine xl_ti (y := nI (7 * j + 3)) (nI_add (7 * j) 3) ?_
  refine va_sld E.1 E.2.1 hX hsc hbA hS (vp_in_nI (n := 7 * j + 3) (by omega) (by omega)) d_L_law_669 ?_
  refine xl_ti (y := xs (7 * j + 3)) (by rw [nI_clamp (by omega)]) ?_
  refine lv_i2l (v := (xs (7 * j + 3)).toInt64) E.1 E.2.1 d_L_law_670 rfl ?_
  refine lv_bipush (v := 32) E.1 E.2.1 d_L_law_671 (by decide) ?_
  refine lv_lshl (v := xsl ((xs (7 * j + 3)).toInt64) 32) E.1 E.2.1 d_L_law_673 rfl ?_
  refine lv_aload_n E.1 E.2.1 d_L_law_674 rfl (lv_at hl 4 rfl) ?_
  refine lv_iload E.1 E.2.1 d_L_law_675 (lv_at hl 0 rfl) ?_
  refine lv_iconst (v := 4) E.1 E.2.1 d_L_law_677 (by decide) ?_
  refine lv_iadd E.1 E.2.1 d_L_law_678 ?_
  refine xl_ti (y := nI (7 * j + 4)) (nI_add (7 * j) 4) ?_
  refine va_sld E.1 E.2.1 hX hsc hbA hS (vp_in_nI (n := 7 * j + 4) (by omega) (by omega)) d_L_law_679 ?_
  refine xl_ti (y := xs (7 * j + 4)) (by rw [nI_clamp (by omega)]) ?_
  refine lv_i2l (v := (xs (7 * j + 4)).toInt64) E.1 E.2.1 d_L_law_680 rfl ?_
  refine lv_ldc2 (v := 4294967295) E.1 E.2.1 E.2.2.2.1 (E.2.2.2.2 _ co_L_66) d_L_law_681 ?_
  refine lv_land E.1 E.2.1 d_L_law_684 ?_
  refine lv_lor E.1 E.2.1 d_L_law_685 ?_
  refine lv_aload_n E.1 E.2.1 d_L_law_686 rfl (lv_at hl 1 rfl) ?_
  refine xk_wrap C0 (l_takeRange l hL D x w o cJ cZ β n q f hok.1 hok.2 hap.2.1.1 hap.2.2.1.1 hap.2.2.1.2.1 ((xsl ((xs (7 * j + 1)).toInt64) 32) ||| (((xs (7 * j + 2)).toInt64) &&& 4294967295)) ((xsl ((xs (7 * j + 3)).toInt64) 32) ||| (((xs (7 * j + 4)).toInt64) &&& 4294967295))) ww_takeRange (by decide) hP hPM hO hS rfl hl.1 rfl (Nat.le_of_ble_eq_true rfl) (by omega) (by omega) d_L_law_687 (fun H1 f1 hf1 hP1 hPM1 hO1 hS1 => ?_)
  clear hP hPM hO hS
  have hS := hS1
  refine W.eq (g2 := F0 m 690 ls [.int (nI (sp_takeRange (β, n, q) ((xsl ((xs (7 * j + 1)).toInt64) 32) ||| (((xs (7 * j + 2)).toInt64) &&& 4294967295)) ((xsl ((xs (7 * j + 3)).toInt64) 32) ||| (((xs (7 * j + 4)).toInt64) &&& 4294967295))).1)]) rfl ?_
  refine lv_istore E.1 E.2.1 d_L_law_690 hl (by decide) rfl (fun ls hl => ?_)
  have hl : lv_has ls 8 [(5, .int (nI (sp_takeRange (β, n, q) ((xsl ((xs (7 * j + 1)).toInt64) 32) ||| (((xs (7 * j + 2)).toInt64) &&& 4294967295)) ((xsl ((xs (7 * j + 3)).toInt64) 32) ||| (((xs (7 * j + 4)).toInt64) &&& 4294967295))).1)), (4, .int (nI (7 * j))), (3, .ref o), (2, .ref b), (1, .ref x), (0, .ref scr)] := hl
  refine lv_aload_n E.1 E.2.1 d_L_law_692 rfl (lv_at hl 3 rfl) ?_
  refine lv_aload_n E.1 E.2.1 d_L_law_693 rfl (lv_at hl 5 rfl) ?_
  refine lv_iload E.1 E.2.1 d_L_law_694 (lv_at hl 1 rfl) ?_
  refine lv_iconst (v := 1) E.1 E.2.1 d_L_law_696 (by decide) ?_
  refine lv_iadd E.1 E.2.1 d_L_law_697 ?_
  refine xl_ti (y := nI (7 * j + 1)) (nI_add (7 * j) 1) ?_
  refine va_sld E.1 E.2.1 hX hsc hbA hS (vp_in_nI (n := 7 * j + 1) (by omega) (by omega)) d_L_law_698 ?_
  refine xl_ti (y := xs (7 * j + 1)) (by rw [nI_clamp (by omega)]) ?_
  refine lv_i2l (v := (xs (7 * j + 1)).toInt64) E.1 E.2.1 d_L_law_699 rfl ?_
  refine lv_bipush (v := 32) E.1 E.2.1 d_L_law_700 (by decide) ?_
  refine lv_lshl (v := xsl ((xs (7 * j + 1)).toInt64) 32) E.1 E.2.1 d_L_law_702 rfl ?_
  refine lv_aload_n E.1 E.2.1 d_L_law_703 rfl (lv_at hl 5 rfl) ?_
  refine lv_iload E.1 E.2.1 d_L_law_704 (lv_at hl 1 rfl) ?_
  refine lv_iconst (v := 2) E.1 E.2.1 d_L_law_706 (by decide) ?_
  refine lv_iadd E.1 E.2.1 d_L_law_707 ?_
  refine xl_ti (y := nI (7 * j + 2)) (nI_add (7 * j) 2) ?_
  refine va_sld E.1 E.2.1 hX hsc hbA hS (vp_in_nI (n := 7 * j + 2) (by omega) (by omega)) d_L_law_708 ?_
  refine xl_ti (y := xs (7 * j + 2)) (by rw [nI_clamp (by omega)]) ?_
  refine lv_i2l (v := (xs (7 * j + 2)).toInt64) E.1 E.2.1 d_L_law_709 rfl ?_
  refine lv_ldc2 (v := 4294967295) E.1 E.2.1 E.2.2.2.1 (E.2.2.2.2 _ co_L_66) d_L_law_710 ?_
  refine lv_land E.1 E.2.1 d_L_law_713 ?_
  refine lv_lor E.1 E.2.1 d_L_law_714 ?_
  refine lv_aload_n E.1 E.2.1 d_L_law_715 rfl (lv_at hl 5 rfl) ?_
  refine lv_iload E.1 E.2.1 d_L_law_716 (lv_at hl 1 rfl) ?_
  refine lv_iconst (v := 3) E.1 E.2.1 d_L_law_718 (by decide) ?_
  refine lv_iadd E.1 E.2.1 d_L_law_719 ?_
  refine xl_ti (y := nI (7 * j + 3)) (nI_add (7 * j) 3) ?_
  refine va_sld E.1 E.2.1 hX hsc hbA hS (vp_in_nI (n := 7 * j + 3) (by omega) (by omega)) d_L_law_720 ?_
  refine xl_ti (y := xs (7 * j + 3)) (by rw [nI_clamp (by omega)]) ?_
  refine lv_i2l (v := (xs (7 * j + 3)).toInt64) E.1 E.2.1 d_L_law_721 rfl ?_
  refine lv_bipush (v := 32) E.1 E.2.1 d_L_law_722 (by decide) ?_
  refine lv_lshl (v := xsl ((xs (7 * j + 3)).toInt64) 32) E.1 E.2.1 d_L_law_724 rfl ?_
  refine lv_aload_n E.1 E.2.1 d_L_law_725 rfl (lv_at hl 5 rfl) ?_
  refine lv_iload E.1 E.2.1 d_L_law_726 (lv_at hl 1 rfl) ?_
  refine lv_iconst (v := 4) E.1 E.2.1 d_L_law_728 (by decide) ?_
  refine lv_iadd E.1 E.2.1 d_L_law_729 ?_
  refine xl_ti (y := nI (7 * j + 4)) (nI_add (7 * j) 4) ?_
  refine va_sld E.1 E.2.1 hX hsc hbA hS (vp_in_nI (n := 7 * j + 4) (by omega) (by omega)) d_L_law_730 ?_
  refine xl_ti (y := xs (7 * j + 4)) (by rw [nI_clamp (by omega)]) ?_
  refine lv_i2l (v := (xs (7 * j + 4)).toInt64) E.1 E.2.1 d_L_law_731 rfl ?_
  refine lv_ldc2 (v := 4294967295) E.1 E.2.1 E.2.2.2.1 (E.2.2.2.2 _ co_L_66) d_L_law_732 ?_
  refine lv_land E.1 E.2.1 d_L_law_735 ?_
  refine lv_lor E.1 E.2.1 d_L_law_736 ?_
  refine xk_model C0 (m_takeRange l D b r cJ cZ β n q fa rd gd hok.1 hok.2 hap.2.1.2 ((xsl ((xs (7 * j + 1)).toInt64) 32) ||| (((xs (7 * j + 2)).toInt64) &&& 4294967295)) ((xsl ((xs (7 * j + 3)).toInt64) 32) ||| (((xs (7 * j + 4)).toInt64) &&& 4294967295))) vw_L_M_takeRange rfl (by decide) hP1 hPM1 hO1 hS1 rfl hl.1 rfl (Nat.le_of_ble_eq_true rfl) (by omega) (by omega) d_L_law_737 (fun v st t hrt hP2 hO2 hS2 => ?_)
  obtain ⟨i, rd2, gd2, rfl, hi, hPM2⟩ := hrt
  generalize t.heap = H2 at hPM2 hP2 hO2 hS2 ⊢
  refine W.eq (g2 := F0 m 740 ls [.long i]) rfl ?_
  have hs2 := s2_takeRange (β, n, q) ((xsl ((xs (7 * j + 1)).toInt64) 32) ||| (((xs (7 * j + 2)).toInt64) &&& 4294967295)) ((xsl ((xs (7 * j + 3)).toInt64) 32) ||| (((xs (7 * j + 4)).toInt64) &&& 4294967295))
  have hok2 : xok (sp_takeRange (β, n, q) ((xsl ((xs (7 * j + 1)).toInt64) 32) ||| (((xs (7 * j + 2)).toInt64) &&& 4294967295)) ((xsl ((xs (7 * j + 3)).toInt64) 32) ||| (((xs (7 * j + 4)).toInt64) &&& 4294967295))).2.2 := so_takeRange hok
  generalize sp_takeRange (β, n, q) ((xsl ((xs (7 * j + 1)).toInt64) 32) ||| (((xs (7 * j + 2)).toInt64) &&& 4294967295)) ((xsl ((xs (7 * j + 3)).toInt64) 32) ||| (((xs (7 * j + 4)).toInt64) &&& 4294967295)) = z at hf1 hi hPM2 hP2 hl hs2 hok2 ⊢
  refine lv_lstore E.1 E.2.1 d_L_law_740 hl (by decide) rfl (fun ls hl => ?_)
  have hl : lv_has ls 8 [(6, .long i), (5, .int (nI z.1)), (4, .int (nI (7 * j))), (3, .ref o), (2, .ref b), (1, .ref x), (0, .ref scr)] := hl
  refine lv_aload_n E.1 E.2.1 d_L_law_742 rfl (lv_at hl 4 rfl) ?_
  refine xk_thrown C0 hPM2 hl.1 (Nat.le_of_ble_eq_true rfl) (by omega) (by omega) d_L_law_743 ?_
  refine lv_iload E.1 E.2.1 d_L_law_746 (lv_at hl 1 rfl) ?_
  have hfin : W p l e room_1 s m #[Value.ref scr] below meth c H2 [] (5 + j + 1) (66570 + 6 * j + 6) (lw_Z below #[Value.ref scr] s) (F0 m 1102 ls []) := next z.2.2 H2 ls f1 _ rd2 gd2 hok2 hP2 hPM2 hO2 hS2 (lv_sub hl [2, 3, 4, 5, 6] rfl)
  refine lv_icmp_eq (tgt := 753) E.1 E.2.1 d_L_law_748 (by decide) (fun h1 => ?_) (fun h1 => ?_)
  · skip
    refine lv_iload E.1 E.2.1 d_L_law_753 (lv_at hl 1 rfl) ?_
    refine lv_if_ne (tgt := 769) E.1 E.2.1 d_L_law_755 (by decide) (fun h2 => ?_) (fun h2 => ?_)
    · skip
      refine lv_goto (tgt := 1102) E.1 E.2.1 d_L_law_769 (by decide) ?_
      exact hfin
    · skip
      have h2 : z.1 = 0 := (nI_eq (b := 0) (by omega) (by decide)).mp h2
      refine lv_aload_n E.1 E.2.1 d_L_law_758 rfl (lv_at hl 3 rfl) ?_
      refine lv_iconst (v := 0) E.1 E.2.1 d_L_law_759 (by decide) ?_
      refine va_lald E.1 E.2.1 hK hO2 0 0 rfl rfl (vp_in_nI (n := 0) (N := 1) (by decide) (by decide)) d_L_law_760 ?_
      refine xl_tl (y := z.2.1) (hf1 h2) ?_
      refine lv_lload E.1 E.2.1 d_L_law_761 (lv_at hl 0 rfl) ?_
      refine xl_tl (y := z.2.1) (hi h2) ?_
      refine xl_lc_eq (tgt := 769) E.1 E.2.1 d_L_law_763 d_L_law_764 (by decide) (fun h3 => ?_) (fun h3 => ?_)
      · skip
        refine lv_goto (tgt := 1102) E.1 E.2.1 d_L_law_769 (by decide) ?_
        exact hfin
      · skip
        exact absurd rfl h3
  · skip
    exact absurd rfl h1
end XL34d

