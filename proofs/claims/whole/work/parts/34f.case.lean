/-! The law's cases: turn, cut, count. -/
section XL34f
theorem ww_turn : xwW 109 y_L_turn b_L_turn 4 [(0, 16, 19, 13)] 3 := ⟨⟨by decide, by decide, by decide +kernel⟩, cw_L_turn, in_L_ini, lk_L_turn, st_L_turn⟩
set_option maxHeartbeats 4000000 in
set_option maxRecDepth 100000 in
theorem k_turn {p : Program} {l : Launch} {e : Env} {s : State} {m : MethodId} {below : List Frame} {meth : Method} {c : Code} {scr L : Nat} {xs : Nat → Int32} {D : va_G} {x w b r o : Nat} {cJ cZ : ClassId} {β : Nat → Bool} {n q : Nat} {f : Nat → Int64} {fa : Int32} {rd : Nat} {gd : Bool} {H : Heap} {ls : Array Slot} (C : xCx p l s m c scr L xs D x w b r o cJ cZ) (j : Nat) (hj : 7 * j + 7 ≤ L) (hok : xok (β, n, q)) (hP : PX D x w cJ β n q H) (hPM : PM D b r cZ β n q fa rd gd H) (hO : xOut D o cJ f H) (hS : va_S (xnew s) s.heap H []) (hl : lv_has ls 8 [(4, .int (nI (7 * j))), (3, .ref o), (2, .ref b), (1, .ref x), (0, .ref scr)])
    (next : xNext p l e s m below meth c scr D x w b r o cJ cZ j) :
    W p l e room_1 s m #[Value.ref scr] below meth c H [] (5 + j) (66570 + 6 * j) (lw_Z below #[Value.ref scr] s) (F0 m 927 ls []) := by
  have C0 := C
  obtain ⟨E, hL, hK, hN, hQ0, hX, hsc, hLb, hap⟩ := C
  have hbA : ¬ xnew s scr := fun z => Nat.not_le.mpr hsc z
  refine lv_aload_n E.1 E.2.1 d_L_law_927 rfl (lv_at hl 3 rfl) ?_
  refine lv_aload_n E.1 E.2.1 d_L_law_928 rfl (lv_at hl 4 rfl) ?_
  refine lv_iload E.1 E.2.1 d_L_law_929 (lv_at hl 0 rfl) ?_
  refine lv_iconst (v := 1) E.1 E.2.1 d_L_law_931 (by decide) ?_
  refine lv_iadd E.1 E.2.1 d_L_law_932 ?_
  refine xl_ti (y := nI (7 * j + 1)) (nI_add (7 * j) 1) ?_
  refine va_sld E.1 E.2.1 hX hsc hbA hS (vp_in_nI (n := 7 * j + 1) (by omega) (by omega)) d_L_law_933 ?_
  refine xl_ti (y := xs (7 * j + 1)) (by rw [nI_clamp (by omega)]) ?_
  refine lv_aload_n E.1 E.2.1 d_L_law_934 rfl (lv_at hl 1 rfl) ?_
  refine xk_wrap C0 (l_turn l hL D x w o cJ cZ β n q f hok.1 hok.2 hap.2.1.1 hap.2.2.1.1 hap.2.2.1.2.1 (xs (7 * j + 1))) ww_turn (by decide) hP hPM hO hS rfl hl.1 rfl (Nat.le_of_ble_eq_true rfl) (by omega) (by omega) d_L_law_935 (fun H1 f1 hf1 hP1 hPM1 hO1 hS1 => ?_)
  clear hP hPM hO hS
  have hS := hS1
  refine W.eq (g2 := F0 m 938 ls [.int (nI (sp_turn (β, n, q) (xs (7 * j + 1))).1)]) rfl ?_
  refine lv_istore E.1 E.2.1 d_L_law_938 hl (by decide) rfl (fun ls hl => ?_)
  have hl : lv_has ls 8 [(5, .int (nI (sp_turn (β, n, q) (xs (7 * j + 1))).1)), (4, .int (nI (7 * j))), (3, .ref o), (2, .ref b), (1, .ref x), (0, .ref scr)] := hl
  refine lv_aload_n E.1 E.2.1 d_L_law_940 rfl (lv_at hl 3 rfl) ?_
  refine lv_aload_n E.1 E.2.1 d_L_law_941 rfl (lv_at hl 5 rfl) ?_
  refine lv_iload E.1 E.2.1 d_L_law_942 (lv_at hl 1 rfl) ?_
  refine lv_iconst (v := 1) E.1 E.2.1 d_L_law_944 (by decide) ?_
  refine lv_iadd E.1 E.2.1 d_L_law_945 ?_
  refine xl_ti (y := nI (7 * j + 1)) (nI_add (7 * j) 1) ?_
  refine va_sld E.1 E.2.1 hX hsc hbA hS (vp_in_nI (n := 7 * j + 1) (by omega) (by omega)) d_L_law_946 ?_
  refine xl_ti (y := xs (7 * j + 1)) (by rw [nI_clamp (by omega)]) ?_
  refine xk_model C0 (m_turn l D b r cJ cZ β n q fa rd gd hok.1 hok.2 hap.2.1.2 (xs (7 * j + 1))) vw_L_M_turn rfl (by decide) hP1 hPM1 hO1 hS1 rfl hl.1 rfl (Nat.le_of_ble_eq_true rfl) (by omega) (by omega) d_L_law_947 (fun v st t hrt hP2 hO2 hS2 => ?_)
  obtain ⟨i, rd2, gd2, rfl, hi, hPM2⟩ := hrt
  generalize t.heap = H2 at hPM2 hP2 hO2 hS2 ⊢
  refine W.eq (g2 := F0 m 950 ls [.int i]) rfl ?_
  have hs2 := s2_turn (β, n, q) (xs (7 * j + 1))
  have hok2 : xok (sp_turn (β, n, q) (xs (7 * j + 1))).2.2 := so_turn hok
  have hsb := sb_turn (β, n, q) (xs (7 * j + 1))
  generalize sp_turn (β, n, q) (xs (7 * j + 1)) = z at hf1 hi hPM2 hP2 hl hs2 hok2 hsb ⊢
  refine lv_istore E.1 E.2.1 d_L_law_950 hl (by decide) rfl (fun ls hl => ?_)
  have hl : lv_has ls 8 [(6, .int i), (5, .int (nI z.1)), (4, .int (nI (7 * j))), (3, .ref o), (2, .ref b), (1, .ref x), (0, .ref scr)] := hl
  refine lv_aload_n E.1 E.2.1 d_L_law_952 rfl (lv_at hl 4 rfl) ?_
  refine xk_thrown C0 hPM2 hl.1 (Nat.le_of_ble_eq_true rfl) (by omega) (by omega) d_L_law_953 ?_
  refine lv_iload E.1 E.2.1 d_L_law_956 (lv_at hl 1 rfl) ?_
  have hfin : W p l e room_1 s m #[Value.ref scr] below meth c H2 [] (5 + j + 1) (66570 + 6 * j + 6) (lw_Z below #[Value.ref scr] s) (F0 m 1102 ls []) := next z.2.2 H2 ls f1 _ rd2 gd2 hok2 hP2 hPM2 hO2 hS2 (lv_sub hl [2, 3, 4, 5, 6] rfl)
  refine lv_icmp_eq (tgt := 963) E.1 E.2.1 d_L_law_958 (by decide) (fun h1 => ?_) (fun h1 => ?_)
  · skip
    refine lv_iload E.1 E.2.1 d_L_law_963 (lv_at hl 1 rfl) ?_
    refine lv_if_ne (tgt := 987) E.1 E.2.1 d_L_law_965 (by decide) (fun h2 => ?_) (fun h2 => ?_)
    · skip
      refine lv_goto (tgt := 1102) E.1 E.2.1 d_L_law_987 (by decide) ?_
      exact hfin
    · skip
      have h2 : z.1 = 0 := (nI_eq (b := 0) (by omega) (by decide)).mp h2
      refine lv_aload_n E.1 E.2.1 d_L_law_968 rfl (lv_at hl 3 rfl) ?_
      refine lv_iconst (v := 0) E.1 E.2.1 d_L_law_969 (by decide) ?_
      refine va_lald E.1 E.2.1 hK hO2 0 0 rfl rfl (vp_in_nI (n := 0) (N := 1) (by decide) (by decide)) d_L_law_970 ?_
      refine xl_tl (y := z.2.1) (hf1 h2) ?_
      refine lv_iload E.1 E.2.1 d_L_law_971 (lv_at hl 0 rfl) ?_
      refine lv_if_eq (tgt := 980) E.1 E.2.1 d_L_law_973 (by decide) (fun h4 => ?_) (fun h4 => ?_)
      · skip
        refine lv_lconst (v := 0) E.1 E.2.1 d_L_law_980 (by decide) ?_
        refine xl_tl (y := z.2.1) (by rw [← hi h2, h4]; rfl) ?_
        refine xl_lc_eq (tgt := 987) E.1 E.2.1 d_L_law_981 d_L_law_982 (by decide) (fun h3 => ?_) (fun h3 => ?_)
        · skip
          refine lv_goto (tgt := 1102) E.1 E.2.1 d_L_law_987 (by decide) ?_
          exact hfin
        · skip
          exact absurd rfl h3
      · skip
        refine lv_lconst (v := 1) E.1 E.2.1 d_L_law_976 (by decide) ?_
        refine lv_goto (tgt := 981) E.1 E.2.1 d_L_law_977 (by decide) ?_
        refine xl_tl (y := z.2.1) (xz_bool2 hsb (hi h2) h4) ?_
        refine xl_lc_eq (tgt := 987) E.1 E.2.1 d_L_law_981 d_L_law_982 (by decide) (fun h3 => ?_) (fun h3 => ?_)
        · skip
          refine lv_goto (tgt := 1102) E.1 E.2.1 d_L_law_987 (by decide) ?_
          exact hfin
        · skip
          exact absurd rfl h3
  · skip
    exact absurd rfl h1
theorem ww_cut : xwW 112 y_L_cut b_L_cut 4 [(0, 9, 12, 13)] 3 := ⟨⟨by decide, by decide, by decide +kernel⟩, cw_L_cut, in_L_ini, lk_L_cut, st_L_cut⟩
set_option maxHeartbeats 4000000 in
set_option maxRecDepth 100000 in
theorem k_cut {p : Program} {l : Launch} {e : Env} {s : State} {m : MethodId} {below : List Frame} {meth : Method} {c : Code} {scr L : Nat} {xs : Nat → Int32} {D : va_G} {x w b r o : Nat} {cJ cZ : ClassId} {β : Nat → Bool} {n q : Nat} {f : Nat → Int64} {fa : Int32} {rd : Nat} {gd : Bool} {H : Heap} {ls : Array Slot} (C : xCx p l s m c scr L xs D x w b r o cJ cZ) (j : Nat) (hj : 7 * j + 7 ≤ L) (hok : xok (β, n, q)) (hP : PX D x w cJ β n q H) (hPM : PM D b r cZ β n q fa rd gd H) (hO : xOut D o cJ f H) (hS : va_S (xnew s) s.heap H []) (hl : lv_has ls 8 [(4, .int (nI (7 * j))), (3, .ref o), (2, .ref b), (1, .ref x), (0, .ref scr)])
    (next : xNext p l e s m below meth c scr D x w b r o cJ cZ j) :
    W p l e room_1 s m #[Value.ref scr] below meth c H [] (5 + j) (66570 + 6 * j) (lw_Z below #[Value.ref scr] s) (F0 m 990 ls []) := by
  have C0 := C
  obtain ⟨E, hL, hK, hN, hQ0, hX, hsc, hLb, hap⟩ := C
  have hbA : ¬ xnew s scr := fun z => Nat.not_le.mpr hsc z
  refine lv_aload_n E.1 E.2.1 d_L_law_990 rfl (lv_at hl 3 rfl) ?_
  refine lv_aload_n E.1 E.2.1 d_L_law_991 rfl (lv_at hl 4 rfl) ?_
  refine lv_iload E.1 E.2.1 d_L_law_992 (lv_at hl 0 rfl) ?_
  refine lv_iconst (v := 1) E.1 E.2.1 d_L_law_994 (by decide) ?_
  refine lv_iadd E.1 E.2.1 d_L_law_995 ?_
  refine xl_ti (y := nI (7 * j + 1)) (nI_add (7 * j) 1) ?_
  refine va_sld E.1 E.2.1 hX hsc hbA hS (vp_in_nI (n := 7 * j + 1) (by omega) (by omega)) d_L_law_996 ?_
  refine xl_ti (y := xs (7 * j + 1)) (by rw [nI_clamp (by omega)]) ?_
  refine lv_aload_n E.1 E.2.1 d_L_law_997 rfl (lv_at hl 1 rfl) ?_
  refine xk_wrap C0 (l_cut l hL D x w o cJ cZ β n q f hok.1 hok.2 hap.2.1.1 hap.2.2.1.1 hap.2.2.1.2.1 (xs (7 * j + 1))) ww_cut (by decide) hP hPM hO hS rfl hl.1 rfl (Nat.le_of_ble_eq_true rfl) (by omega) (by omega) d_L_law_998 (fun H1 f1 hf1 hP1 hPM1 hO1 hS1 => ?_)
  clear hP hPM hO hS
  have hS := hS1
  refine W.eq (g2 := F0 m 1001 ls [.int (nI (sp_cut (β, n, q) (xs (7 * j + 1))).1)]) rfl ?_
  refine lv_istore E.1 E.2.1 d_L_law_1001 hl (by decide) rfl (fun ls hl => ?_)
  have hl : lv_has ls 8 [(5, .int (nI (sp_cut (β, n, q) (xs (7 * j + 1))).1)), (4, .int (nI (7 * j))), (3, .ref o), (2, .ref b), (1, .ref x), (0, .ref scr)] := hl
  refine lv_aload_n E.1 E.2.1 d_L_law_1003 rfl (lv_at hl 3 rfl) ?_
  refine lv_aload_n E.1 E.2.1 d_L_law_1004 rfl (lv_at hl 5 rfl) ?_
  refine lv_iload E.1 E.2.1 d_L_law_1005 (lv_at hl 1 rfl) ?_
  refine lv_iconst (v := 1) E.1 E.2.1 d_L_law_1007 (by decide) ?_
  refine lv_iadd E.1 E.2.1 d_L_law_1008 ?_
  refine xl_ti (y := nI (7 * j + 1)) (nI_add (7 * j) 1) ?_
  refine va_sld E.1 E.2.1 hX hsc hbA hS (vp_in_nI (n := 7 * j + 1) (by omega) (by omega)) d_L_law_1009 ?_
  refine xl_ti (y := xs (7 * j + 1)) (by rw [nI_clamp (by omega)]) ?_
  refine xk_model C0 (m_cut l D b r cJ cZ β n q fa rd gd hok.1 hok.2 hap.2.1.2 (xs (7 * j + 1))) vw_L_M_cut rfl (by decide) hP1 hPM1 hO1 hS1 rfl hl.1 rfl (Nat.le_of_ble_eq_true rfl) (by omega) (by omega) d_L_law_1010 (fun v st t hrt hP2 hO2 hS2 => ?_)
  obtain ⟨i, rd2, gd2, rfl, hi, hPM2⟩ := hrt
  generalize t.heap = H2 at hPM2 hP2 hO2 hS2 ⊢
  refine W.eq (g2 := F0 m 1013 ls [.int i]) rfl ?_
  have hs2 := s2_cut (β, n, q) (xs (7 * j + 1))
  have hok2 : xok (sp_cut (β, n, q) (xs (7 * j + 1))).2.2 := so_cut hok
  generalize sp_cut (β, n, q) (xs (7 * j + 1)) = z at hf1 hi hPM2 hP2 hl hs2 hok2 ⊢
  refine lv_istore E.1 E.2.1 d_L_law_1013 hl (by decide) rfl (fun ls hl => ?_)
  have hl : lv_has ls 8 [(6, .int i), (5, .int (nI z.1)), (4, .int (nI (7 * j))), (3, .ref o), (2, .ref b), (1, .ref x), (0, .ref scr)] := hl
  refine lv_aload_n E.1 E.2.1 d_L_law_1015 rfl (lv_at hl 4 rfl) ?_
  refine xk_thrown C0 hPM2 hl.1 (Nat.le_of_ble_eq_true rfl) (by omega) (by omega) d_L_law_1016 ?_
  refine lv_iload E.1 E.2.1 d_L_law_1019 (lv_at hl 1 rfl) ?_
  have hfin : W p l e room_1 s m #[Value.ref scr] below meth c H2 [] (5 + j + 1) (66570 + 6 * j + 6) (lw_Z below #[Value.ref scr] s) (F0 m 1102 ls []) := next z.2.2 H2 ls f1 _ rd2 gd2 hok2 hP2 hPM2 hO2 hS2 (lv_sub hl [2, 3, 4, 5, 6] rfl)
  refine lv_icmp_eq (tgt := 1026) E.1 E.2.1 d_L_law_1021 (by decide) (fun h1 => ?_) (fun h1 => ?_)
  · skip
    refine lv_iload E.1 E.2.1 d_L_law_1026 (lv_at hl 1 rfl) ?_
    refine lv_if_ne (tgt := 1043) E.1 E.2.1 d_L_law_1028 (by decide) (fun h2 => ?_) (fun h2 => ?_)
    · skip
      refine lv_goto (tgt := 1102) E.1 E.2.1 d_L_law_1043 (by decide) ?_
      exact hfin
    · skip
      have h2 : z.1 = 0 := (nI_eq (b := 0) (by omega) (by decide)).mp h2
      refine lv_aload_n E.1 E.2.1 d_L_law_1031 rfl (lv_at hl 3 rfl) ?_
      refine lv_iconst (v := 0) E.1 E.2.1 d_L_law_1032 (by decide) ?_
      refine va_lald E.1 E.2.1 hK hO2 0 0 rfl rfl (vp_in_nI (n := 0) (N := 1) (by decide) (by decide)) d_L_law_1033 ?_
      refine xl_tl (y := z.2.1) (hf1 h2) ?_
      refine lv_iload E.1 E.2.1 d_L_law_1034 (lv_at hl 0 rfl) ?_
      refine lv_i2l (v := i.toInt64) E.1 E.2.1 d_L_law_1036 rfl ?_
      refine xl_tl (y := z.2.1) (hi h2) ?_
      refine xl_lc_eq (tgt := 1043) E.1 E.2.1 d_L_law_1037 d_L_law_1038 (by decide) (fun h3 => ?_) (fun h3 => ?_)
      · skip
        refine lv_goto (tgt := 1102) E.1 E.2.1 d_L_law_1043 (by decide) ?_
        exact hfin
      · skip
        exact absurd rfl h3
  · skip
    exact absurd rfl h1
theorem ww_count : xwW 115 y_L_count b_L_count 4 [(0, 9, 12, 13)] 3 := ⟨⟨by decide, by decide, by decide +kernel⟩, cw_L_count, in_L_ini, lk_L_count, st_L_count⟩
set_option maxHeartbeats 4000000 in
set_option maxRecDepth 100000 in
theorem k_count {p : Program} {l : Launch} {e : Env} {s : State} {m : MethodId} {below : List Frame} {meth : Method} {c : Code} {scr L : Nat} {xs : Nat → Int32} {D : va_G} {x w b r o : Nat} {cJ cZ : ClassId} {β : Nat → Bool} {n q : Nat} {f : Nat → Int64} {fa : Int32} {rd : Nat} {gd : Bool} {H : Heap} {ls : Array Slot} (C : xCx p l s m c scr L xs D x w b r o cJ cZ) (j : Nat) (hj : 7 * j + 7 ≤ L) (hok : xok (β, n, q)) (hP : PX D x w cJ β n q H) (hPM : PM D b r cZ β n q fa rd gd H) (hO : xOut D o cJ f H) (hS : va_S (xnew s) s.heap H []) (hl : lv_has ls 8 [(4, .int (nI (7 * j))), (3, .ref o), (2, .ref b), (1, .ref x), (0, .ref scr)])
    (next : xNext p l e s m below meth c scr D x w b r o cJ cZ j) :
    W p l e room_1 s m #[Value.ref scr] below meth c H [] (5 + j) (66570 + 6 * j) (lw_Z below #[Value.ref scr] s) (F0 m 1046 ls []) := by
  have C0 := C
  obtain ⟨E, hL, hK, hN, hQ0, hX, hsc, hLb, hap⟩ := C
  have hbA : ¬ xnew s scr := fun z => Nat.not_le.mpr hsc z
  refine lv_aload_n E.1 E.2.1 d_L_law_1046 rfl (lv_at hl 3 rfl) ?_
  refine lv_aload_n E.1 E.2.1 d_L_law_1047 rfl (lv_at hl 4 rfl) ?_
  refine lv_iload E.1 E.2.1 d_L_law_1048 (lv_at hl 0 rfl) ?_
  refine lv_iconst (v := 1) E.1 E.2.1 d_L_law_1050 (by decide) ?_
  refine lv_iadd E.1 E.2.1 d_L_law_1051 ?_
  refine xl_ti (y := nI (7 * j + 1)) (nI_add (7 * j) 1) ?_
  refine va_sld E.1 E.2.1 hX hsc hbA hS (vp_in_nI (n := 7 * j + 1) (by omega) (by omega)) d_L_law_1052 ?_
  refine xl_ti (y := xs (7 * j + 1)) (by rw [nI_clamp (by omega)]) ?_
  refine lv_aload_n E.1 E.2.1 d_L_law_1053 rfl (lv_at hl 1 rfl) ?_
  refine xk_wrap C0 (l_count l hL D x w o cJ cZ β n q f hok.1 hok.2 hap.2.1.1 hap.2.2.1.1 hap.2.2.1.2.1 (xs (7 * j + 1))) ww_count (by decide) hP hPM hO hS rfl hl.1 rfl (Nat.le_of_ble_eq_true rfl) (by omega) (by omega) d_L_law_1054 (fun H1 f1 hf1 hP1 hPM1 hO1 hS1 => ?_)
  clear hP hPM hO hS
  have hS := hS1
  refine W.eq (g2 := F0 m 1057 ls [.int (nI (sp_count (β, n, q) (xs (7 * j + 1))).1)]) rfl ?_
  refine lv_istore E.1 E.2.1 d_L_law_1057 hl (by decide) rfl (fun ls hl => ?_)
  have hl : lv_has ls 8 [(5, .int (nI (sp_count (β, n, q) (xs (7 * j + 1))).1)), (4, .int (nI (7 * j))), (3, .ref o), (2, .ref b), (1, .ref x), (0, .ref scr)] := hl
  refine lv_aload_n E.1 E.2.1 d_L_law_1059 rfl (lv_at hl 3 rfl) ?_
  refine lv_aload_n E.1 E.2.1 d_L_law_1060 rfl (lv_at hl 5 rfl) ?_
  refine lv_iload E.1 E.2.1 d_L_law_1061 (lv_at hl 1 rfl) ?_
  refine lv_iconst (v := 1) E.1 E.2.1 d_L_law_1063 (by decide) ?_
  refine lv_iadd E.1 E.2.1 d_L_law_1064 ?_
  refine xl_ti (y := nI (7 * j + 1)) (nI_add (7 * j) 1) ?_
  refine va_sld E.1 E.2.1 hX hsc hbA hS (vp_in_nI (n := 7 * j + 1) (by omega) (by omega)) d_L_law_1065 ?_
  refine xl_ti (y := xs (7 * j + 1)) (by rw [nI_clamp (by omega)]) ?_
  refine xk_model C0 (m_count l D b r cJ cZ β n q fa rd gd hok.1 hok.2 hap.2.1.2 (xs (7 * j + 1))) vw_L_M_count rfl (by decide) hP1 hPM1 hO1 hS1 rfl hl.1 rfl (Nat.le_of_ble_eq_true rfl) (by omega) (by omega) d_L_law_1066 (fun v st t hrt hP2 hO2 hS2 => ?_)
  obtain ⟨i, rd2, gd2, rfl, hi, hPM2⟩ := hrt
  generalize t.heap = H2 at hPM2 hP2 hO2 hS2 ⊢
  refine W.eq (g2 := F0 m 1069 ls [.int i]) rfl ?_
  have hs2 := s2_count (β, n, q) (xs (7 * j + 1))
  have hok2 : xok (sp_count (β, n, q) (xs (7 * j + 1))).2.2 := so_count hok
  generalize sp_count (β, n, q) (xs (7 * j + 1)) = z at hf1 hi hPM2 hP2 hl hs2 hok2 ⊢
  refine lv_istore E.1 E.2.1 d_L_law_1069 hl (by decide) rfl (fun ls hl => ?_)
  have hl : lv_has ls 8 [(6, .int i), (5, .int (nI z.1)), (4, .int (nI (7 * j))), (3, .ref o), (2, .ref b), (1, .ref x), (0, .ref scr)] := hl
  refine lv_aload_n E.1 E.2.1 d_L_law_1071 rfl (lv_at hl 4 rfl) ?_
  refine xk_thrown C0 hPM2 hl.1 (Nat.le_of_ble_eq_true rfl) (by omega) (by omega) d_L_law_1072 ?_
  refine lv_iload E.1 E.2.1 d_L_law_1075 (lv_at hl 1 rfl) ?_
  have hfin : W p l e room_1 s m #[Value.ref scr] below meth c H2 [] (5 + j + 1) (66570 + 6 * j + 6) (lw_Z below #[Value.ref scr] s) (F0 m 1102 ls []) := next z.2.2 H2 ls f1 _ rd2 gd2 hok2 hP2 hPM2 hO2 hS2 (lv_sub hl [2, 3, 4, 5, 6] rfl)
  refine lv_icmp_eq (tgt := 1082) E.1 E.2.1 d_L_law_1077 (by decide) (fun h1 => ?_) (fun h1 => ?_)
  · skip
    refine lv_iload E.1 E.2.1 d_L_law_1082 (lv_at hl 1 rfl) ?_
    refine lv_if_ne (tgt := 1099) E.1 E.2.1 d_L_law_1084 (by decide) (fun h2 => ?_) (fun h2 => ?_)
    · skip
      refine lv_goto (tgt := 1102) E.1 E.2.1 d_L_law_1099 (by decide) ?_
      exact hfin
    · skip
      have h2 : z.1 = 0 := (nI_eq (b := 0) (by omega) (by decide)).mp h2
      refine lv_aload_n E.1 E.2.1 d_L_law_1087 rfl (lv_at hl 3 rfl) ?_
      refine lv_iconst (v := 0) E.1 E.2.1 d_L_law_1088 (by decide) ?_
      refine va_lald E.1 E.2.1 hK hO2 0 0 rfl rfl (vp_in_nI (n := 0) (N := 1) (by decide) (by decide)) d_L_law_1089 ?_
      refine xl_tl (y := z.2.1) (hf1 h2) ?_
      refine lv_iload E.1 E.2.1 d_L_law_1090 (lv_at hl 0 rfl) ?_
      refine lv_i2l (v := i.toInt64) E.1 E.2.1 d_L_law_1092 rfl ?_
      refine xl_tl (y := z.2.1) (hi h2) ?_
      refine xl_lc_eq (tgt := 1099) E.1 E.2.1 d_L_law_1093 d_L_law_1094 (by decide) (fun h3 => ?_) (fun h3 => ?_)
      · skip
        refine lv_goto (tgt := 1102) E.1 E.2.1 d_L_law_1099 (by decide) ?_
        exact hfin
      · skip
        exact absurd rfl h3
  · skip
    exact absurd rfl h1
end XL34f

