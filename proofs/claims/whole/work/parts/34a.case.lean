/-! The law's cases: put. -/
section XL34a
theorem ww_put : xwW 68 y_L_put b_L_put 6 [(0, 11, 14, 13), (0, 11, 18, 15)] 4 := ⟨⟨by decide, by decide, by decide +kernel⟩, cw_L_put, in_L_ini, lk_L_put, st_L_put⟩
set_option maxHeartbeats 4000000 in
set_option maxRecDepth 100000 in
theorem k_put {p : Program} {l : Launch} {e : Env} {s : State} {m : MethodId} {below : List Frame} {meth : Method} {c : Code} {scr L : Nat} {xs : Nat → Int32} {D : va_G} {x w b r o : Nat} {cJ cZ : ClassId} {β : Nat → Bool} {n q : Nat} {f : Nat → Int64} {fa : Int32} {rd : Nat} {gd : Bool} {H : Heap} {ls : Array Slot} (C : xCx p l s m c scr L xs D x w b r o cJ cZ) (j : Nat) (hj : 7 * j + 7 ≤ L) (hok : xok (β, n, q)) (hP : PX D x w cJ β n q H) (hPM : PM D b r cZ β n q fa rd gd H) (hO : xOut D o cJ f H) (hS : va_S (xnew s) s.heap H []) (hl : lv_has ls 8 [(4, .int (nI (7 * j))), (3, .ref o), (2, .ref b), (1, .ref x), (0, .ref scr)])
    (next : xNext p l e s m below meth c scr D x w b r o cJ cZ j) :
    W p l e room_1 s m #[Value.ref scr] below meth c H [] (5 + j) (66570 + 6 * j) (lw_Z below #[Value.ref scr] s) (F0 m 108 ls []) := by
  have C0 := C
  obtain ⟨E, hL, hK, hN, hQ0, hX, hsc, hLb, hap⟩ := C
  have hbA : ¬ xnew s scr := fun z => Nat.not_le.mpr hsc z
  refine lv_aload_n E.1 E.2.1 d_L_law_108 rfl (lv_at hl 3 rfl) ?_
  refine lv_aload_n E.1 E.2.1 d_L_law_109 rfl (lv_at hl 4 rfl) ?_
  refine lv_iload E.1 E.2.1 d_L_law_110 (lv_at hl 0 rfl) ?_
  refine lv_iconst (v := 1) E.1 E.2.1 d_L_law_112 (by decide) ?_
  refine lv_iadd E.1 E.2.1 d_L_law_113 ?_
  refine xl_ti (y := nI (7 * j + 1)) (nI_add (7 * j) 1) ?_
  refine va_sld E.1 E.2.1 hX hsc hbA hS (vp_in_nI (n := 7 * j + 1) (by omega) (by omega)) d_L_law_114 ?_
  refine xl_ti (y := xs (7 * j + 1)) (by rw [nI_clamp (by omega)]) ?_
  refine lv_i2l (v := (xs (7 * j + 1)).toInt64) E.1 E.2.1 d_L_law_115 rfl ?_
  refine lv_bipush (v := 32) E.1 E.2.1 d_L_law_116 (by decide) ?_
  refine lv_lshl (v := xsl ((xs (7 * j + 1)).toInt64) 32) E.1 E.2.1 d_L_law_118 rfl ?_
  refine lv_aload_n E.1 E.2.1 d_L_law_119 rfl (lv_at hl 4 rfl) ?_
  refine lv_iload E.1 E.2.1 d_L_law_120 (lv_at hl 0 rfl) ?_
  refine lv_iconst (v := 2) E.1 E.2.1 d_L_law_122 (by decide) ?_
  refine lv_iadd E.1 E.2.1 d_L_law_123 ?_
  refine xl_ti (y := nI (7 * j + 2)) (nI_add (7 * j) 2) ?_
  refine va_sld E.1 E.2.1 hX hsc hbA hS (vp_in_nI (n := 7 * j + 2) (by omega) (by omega)) d_L_law_124 ?_
  refine xl_ti (y := xs (7 * j + 2)) (by rw [nI_clamp (by omega)]) ?_
  refine lv_i2l (v := (xs (7 * j + 2)).toInt64) E.1 E.2.1 d_L_law_125 rfl ?_
  refine lv_ldc2 (v := 4294967295) E.1 E.2.1 E.2.2.2.1 (E.2.2.2.2 _ co_L_66) d_L_law_126 ?_
  refine lv_land E.1 E.2.1 d_L_law_129 ?_
  refine lv_lor E.1 E.2.1 d_L_law_130 ?_
  refine lv_aload_n E.1 E.2.1 d_L_law_131 rfl (lv_at hl 4 rfl) ?_
  refine lv_iload E.1 E.2.1 d_L_law_132 (lv_at hl 0 rfl) ?_
  refine lv_iconst (v := 3) E.1 E.2.1 d_L_law_134 (by decide) ?_
  refine lv_iadd E.1 E.2.1 d_L_law_135 ?_
  refine xl_ti (y := nI (7 * j + 3)) (nI_add (7 * j) 3) ?_
  refine va_sld E.1 E.2.1 hX hsc hbA hS (vp_in_nI (n := 7 * j + 3) (by omega) (by omega)) d_L_law_136 ?_
  refine xl_ti (y := xs (7 * j + 3)) (by rw [nI_clamp (by omega)]) ?_
  refine lv_aload_n E.1 E.2.1 d_L_law_137 rfl (lv_at hl 1 rfl) ?_
  refine xk_wrap C0 (l_put l hL D x w o cJ cZ β n q f hok.1 hok.2 hap.2.1.1 hap.2.2.1.1 hap.2.2.1.2.1 ((xsl ((xs (7 * j + 1)).toInt64) 32) ||| (((xs (7 * j + 2)).toInt64) &&& 4294967295)) (xs (7 * j + 3))) ww_put (by decide) hP hPM hO hS rfl hl.1 rfl (Nat.le_of_ble_eq_true rfl) (by omega) (by omega) d_L_law_138 (fun H1 f1 hf1 hP1 hPM1 hO1 hS1 => ?_)
  clear hP hPM hO hS
  have hS := hS1
  refine W.eq (g2 := F0 m 141 ls [.int (nI (sp_put (β, n, q) ((xsl ((xs (7 * j + 1)).toInt64) 32) ||| (((xs (7 * j + 2)).toInt64) &&& 4294967295)) (xs (7 * j + 3))).1)]) rfl ?_
  refine lv_istore E.1 E.2.1 d_L_law_141 hl (by decide) rfl (fun ls hl => ?_)
  have hl : lv_has ls 8 [(5, .int (nI (sp_put (β, n, q) ((xsl ((xs (7 * j + 1)).toInt64) 32) ||| (((xs (7 * j + 2)).toInt64) &&& 4294967295)) (xs (7 * j + 3))).1)), (4, .int (nI (7 * j))), (3, .ref o), (2, .ref b), (1, .ref x), (0, .ref scr)] := hl
  refine lv_aload_n E.1 E.2.1 d_L_law_143 rfl (lv_at hl 3 rfl) ?_
  refine lv_aload_n E.1 E.2.1 d_L_law_144 rfl (lv_at hl 5 rfl) ?_
  refine lv_iload E.1 E.2.1 d_L_law_145 (lv_at hl 1 rfl) ?_
  refine lv_iconst (v := 1) E.1 E.2.1 d_L_law_147 (by decide) ?_
  refine lv_iadd E.1 E.2.1 d_L_law_148 ?_
  refine xl_ti (y := nI (7 * j + 1)) (nI_add (7 * j) 1) ?_
  refine va_sld E.1 E.2.1 hX hsc hbA hS (vp_in_nI (n := 7 * j + 1) (by omega) (by omega)) d_L_law_149 ?_
  refine xl_ti (y := xs (7 * j + 1)) (by rw [nI_clamp (by omega)]) ?_
  refine lv_i2l (v := (xs (7 * j + 1)).toInt64) E.1 E.2.1 d_L_law_150 rfl ?_
  refine lv_bipush (v := 32) E.1 E.2.1 d_L_law_151 (by decide) ?_
  refine lv_lshl (v := xsl ((xs (7 * j + 1)).toInt64) 32) E.1 E.2.1 d_L_law_153 rfl ?_
  refine lv_aload_n E.1 E.2.1 d_L_law_154 rfl (lv_at hl 5 rfl) ?_
  refine lv_iload E.1 E.2.1 d_L_law_155 (lv_at hl 1 rfl) ?_
  refine lv_iconst (v := 2) E.1 E.2.1 d_L_law_157 (by decide) ?_
  refine lv_iadd E.1 E.2.1 d_L_law_158 ?_
  refine xl_ti (y := nI (7 * j + 2)) (nI_add (7 * j) 2) ?_
  refine va_sld E.1 E.2.1 hX hsc hbA hS (vp_in_nI (n := 7 * j + 2) (by omega) (by omega)) d_L_law_159 ?_
  refine xl_ti (y := xs (7 * j + 2)) (by rw [nI_clamp (by omega)]) ?_
  refine lv_i2l (v := (xs (7 * j + 2)).toInt64) E.1 E.2.1 d_L_law_160 rfl ?_
  refine lv_ldc2 (v := 4294967295) E.1 E.2.1 E.2.2.2.1 (E.2.2.2.2 _ co_L_66) d_L_law_161 ?_
  refine lv_land E.1 E.2.1 d_L_law_164 ?_
  refine lv_lor E.1 E.2.1 d_L_law_165 ?_
  refine lv_aload_n E.1 E.2.1 d_L_law_166 rfl (lv_at hl 5 rfl) ?_
  refine lv_iload E.1 E.2.1 d_L_law_167 (lv_at hl 1 rfl) ?_
  refine lv_iconst (v := 3) E.1 E.2.1 d_L_law_169 (by decide) ?_
  refine lv_iadd E.1 E.2.1 d_L_law_170 ?_
  refine xl_ti (y := nI (7 * j + 3)) (nI_add (7 * j) 3) ?_
  refine va_sld E.1 E.2.1 hX hsc hbA hS (vp_in_nI (n := 7 * j + 3) (by omega) (by omega)) d_L_law_171 ?_
  refine xl_ti (y := xs (7 * j + 3)) (by rw [nI_clamp (by omega)]) ?_
  refine xk_model C0 (m_put l D b r cJ cZ β n q fa rd gd hok.1 hap.2.1.2 ((xsl ((xs (7 * j + 1)).toInt64) 32) ||| (((xs (7 * j + 2)).toInt64) &&& 4294967295)) (xs (7 * j + 3))) vw_L_M_put rfl (by decide) hP1 hPM1 hO1 hS1 rfl hl.1 rfl (Nat.le_of_ble_eq_true rfl) (by omega) (by omega) d_L_law_172 (fun v st t hrt hP2 hO2 hS2 => ?_)
  obtain ⟨i, rd2, gd2, rfl, hi, hPM2⟩ := hrt
  generalize t.heap = H2 at hPM2 hP2 hO2 hS2 ⊢
  refine W.eq (g2 := F0 m 175 ls [.int i]) rfl ?_
  have hs2 := s2_put (β, n, q) ((xsl ((xs (7 * j + 1)).toInt64) 32) ||| (((xs (7 * j + 2)).toInt64) &&& 4294967295)) (xs (7 * j + 3))
  have hok2 : xok (sp_put (β, n, q) ((xsl ((xs (7 * j + 1)).toInt64) 32) ||| (((xs (7 * j + 2)).toInt64) &&& 4294967295)) (xs (7 * j + 3))).2.2 := so_put hok
  generalize sp_put (β, n, q) ((xsl ((xs (7 * j + 1)).toInt64) 32) ||| (((xs (7 * j + 2)).toInt64) &&& 4294967295)) (xs (7 * j + 3)) = z at hf1 hi hPM2 hP2 hl hs2 hok2 ⊢
  refine lv_istore E.1 E.2.1 d_L_law_175 hl (by decide) rfl (fun ls hl => ?_)
  have hl : lv_has ls 8 [(6, .int i), (5, .int (nI z.1)), (4, .int (nI (7 * j))), (3, .ref o), (2, .ref b), (1, .ref x), (0, .ref scr)] := hl
  refine lv_aload_n E.1 E.2.1 d_L_law_177 rfl (lv_at hl 4 rfl) ?_
  refine xk_thrown C0 hPM2 hl.1 (Nat.le_of_ble_eq_true rfl) (by omega) (by omega) d_L_law_178 ?_
  refine lv_iload E.1 E.2.1 d_L_law_181 (lv_at hl 1 rfl) ?_
  have hfin : W p l e room_1 s m #[Value.ref scr] below meth c H2 [] (5 + j + 1) (66570 + 6 * j + 6) (lw_Z below #[Value.ref scr] s) (F0 m 1102 ls []) := next z.2.2 H2 ls f1 _ rd2 gd2 hok2 hP2 hPM2 hO2 hS2 (lv_sub hl [2, 3, 4, 5, 6] rfl)
  refine lv_icmp_eq (tgt := 188) E.1 E.2.1 d_L_law_183 (by decide) (fun h1 => ?_) (fun h1 => ?_)
  · skip
    refine lv_iload E.1 E.2.1 d_L_law_188 (lv_at hl 1 rfl) ?_
    refine lv_if_ne (tgt := 205) E.1 E.2.1 d_L_law_190 (by decide) (fun h2 => ?_) (fun h2 => ?_)
    · skip
      refine lv_goto (tgt := 1102) E.1 E.2.1 d_L_law_205 (by decide) ?_
      exact hfin
    · skip
      have h2 : z.1 = 0 := (nI_eq (b := 0) (by omega) (by decide)).mp h2
      refine lv_aload_n E.1 E.2.1 d_L_law_193 rfl (lv_at hl 3 rfl) ?_
      refine lv_iconst (v := 0) E.1 E.2.1 d_L_law_194 (by decide) ?_
      refine va_lald E.1 E.2.1 hK hO2 0 0 rfl rfl (vp_in_nI (n := 0) (N := 1) (by decide) (by decide)) d_L_law_195 ?_
      refine xl_tl (y := z.2.1) (hf1 h2) ?_
      refine lv_iload E.1 E.2.1 d_L_law_196 (lv_at hl 0 rfl) ?_
      refine lv_i2l (v := i.toInt64) E.1 E.2.1 d_L_law_198 rfl ?_
      refine xl_tl (y := z.2.1) (hi h2) ?_
      refine xl_lc_eq (tgt := 205) E.1 E.2.1 d_L_law_199 d_L_law_200 (by decide) (fun h3 => ?_) (fun h3 => ?_)
      · skip
        refine lv_goto (tgt := 1102) E.1 E.2.1 d_L_law_205 (by decide) ?_
        exact hfin
      · skip
        exact absurd rfl h3
  · skip
    exact absurd rfl h1
end XL34a

