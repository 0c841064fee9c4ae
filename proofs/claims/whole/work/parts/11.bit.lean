/-! The class: codes of lengths; a bit read, a bit set, bits appended. -/
section XL11
set_option maxHeartbeats 4000000 in
set_option maxRecDepth 100000 in
theorem c_lengthCode (l : Launch) (k : Nat) (hkb : k ≤ 65536) : xM l y_X_lengthCode w_X_lengthCode (xrm 0) [.int (nI k)] (fun _ => True) xNA (fun v st t => v = some (.int (nI (xlc k))) ∧ t.heap = st.heap) (fun _ _ _ => False) := by
  refine xM.of (by decide) ?_
  intro p e s m args below meth c hav E hr hk hh hnm _
  subst hav
  have hS : va_S xNA s.heap s.heap [] := va_S.rf
  have hkb' : k < 2 ^ 31 := by omega
  refine xl_entry _ (Nat.le_of_ble_eq_true rfl) (fun ls hl => ?_)
  have hl : lv_has ls 1 [(0, .int (nI k))] := hl
  refine lv_iload_n E.1 E.2.1 d_X_lengthCode_0 rfl (lv_at hl 0 rfl) ?_
  refine lv_sipush (v := 128) E.1 E.2.1 d_X_lengthCode_1 (by decide) ?_
  refine lv_icmp_ge (tgt := 9) E.1 E.2.1 d_X_lengthCode_4 (by decide) (fun h1 => ?_) (fun h1 => ?_)
  · skip
    have h1 : 128 ≤ k := (nI_leI (by decide) hkb').mp h1
    refine lv_iload_n E.1 E.2.1 d_X_lengthCode_9 rfl (lv_at hl 0 rfl) ?_
    refine lv_sipush (v := 16384) E.1 E.2.1 d_X_lengthCode_10 (by decide) ?_
    refine lv_icmp_ge (tgt := 23) E.1 E.2.1 d_X_lengthCode_13 (by decide) (fun h2 => ?_) (fun h2 => ?_)
    · skip
      have h2 : 16384 ≤ k := (nI_leI (by decide) hkb').mp h2
      refine lv_sipush (v := 192) E.1 E.2.1 d_X_lengthCode_23 (by decide) ?_
      refine lv_iload_n E.1 E.2.1 d_X_lengthCode_26 rfl (lv_at hl 0 rfl) ?_
      refine lv_sipush (v := 16384) E.1 E.2.1 d_X_lengthCode_27 (by decide) ?_
      refine lv_idiv E.1 E.2.1 d_X_lengthCode_30 (by decide) ?_
      refine xl_ti (y := (nI (k / 16384))) (pk_div hkb' (by decide) (by decide)) ?_
      refine lv_ior E.1 E.2.1 d_X_lengthCode_31 ?_
      exact xr_iret E hr hk hS (fun t ht _ => ⟨by unfold xlc; rw [if_neg (by omega), if_neg (by omega), ← or_6 (show k / 16384 < 64 by omega), ← nx_or]; rfl, ht⟩) d_X_lengthCode_32
    · skip
      have h2 : ¬ 16384 ≤ k := fun z => h2 ((nI_leI (by decide) hkb').mpr z)
      refine lv_ldc (v := 32768) E.1 E.2.1 E.2.2.2.1 (E.2.2.2.2 _ co_X_155) d_X_lengthCode_16 ?_
      refine lv_iload_n E.1 E.2.1 d_X_lengthCode_18 rfl (lv_at hl 0 rfl) ?_
      refine lv_ior E.1 E.2.1 d_X_lengthCode_19 ?_
      refine lv_goto (tgt := 32) E.1 E.2.1 d_X_lengthCode_20 (by decide) ?_
      exact xr_iret E hr hk hS (fun t ht _ => ⟨by unfold xlc; rw [if_neg (by omega), if_pos (by omega), ← or_15 (show k < 32768 by omega), ← nx_or]; rfl, ht⟩) d_X_lengthCode_32
  · skip
    have h1 : ¬ 128 ≤ k := fun z => h1 ((nI_leI (by decide) hkb').mpr z)
    refine lv_iload_n E.1 E.2.1 d_X_lengthCode_7 rfl (lv_at hl 0 rfl) ?_
    exact xr_iret E hr hk hS (fun t ht _ => ⟨by unfold xlc; rw [if_pos (by omega)], ht⟩) d_X_lengthCode_8
set_option maxHeartbeats 4000000 in
set_option maxRecDepth 100000 in
theorem c_bit (l : Launch) (D : va_G) (a w : Nat) (cJ cZ : ClassId) (β : Nat → Bool) (n q i : Nat) (hi : i < 65536) : xM l y_X_bit w_X_bit (xrm 0) [.ref a, .int (nI i)] (wX D a w cJ cZ β n q) xNA (fun v st t => v = some (.long (lN (β i).toNat)) ∧ t.heap = st.heap) (fun _ _ _ => False) := by
  refine xM.of (by decide) ?_
  intro p e s m args below meth c hav E hr hk hh hnm hwX
  subst hav
  obtain ⟨hP, hK⟩ := hwX
  obtain ⟨f, hf, hP⟩ := hP
  have hS : va_S xNA s.heap s.heap [] := va_S.rf
  refine xl_entry _ (Nat.le_of_ble_eq_true rfl) (fun ls hl => ?_)
  have hl : lv_has ls 2 [(0, .ref a), (1, .int (nI i))] := hl
  refine lv_aload_n E.1 E.2.1 d_X_bit_0 rfl (lv_at hl 0 rfl) ?_
  refine gx_words E hK hP d_X_bit_1 ?_
  refine lv_iload_n E.1 E.2.1 d_X_bit_4 rfl (lv_at hl 1 rfl) ?_
  refine lv_bipush (v := 64) E.1 E.2.1 d_X_bit_5 (by decide) ?_
  refine lv_idiv E.1 E.2.1 d_X_bit_7 (by decide) ?_
  refine xl_ti (y := (nI (i / 64))) (pk_div (by omega) (by decide) (by decide)) ?_
  refine va_lald E.1 E.2.1 hK hP 1 0 rfl rfl (vp_in_nI (by omega) (by decide)) d_X_bit_8 ?_
  refine xl_tl (y := (f (i / 64))) (by rw [nI_clamp (by omega)]) ?_
  refine lv_iload_n E.1 E.2.1 d_X_bit_9 rfl (lv_at hl 1 rfl) ?_
  refine lv_bipush (v := 64) E.1 E.2.1 d_X_bit_10 (by decide) ?_
  refine lv_irem E.1 E.2.1 d_X_bit_12 (by decide) ?_
  refine xl_ti (y := (nI (i % 64))) (pk_rem (by omega) (by decide) (by decide)) ?_
  refine lv_lushr (v := xsh (f (i / 64)) (nI (i % 64))) E.1 E.2.1 d_X_bit_13 rfl ?_
  refine lv_lconst (v := 1) E.1 E.2.1 d_X_bit_14 (by decide) ?_
  refine lv_land E.1 E.2.1 d_X_bit_15 ?_
  refine xl_tl (y := (lN (β i).toNat)) (by rw [xsh_1 _ (by omega), ← hf]; rfl) ?_
  exact xr_lret E hr hk hS (fun t ht _ => ⟨rfl, ht⟩) d_X_bit_16
set_option maxHeartbeats 4000000 in
set_option maxRecDepth 100000 in
theorem c_setBit (l : Launch) (D : va_G) (a w : Nat) (cJ cZ : ClassId) (β : Nat → Bool) (n q i : Nat) (b : Bool) (hi : i < 65536) (hne : a ≠ w) : xM l y_X_setBit w_X_setBit (xrm 0) [.ref a, .int (nI i), .long (lN b.toNat)] (wX D a w cJ cZ β n q) (xA2 a w) (fun v st t => v = none ∧ PX D a w cJ (va_up β i b) n q t.heap) (fun _ _ _ => False) := by
  refine xM.of (by decide) ?_
  intro p e s m args below meth c hav E hr hk hh hnm hwX
  subst hav
  obtain ⟨hP, hK⟩ := hwX
  obtain ⟨f, hf, hP⟩ := hP
  have hS : va_S (xA2 a w) s.heap s.heap [] := va_S.rf
  refine xl_entry _ (Nat.le_of_ble_eq_true rfl) (fun ls hl => ?_)
  have hl : lv_has ls 7 [(0, .ref a), (1, .int (nI i)), (2, .long (lN b.toNat))] := hl
  refine lv_lconst (v := 1) E.1 E.2.1 d_X_setBit_0 (by decide) ?_
  refine lv_iload_n E.1 E.2.1 d_X_setBit_1 rfl (lv_at hl 1 rfl) ?_
  refine lv_bipush (v := 64) E.1 E.2.1 d_X_setBit_2 (by decide) ?_
  refine lv_irem E.1 E.2.1 d_X_setBit_4 (by decide) ?_
  refine xl_ti (y := (nI (i % 64))) (pk_rem (by omega) (by decide) (by decide)) ?_
  refine lv_lshl (v := xsl 1 (nI (i % 64))) E.1 E.2.1 d_X_setBit_5 rfl ?_
  refine xl_tl (y := (lN (2 ^ (i % 64)))) (xsl_1 (by omega)) ?_
  refine lv_lstore E.1 E.2.1 d_X_setBit_6 hl (by decide) rfl (fun ls hl => ?_)
  have hl : lv_has ls 7 [(4, .long (lN (2 ^ (i % 64)))), (0, .ref a), (1, .int (nI i)), (2, .long (lN b.toNat))] := hl
  refine lv_iload_n E.1 E.2.1 d_X_setBit_8 rfl (lv_at hl 2 rfl) ?_
  refine lv_bipush (v := 64) E.1 E.2.1 d_X_setBit_9 (by decide) ?_
  refine lv_idiv E.1 E.2.1 d_X_setBit_11 (by decide) ?_
  refine xl_ti (y := (nI (i / 64))) (pk_div (by omega) (by decide) (by decide)) ?_
  refine lv_istore E.1 E.2.1 d_X_setBit_12 hl (by decide) rfl (fun ls hl => ?_)
  have hl : lv_has ls 7 [(6, .int (nI (i / 64))), (4, .long (lN (2 ^ (i % 64)))), (0, .ref a), (1, .int (nI i)), (2, .long (lN b.toNat))] := hl
  refine lv_aload_n E.1 E.2.1 d_X_setBit_14 rfl (lv_at hl 2 rfl) ?_
  refine gx_words E hK hP d_X_setBit_15 ?_
  refine lv_iload E.1 E.2.1 d_X_setBit_18 (lv_at hl 0 rfl) ?_
  refine lv_lload_n E.1 E.2.1 d_X_setBit_20 rfl (lv_at hl 4 rfl) ?_
  refine lv_lconst (v := 1) E.1 E.2.1 d_X_setBit_21 (by decide) ?_
  refine xl_lc_ne (tgt := 39) E.1 E.2.1 d_X_setBit_22 d_X_setBit_23 (by decide) (fun h1 => ?_) (fun h1 => ?_)
  · skip
    have hb : b = false := by
      cases b
      · rfl
      · exact absurd rfl h1
    subst hb
    refine lv_aload_n E.1 E.2.1 d_X_setBit_39 rfl (lv_at hl 2 rfl) ?_
    refine gx_words E hK hP d_X_setBit_40 ?_
    refine lv_iload E.1 E.2.1 d_X_setBit_43 (lv_at hl 0 rfl) ?_
    refine va_lald E.1 E.2.1 hK hP 1 0 rfl rfl (vp_in_nI (by omega) (by decide)) d_X_setBit_45 ?_
    refine xl_tl (y := (f (i / 64))) (by rw [nI_clamp (by omega)]) ?_
    refine lv_lload E.1 E.2.1 d_X_setBit_46 (lv_at hl 1 rfl) ?_
    refine lv_ldc2 (v := (-1)) E.1 E.2.1 E.2.2.2.1 (E.2.2.2.2 _ co_X_127) d_X_setBit_48 ?_
    refine lv_lxor E.1 E.2.1 d_X_setBit_51 ?_
    refine lv_land E.1 E.2.1 d_X_setBit_52 ?_
    refine va_last E.1 E.2.1 hK hP (xD2 hne) hS 1 0 rfl rfl (vp_in_nI (by omega) (by decide)) d_X_setBit_53 (fun H1 locs1 hP1 _ hS1 => ?_)
    have hP1 : va_P D xcl (xqX a w cJ (vp_updL f (nI (i / 64)).toNatClampNeg (f (i / 64) &&& (lN (2 ^ (i % 64)) ^^^ (-1)))) n q) H1 := hP1
    rw [nI_clamp (by omega)] at hP1
    exact xr_vret E hr hk hS1 (fun t ht _ => ⟨rfl, by rw [ht]; exact ⟨_, by funext j; rw [xw_clear, hf], hP1⟩⟩) d_X_setBit_54
  · skip
    have hb : b = true := by
      cases b
      · exact absurd h1 (by decide)
      · rfl
    subst hb
    refine lv_aload_n E.1 E.2.1 d_X_setBit_26 rfl (lv_at hl 2 rfl) ?_
    refine gx_words E hK hP d_X_setBit_27 ?_
    refine lv_iload E.1 E.2.1 d_X_setBit_30 (lv_at hl 0 rfl) ?_
    refine va_lald E.1 E.2.1 hK hP 1 0 rfl rfl (vp_in_nI (by omega) (by decide)) d_X_setBit_32 ?_
    refine xl_tl (y := (f (i / 64))) (by rw [nI_clamp (by omega)]) ?_
    refine lv_lload E.1 E.2.1 d_X_setBit_33 (lv_at hl 1 rfl) ?_
    refine lv_lor E.1 E.2.1 d_X_setBit_35 ?_
    refine lv_goto (tgt := 53) E.1 E.2.1 d_X_setBit_36 (by decide) ?_
    refine va_last E.1 E.2.1 hK hP (xD2 hne) hS 1 0 rfl rfl (vp_in_nI (by omega) (by decide)) d_X_setBit_53 (fun H1 locs1 hP1 _ hS1 => ?_)
    have hP1 : va_P D xcl (xqX a w cJ (vp_updL f (nI (i / 64)).toNatClampNeg (f (i / 64) ||| lN (2 ^ (i % 64)))) n q) H1 := hP1
    rw [nI_clamp (by omega)] at hP1
    exact xr_vret E hr hk hS1 (fun t ht _ => ⟨rfl, by rw [ht]; exact ⟨_, by funext j; rw [xw_set, hf], hP1⟩⟩) d_X_setBit_54
set_option maxHeartbeats 4000000 in
set_option maxRecDepth 100000 in
theorem c_append (l : Launch) (D : va_G) (a w : Nat) (cJ cZ : ClassId) (β : Nat → Bool) (n q k : Nat) (x : Int64) (hn : n + k ≤ 65536) (hk64 : k ≤ 64) (hne : a ≠ w) : xM l y_X_append w_X_append (xrm 1) [.ref a, .long x, .int (nI k)] (wX D a w cJ cZ β n q) (xA2 a w) (fun v st t => v = none ∧ PX D a w cJ (xa β n x k) (n + k) q t.heap) (fun _ _ _ => False) := by
  refine xM.of (by decide) ?_
  intro p e s m args below meth c hav E hr hk hh hnm hwX
  subst hav
  obtain ⟨hP, hK⟩ := hwX
  have hS : va_S (xA2 a w) s.heap s.heap [] := va_S.rf
  have key : ∀ (r : Nat) (β1 : Nat → Bool) (n1 : Nat) (H : Heap) (locs : List Loc) (ls : Array Slot), r ≤ 64 → n1 + r ≤ 65536 → xa β1 n1 x r = xa β n x k → n1 + r = n + k → PX D a w cJ β1 n1 q H → va_S (xA2 a w) s.heap H locs → lv_has ls 5 [(4, .int (nI r - 1)), (0, .ref a), (1, .long x), (3, .int (nI k))] →
      W p l e (xrm 1) s m [Value.ref a, .long x, .int (nI k)].toArray below meth c H locs 0 0 (xl_MQ below (xl_Q (xA2 a w) (fun v st t => v = none ∧ PX D a w cJ (xa β n x k) (n + k) q t.heap) (fun _ _ _ => False)) [Value.ref a, .long x, .int (nI k)].toArray s (xl_k 0 1) (xl_k 0 6) (xA2 a w)) (F0 m 5 ls []) := by
    intro r
    induction r with
    | zero =>
      intro β1 n1 H locs ls _ _ hβ hnn hP hS hl
      refine lv_iload E.1 E.2.1 d_X_append_5 (lv_at hl 0 rfl) ?_
      refine lv_if_lt (tgt := 40) E.1 E.2.1 d_X_append_7 (by decide) (fun h1 => ?_) (fun h1 => ?_)
      · skip
        have hnn : n1 = n + k := hnn
        subst hnn
        rw [xa_0] at hβ
        subst hβ
        exact xr_vret E hr hk hS (fun t ht _ => ⟨rfl, by rw [ht]; exact hP⟩) d_X_append_40
      · skip
        exact absurd (by decide) h1
    | succ r ih =>
      intro β1 n1 H locs ls hr64 hnr hβ hnn hP hS hl
      have e1 : nI (r + 1) - 1 = nI r := nI_pred r
      rw [e1] at hl
      refine lv_iload E.1 E.2.1 d_X_append_5 (lv_at hl 0 rfl) ?_
      refine lv_if_lt (tgt := 40) E.1 E.2.1 d_X_append_7 (by decide) (fun h1 => ?_) (fun h1 => ?_)
      · skip
        exact absurd h1 (nI_pos (by omega))
      · skip
        refine lv_aload_n E.1 E.2.1 d_X_append_10 rfl (lv_at hl 1 rfl) ?_
        refine lv_aload_n E.1 E.2.1 d_X_append_11 rfl (lv_at hl 1 rfl) ?_
        refine gx_size E hK hP d_X_append_12 ?_
        refine lv_lload_n E.1 E.2.1 d_X_append_15 rfl (lv_at hl 2 rfl) ?_
        refine lv_iload E.1 E.2.1 d_X_append_16 (lv_at hl 0 rfl) ?_
        refine lv_lushr (v := xsh x (nI r)) E.1 E.2.1 d_X_append_18 rfl ?_
        refine lv_lconst (v := 1) E.1 E.2.1 d_X_append_19 (by decide) ?_
        refine lv_land E.1 E.2.1 d_X_append_20 ?_
        refine xl_tl (y := (lN (xb x r).toNat)) (xsh_1 x (by omega)) ?_
        refine xg_goes (xc_V E xGT (c_setBit l D a w cJ cZ β1 n1 q n1 (xb x r) (by omega) hne) vw_X_setBit (by decide) (wX.call hP hK) (PX.recv hP hK) rfl hl.1 rfl (Nat.le_of_ble_eq_true rfl) d_X_append_21) hS (fun q _ h => h) (fun q h => h) (fun v st t locs1 h0 hal hrt hS1 hz hkp => ?_) (fun x st t locs1 h0 hal hth => hth.elim)
        obtain ⟨rfl, hP1⟩ := hrt
        refine W.eq (g2 := F0 m 24 ls []) rfl ?_
        generalize t.heap = H1 at hP1 hS1 hz hkp ⊢
        clear hP hS
        have hP := hP1
        have hS := hS1
        refine lv_aload_n E.1 E.2.1 d_X_append_24 rfl (lv_at hl 1 rfl) ?_
        refine lv_dup E.1 E.2.1 d_X_append_25 rfl ?_
        refine gx_size E hK hP d_X_append_26 ?_
        refine lv_iconst (v := 1) E.1 E.2.1 d_X_append_29 (by decide) ?_
        refine lv_iadd E.1 E.2.1 d_X_append_30 ?_
        refine xl_ti (y := (nI (n1 + 1))) (nI_1 n1) ?_
        refine sx_size (k := n1 + 1) E hK hP hne hS d_X_append_31 (fun H2 locs2 hP2 hS2 => ?_)
        refine lv_iinc (k := 0) (v := (nI r) + (-1)) E.1 E.2.1 d_X_append_34 hl rfl rfl (by decide) rfl (fun ls hl => ?_)
        have hl : lv_has ls 5 [(4, .int ((nI r) + (-1))), (0, .ref a), (1, .long x), (3, .int (nI k))] := hl
        refine lv_goto (tgt := 5) E.1 E.2.1 d_X_append_37 (by decide) ?_
        rw [← Int32.sub_eq_add_neg] at hl
        refine ih _ (n1 + 1) H2 locs2 ls (by omega) (by omega) ?_ (by omega) hP2 hS2 hl
        rw [xa_succ]
        exact hβ
  refine xl_entry _ (Nat.le_of_ble_eq_true rfl) (fun ls hl => ?_)
  have hl : lv_has ls 5 [(0, .ref a), (1, .long x), (3, .int (nI k))] := hl
  refine lv_iload_n E.1 E.2.1 d_X_append_0 rfl (lv_at hl 2 rfl) ?_
  refine lv_iconst (v := 1) E.1 E.2.1 d_X_append_1 (by decide) ?_
  refine lv_isub E.1 E.2.1 d_X_append_2 ?_
  refine lv_istore E.1 E.2.1 d_X_append_3 hl (by decide) rfl (fun ls hl => ?_)
  have hl : lv_has ls 5 [(4, .int ((nI k) - 1)), (0, .ref a), (1, .long x), (3, .int (nI k))] := hl
  exact key k β n s.heap [] ls hk64 hn rfl rfl hP hS hl
end XL11

