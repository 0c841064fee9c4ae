/-! The class: a number written. -/
section XL16
set_option maxHeartbeats 4000000 in
set_option maxRecDepth 100000 in
theorem c_appendNumber (l : Launch) (hL : l.stackTraces = false) (D : va_G) (a w : Nat) (cJ cZ : ClassId) (β : Nat → Bool) (n q : Nat) (hn : n ≤ 65536) (hne : a ≠ w) (kind : Int32) (x : Int64) (hns : ¬ (kind = 2 ∧ (0 ≤ x ∧ x < 64))) : xM l y_X_appendNumber w_X_appendNumber (xrm 5) [.ref a, .int kind, .long x] (wXt D a w cJ cZ β n q) (xA2 a w) (fun v _ t => n + (xt kind + 8 + 8 * nb kind x) ≤ 65536 ∧ v = none ∧ PX D a w cJ (xnum β n kind x) (n + (xt kind + 8 + 8 * nb kind x)) q t.heap) (fun z st t => 65536 < n + (xt kind + 8 + 8 * nb kind x) ∧ xl_T E_IO z st.heap t.heap t.vm) := by
  refine xM.of (by decide) ?_
  intro p e s m args below meth c hav E hr hk hh hnm hwX
  subst hav
  obtain ⟨⟨hP, hK⟩, hQ⟩ := hwX
  have hS : va_S (xA2 a w) s.heap s.heap [] := va_S.rf
  have hb1 := nb_1 kind x
  have hb8 := nb_8 kind x
  have ht1 := xt_1 kind
  have hnw : xnw kind x = xt kind + 8 + 8 * nb kind x := by
    unfold xnw
    rw [if_neg hns]
  have hl8 : xlw (nb kind x) = 8 := by
    unfold xlw
    rw [if_neg (by omega)]
  have hlc : xlc (nb kind x) = nb kind x := by
    unfold xlc
    rw [if_pos (by omega)]
  have hmul : nI (nb kind x) * 8 = nI (8 * nb kind x) := by
    rw [Nat.mul_comm]
    exact pk_mul _ 8
  refine xl_entry _ (Nat.le_of_ble_eq_true rfl) (fun ls hl => ?_)
  have hl : lv_has ls 5 [(0, .ref a), (1, .int kind), (2, .long x)] := hl
  refine lv_iload_n E.1 E.2.1 d_X_appendNumber_0 rfl (lv_at hl 1 rfl) ?_
  refine lv_lload_n E.1 E.2.1 d_X_appendNumber_1 rfl (lv_at hl 2 rfl) ?_
  refine xg_looks (xc_S E xGT (c_bytesToHold l kind x) sw_X_bytesToHold (by decide) xNo rfl hl.1 rfl (Nat.le_of_ble_eq_true rfl) d_X_appendNumber_2) (fun v st t h => h.2) (fun v st t h0 hal hrt => ?_) (fun x st t h0 hal hth hz => hth.elim)
  obtain ⟨rfl, -⟩ := hrt
  refine W.eq (g2 := F0 m 5 ls [.int (nI (nb kind x))]) rfl ?_
  refine lv_istore E.1 E.2.1 d_X_appendNumber_5 hl (by decide) rfl (fun ls hl => ?_)
  have hl : lv_has ls 5 [(4, .int (nI (nb kind x))), (0, .ref a), (1, .int kind), (2, .long x)] := hl
  refine lv_aload_n E.1 E.2.1 d_X_appendNumber_7 rfl (lv_at hl 1 rfl) ?_
  refine lv_iload_n E.1 E.2.1 d_X_appendNumber_8 rfl (lv_at hl 2 rfl) ?_
  refine lv_lload_n E.1 E.2.1 d_X_appendNumber_9 rfl (lv_at hl 3 rfl) ?_
  refine xg_looks (xc_S E xGT (c_numberWidth l kind x) sw_X_numberWidth (by decide) xNo rfl hl.1 rfl (Nat.le_of_ble_eq_true rfl) d_X_appendNumber_10) (fun v st t h => h.2) (fun v st t h0 hal hrt => ?_) (fun x st t h0 hal hth hz => hth.elim)
  obtain ⟨rfl, -⟩ := hrt
  refine W.eq (g2 := F0 m 13 ls [.int (nI (xnw kind x)), .ref a]) rfl ?_
  refine xg_looks (xc_V E xGT (c_requireRoom l hL D a w cJ cZ β n q (xnw kind x) hn (by omega)) vw_X_requireRoom (by decide) (wXt.call hP hK hQ) (PX.recv hP hK) rfl hl.1 rfl (Nat.le_of_ble_eq_true rfl) d_X_appendNumber_13) (fun v st t h => h.2.2) (fun v st t h0 hal hrt => ?_) (fun x st t h0 hal hth hz => xr_leave hh hk hal h0 hth.2 (fun t hT => ⟨by have := hth.1; omega, hT⟩))
  obtain ⟨hrm, rfl, -⟩ := hrt
  rw [hnw] at hrm
  refine W.eq (g2 := F0 m 16 ls []) rfl ?_
  refine lv_aload_n E.1 E.2.1 d_X_appendNumber_16 rfl (lv_at hl 1 rfl) ?_
  refine lv_lconst (v := 1) E.1 E.2.1 d_X_appendNumber_17 (by decide) ?_
  refine lv_iload_n E.1 E.2.1 d_X_appendNumber_18 rfl (lv_at hl 2 rfl) ?_
  refine lv_iconst (v := 2) E.1 E.2.1 d_X_appendNumber_19 (by decide) ?_
  refine xl_join (fun z : Int32 => z = nI (xt kind)) (fun z => F0 m 28 ls [.int z, .long 1, .ref a]) (fun z hz => ?_) (fun hjn => ?_)
  · subst hz
    refine xg_goes (xc_V E xGT (c_append l D a w cJ cZ β n q (xt kind) 1 (by omega) (by omega) hne) vw_X_append (by decide) (wX.call hP hK) (PX.recv hP hK) rfl hl.1 rfl (Nat.le_of_ble_eq_true rfl) d_X_appendNumber_28) hS (fun q _ h => h) (fun q h => h) (fun v st t locs1 h0 hal hrt hS1 hz hkp => ?_) (fun x st t locs1 h0 hal hth => hth.elim)
    obtain ⟨rfl, hP1⟩ := hrt
    refine W.eq (g2 := F0 m 31 ls []) rfl ?_
    generalize t.heap = H1 at hP1 hS1 hz hkp ⊢
    refine lv_aload_n E.1 E.2.1 d_X_appendNumber_31 rfl (lv_at hl 1 rfl) ?_
    refine lv_iload E.1 E.2.1 d_X_appendNumber_32 (lv_at hl 0 rfl) ?_
    refine xg_looks (xc_S E xGT (c_lengthCode l (nb kind x) (by omega)) sw_X_lengthCode (by decide) xNo rfl hl.1 rfl (Nat.le_of_ble_eq_true rfl) d_X_appendNumber_34) (fun v st t h => h.2) (fun v st t h0 hal hrt => ?_) (fun x st t h0 hal hth hz => hth.elim)
    obtain ⟨rfl, -⟩ := hrt
    refine W.eq (g2 := F0 m 37 ls [.int (nI (xlc (nb kind x))), .ref a]) rfl ?_
    refine lv_i2l (v := (nI (xlc (nb kind x))).toInt64) E.1 E.2.1 d_X_appendNumber_37 rfl ?_
    refine xl_tl (y := (lN (nb kind x))) (by rw [hlc]; exact nI_l (by omega)) ?_
    refine lv_iload E.1 E.2.1 d_X_appendNumber_38 (lv_at hl 0 rfl) ?_
    refine xg_looks (xc_S E xGT (c_lengthWidth l (nb kind x) (by omega)) sw_X_lengthWidth (by decide) xNo rfl hl.1 rfl (Nat.le_of_ble_eq_true rfl) d_X_appendNumber_40) (fun v st t h => h.2) (fun v st t h0 hal hrt => ?_) (fun x st t h0 hal hth hz => hth.elim)
    obtain ⟨rfl, -⟩ := hrt
    refine W.eq (g2 := F0 m 43 ls [.int (nI (xlw (nb kind x))), .long (lN (nb kind x)), .ref a]) rfl ?_
    refine xl_ti (y := (nI 8)) (by rw [hl8]) ?_
    refine xg_goes (xc_V E xGT (c_append l D a w cJ cZ (xa β n 1 (xt kind)) (n + xt kind) q 8 (lN (nb kind x)) (by omega) (by decide) hne) vw_X_append (by decide) (wX.call hP1 hK) (PX.recv hP1 hK) rfl hl.1 rfl (Nat.le_of_ble_eq_true rfl) d_X_appendNumber_43) hS1 (fun q _ h => h) (fun q h => h) (fun v st t locs2 h0 hal hrt hS2 hz hkp => ?_) (fun x st t locs1 h0 hal hth => hth.elim)
    obtain ⟨rfl, hP2⟩ := hrt
    refine W.eq (g2 := F0 m 46 ls []) rfl ?_
    generalize t.heap = H2 at hP2 hS2 hz hkp ⊢
    refine lv_aload_n E.1 E.2.1 d_X_appendNumber_46 rfl (lv_at hl 1 rfl) ?_
    refine lv_lload_n E.1 E.2.1 d_X_appendNumber_47 rfl (lv_at hl 3 rfl) ?_
    refine lv_iload E.1 E.2.1 d_X_appendNumber_48 (lv_at hl 0 rfl) ?_
    refine lv_bipush (v := 8) E.1 E.2.1 d_X_appendNumber_50 (by decide) ?_
    refine lv_imul E.1 E.2.1 d_X_appendNumber_52 ?_
    refine xl_ti (y := (nI (8 * nb kind x))) (hmul) ?_
    refine xg_goes (xc_V E xGT (c_append l D a w cJ cZ (xa (xa β n 1 (xt kind)) (n + xt kind) (lN (nb kind x)) 8) (n + xt kind + 8) q (8 * nb kind x) x (by omega) (by omega) hne) vw_X_append (by decide) (wX.call hP2 hK) (PX.recv hP2 hK) rfl hl.1 rfl (Nat.le_of_ble_eq_true rfl) d_X_appendNumber_53) hS2 (fun q _ h => h) (fun q h => h) (fun v st t locs3 h0 hal hrt hS3 hz hkp => ?_) (fun x st t locs1 h0 hal hth => hth.elim)
    obtain ⟨rfl, hP3⟩ := hrt
    refine W.eq (g2 := F0 m 56 ls []) rfl ?_
    generalize t.heap = H3 at hP3 hS3 hz hkp ⊢
    rw [show n + xt kind + 8 + 8 * nb kind x = n + (xt kind + 8 + 8 * nb kind x) by omega] at hP3
    exact xr_vret E hr hk hS3 (fun t ht _ => ⟨hrm, rfl, by rw [ht]; exact hP3⟩) d_X_appendNumber_56
  · skip
    refine lv_icmp_ne (tgt := 27) E.1 E.2.1 d_X_appendNumber_20 (by decide) (fun h1 => ?_) (fun h1 => ?_)
    · skip
      refine lv_iconst (v := 0) E.1 E.2.1 d_X_appendNumber_27 (by decide) ?_
      exact hjn _ (by unfold xt; rw [if_neg h1]; rfl)
    · skip
      refine lv_iconst (v := 1) E.1 E.2.1 d_X_appendNumber_23 (by decide) ?_
      refine lv_goto (tgt := 28) E.1 E.2.1 d_X_appendNumber_24 (by decide) ?_
      exact hjn _ (by unfold xt; rw [if_pos h1]; rfl)
set_option maxHeartbeats 4000000 in
set_option maxRecDepth 100000 in
theorem c_putNumber (l : Launch) (hL : l.stackTraces = false) (D : va_G) (a w : Nat) (cJ cZ : ClassId) (β : Nat → Bool) (n q : Nat) (hn : n ≤ 65536) (hne : a ≠ w) (kind : Int32) (x : Int64) : xM l y_X_putNumber w_X_putNumber (xrm 6) [.ref a, .int kind, .long x] (wXt D a w cJ cZ β n q) (xA2 a w) (xRi (sp_putNumber (β, n, q) kind x) D a w cJ) (xTh (sp_putNumber (β, n, q) kind x) E_IA E_IO) := by
  refine xM.of (by decide) ?_
  intro p e s m args below meth c hav E hr hk hh hnm hwX
  subst hav
  obtain ⟨⟨hP, hK⟩, hQ⟩ := hwX
  have hS : va_S (xA2 a w) s.heap s.heap [] := va_S.rf
  have hb8 := nb_8 kind x
  have ht1 := xt_1 kind
  refine xl_entry _ (Nat.le_of_ble_eq_true rfl) (fun ls hl => ?_)
  have hl : lv_has ls 4 [(0, .ref a), (1, .int kind), (2, .long x)] := hl
  refine lv_iload_n E.1 E.2.1 d_X_putNumber_0 rfl (lv_at hl 1 rfl) ?_
  refine xg_looks (xc_S E xGT (c_requireKind l hL kind) sw_X_requireKind (by decide) (xQc hQ) rfl hl.1 rfl (Nat.le_of_ble_eq_true rfl) d_X_putNumber_1) (fun v st t h => h.2.2) (fun v st t h0 hal hrt => ?_) (fun x st t h0 hal hth hz => xr_leave hh hk hal h0 hth.2 (fun t hT => Or.inl ⟨by unfold sp_putNumber; rw [if_pos hth.1], hT⟩))
  obtain ⟨hkk, rfl, -⟩ := hrt
  refine W.eq (g2 := F0 m 4 ls []) rfl ?_
  refine xl_join (fun _ : Unit => ¬ (kind = 2 ∧ (0 ≤ x ∧ x < 64))) (fun _ => F0 m 32 ls []) (fun _ hns => ?_) (fun hjn => ?_)
  · skip
    have hsp : sp_putNumber (β, n, q) kind x = if 65536 < n + (xt kind + 8 + 8 * nb kind x) then (2, 0, (β, n, q)) else (0, lN (n + (xt kind + 8 + 8 * nb kind x)), (xnum β n kind x, n + (xt kind + 8 + 8 * nb kind x), q)) := by
      unfold sp_putNumber
      rw [if_neg hkk, if_neg hns]
    refine lv_aload_n E.1 E.2.1 d_X_putNumber_32 rfl (lv_at hl 0 rfl) ?_
    refine lv_iload_n E.1 E.2.1 d_X_putNumber_33 rfl (lv_at hl 1 rfl) ?_
    refine lv_lload_n E.1 E.2.1 d_X_putNumber_34 rfl (lv_at hl 2 rfl) ?_
    refine xg_goes (xc_V E xGT (c_appendNumber l hL D a w cJ cZ β n q hn hne kind x hns) vw_X_appendNumber (by decide) (wXt.call hP hK hQ) (PX.recv hP hK) rfl hl.1 rfl (Nat.le_of_ble_eq_true rfl) d_X_putNumber_35) hS (fun q _ h => h) (fun q h => h) (fun v st t locs1 h0 hal hrt hS1 hz hkp => ?_) (fun x st t locs1 h0 hal hth hS1 hz hkp => ?_)
    · obtain ⟨hrm, rfl, hP1⟩ := hrt
      rw [if_neg (Nat.not_lt.mpr hrm)] at hsp
      refine W.eq (g2 := F0 m 38 ls []) rfl ?_
      generalize t.heap = H1 at hP1 hS1 hz hkp ⊢
      clear hP
      have hP := hP1
      refine lv_aload_n E.1 E.2.1 d_X_putNumber_38 rfl (lv_at hl 0 rfl) ?_
      refine gx_size E hK hP d_X_putNumber_39 ?_
      exact xr_iret E hr hk hS1 (fun t ht _ => xRi.mk hsp (nI_l (by omega)) (by rw [ht]; exact hP)) d_X_putNumber_42
    · rw [if_pos hth.1] at hsp
      exact xr_leaveW hh hk hal h0 hth.2 hS1 (fun t hT => Or.inr ⟨by rw [hsp], hT⟩)
  · skip
    refine lv_iload_n E.1 E.2.1 d_X_putNumber_4 rfl (lv_at hl 1 rfl) ?_
    refine lv_iconst (v := 2) E.1 E.2.1 d_X_putNumber_5 (by decide) ?_
    refine lv_icmp_ne (tgt := 32) E.1 E.2.1 d_X_putNumber_6 (by decide) (fun h1 => ?_) (fun h1 => ?_)
    · skip
      exact hjn () (fun z => h1 z.1)
    · skip
      refine lv_lload_n E.1 E.2.1 d_X_putNumber_9 rfl (lv_at hl 2 rfl) ?_
      refine xg_looks (xc_S E xGT (c_isSmall l x) sw_X_isSmall (by decide) xNo rfl hl.1 rfl (Nat.le_of_ble_eq_true rfl) d_X_putNumber_10) (fun v st t h => h.2) (fun v st t h0 hal hrt => ?_) (fun x st t h0 hal hth hz => hth.elim)
      obtain ⟨rfl, -⟩ := hrt
      refine W.eq (g2 := F0 m 13 ls [.int (if 0 ≤ x ∧ x < 64 then 1 else 0)]) rfl ?_
      refine lv_if_eq (tgt := 32) E.1 E.2.1 d_X_putNumber_13 (by decide) (fun h2 => ?_) (fun h2 => ?_)
      · skip
        refine hjn () (fun z => ?_)
        rw [if_pos z.2] at h2
        exact absurd h2 (by decide)
      · skip
        have h3 : 0 ≤ x ∧ x < 64 := Classical.byContradiction fun z => h2 (by rw [if_neg z])
        have hsp : sp_putNumber (β, n, q) kind x = if 65536 < n + 7 then (2, 0, (β, n, q)) else (0, lN (n + 7), (xa β n x 7, n + 7, q)) := by
          unfold sp_putNumber
          rw [if_neg hkk, if_pos ⟨h1, h3⟩]
          rfl
        refine lv_aload_n E.1 E.2.1 d_X_putNumber_16 rfl (lv_at hl 0 rfl) ?_
        refine lv_bipush (v := 7) E.1 E.2.1 d_X_putNumber_17 (by decide) ?_
        refine xg_looks (xc_V E xGT (c_requireRoom l hL D a w cJ cZ β n q 7 hn (by decide)) vw_X_requireRoom (by decide) (wXt.call hP hK hQ) (PX.recv hP hK) rfl hl.1 rfl (Nat.le_of_ble_eq_true rfl) d_X_putNumber_19) (fun v st t h => h.2.2) (fun v st t h0 hal hrt => ?_) (fun x st t h0 hal hth hz => xr_leave hh hk hal h0 hth.2 (fun t hT => Or.inr ⟨by rw [hsp, if_pos hth.1], hT⟩))
        obtain ⟨hrm, rfl, -⟩ := hrt
        rw [if_neg (Nat.not_lt.mpr hrm)] at hsp
        refine W.eq (g2 := F0 m 22 ls []) rfl ?_
        refine lv_aload_n E.1 E.2.1 d_X_putNumber_22 rfl (lv_at hl 0 rfl) ?_
        refine lv_lload_n E.1 E.2.1 d_X_putNumber_23 rfl (lv_at hl 2 rfl) ?_
        refine lv_bipush (v := 7) E.1 E.2.1 d_X_putNumber_24 (by decide) ?_
        refine xg_goes (xc_V E xGT (c_append l D a w cJ cZ β n q 7 x hrm (by decide) hne) vw_X_append (by decide) (wX.call hP hK) (PX.recv hP hK) rfl hl.1 rfl (Nat.le_of_ble_eq_true rfl) d_X_putNumber_26) hS (fun q _ h => h) (fun q h => h) (fun v st t locs1 h0 hal hrt hS1 hz hkp => ?_) (fun x st t locs1 h0 hal hth => hth.elim)
        obtain ⟨rfl, hP1⟩ := hrt
        refine W.eq (g2 := F0 m 29 ls []) rfl ?_
        generalize t.heap = H1 at hP1 hS1 hz hkp ⊢
        clear hP
        have hP := hP1
        refine lv_goto (tgt := 38) E.1 E.2.1 d_X_putNumber_29 (by decide) ?_
        refine lv_aload_n E.1 E.2.1 d_X_putNumber_38 rfl (lv_at hl 0 rfl) ?_
        refine gx_size E hK hP d_X_putNumber_39 ?_
        exact xr_iret E hr hk hS1 (fun t ht _ => xRi.mk hsp (nI_l (by omega)) (by rw [ht]; exact hP)) d_X_putNumber_42
end XL16

