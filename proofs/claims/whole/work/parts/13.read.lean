/-! The class: what looks at the row. -/
section XL13
set_option maxHeartbeats 4000000 in
set_option maxRecDepth 100000 in
theorem c_bitsAt (l : Launch) (hL : l.stackTraces = false) (D : va_G) (a w : Nat) (cJ cZ : ClassId) (β : Nat → Bool) (n q u k : Nat) (hn : n ≤ 65536) (hu : u ≤ n) (hk64 : k ≤ 64) : xM l y_X_bitsAt w_X_bitsAt (xrm 1) [.ref a, .int (nI u), .int (nI k)] (wXt D a w cJ cZ β n q) xNA (fun v st t => u + k ≤ n ∧ v = some (.long (lN (xv β u k))) ∧ t.heap = st.heap) (fun x st t => n < u + k ∧ xl_T E_UO x st.heap t.heap t.vm) := by
  refine xM.of (by decide) ?_
  intro p e s m args below meth c hav E hr hk hh hnm hwX
  subst hav
  obtain ⟨⟨hP, hK⟩, hQ⟩ := hwX
  have hS : va_S xNA s.heap s.heap [] := va_S.rf
  refine xl_entry _ (Nat.le_of_ble_eq_true rfl) (fun ls hl => ?_)
  have hl : lv_has ls 6 [(0, .ref a), (1, .int (nI u)), (2, .int (nI k))] := hl
  refine lv_iload_n E.1 E.2.1 d_X_bitsAt_0 rfl (lv_at hl 2 rfl) ?_
  refine lv_aload_n E.1 E.2.1 d_X_bitsAt_1 rfl (lv_at hl 0 rfl) ?_
  refine gx_size E hK hP d_X_bitsAt_2 ?_
  refine lv_iload_n E.1 E.2.1 d_X_bitsAt_5 rfl (lv_at hl 1 rfl) ?_
  refine lv_isub E.1 E.2.1 d_X_bitsAt_6 ?_
  refine xl_ti (y := (nI (n - u))) (pk_sub hu) ?_
  refine lv_icmp_le (tgt := 20) E.1 E.2.1 d_X_bitsAt_7 (by decide) (fun h1 => ?_) (fun h1 => ?_)
  · skip
    have h2 : k ≤ n - u := (nI_leI (by omega) (by omega)).mp h1
    have key : ∀ (d r : Nat) (ls : Array Slot), r + d = k → lv_has ls 6 [(5, .int (nI (u + r))), (3, .long (lN (xv β u r))), (0, .ref a), (1, .int (nI u)), (2, .int (nI k))] →
        W p l e (xrm 1) s m [Value.ref a, .int (nI u), .int (nI k)].toArray below meth c s.heap [] 0 0 (xl_MQ below (xl_Q xNA (fun v st t => u + k ≤ n ∧ v = some (.long (lN (xv β u k))) ∧ t.heap = st.heap) (fun x st t => n < u + k ∧ xl_T E_UO x st.heap t.heap t.vm)) [Value.ref a, .int (nI u), .int (nI k)].toArray s (xl_k 0 1) (xl_k 0 6) xNA) (F0 m 25 ls []) := by
      intro d
      induction d with
      | zero =>
        intro r ls hrd hl
        have hrk : r = k := hrd
        subst hrk
        refine lv_iload E.1 E.2.1 d_X_bitsAt_25 (lv_at hl 0 rfl) ?_
        refine lv_iload_n E.1 E.2.1 d_X_bitsAt_27 rfl (lv_at hl 3 rfl) ?_
        refine lv_iload_n E.1 E.2.1 d_X_bitsAt_28 rfl (lv_at hl 4 rfl) ?_
        refine lv_iadd E.1 E.2.1 d_X_bitsAt_29 ?_
        refine xl_ti (y := (nI (u + r))) (nI_add u r) ?_
        refine lv_icmp_ge (tgt := 50) E.1 E.2.1 d_X_bitsAt_30 (by decide) (fun h3 => ?_) (fun h3 => ?_)
        · skip
          refine lv_lload_n E.1 E.2.1 d_X_bitsAt_50 rfl (lv_at hl 1 rfl) ?_
          exact xr_lret E hr hk hS (fun t ht _ => ⟨by omega, rfl, ht⟩) d_X_bitsAt_51
        · skip
          exact absurd (nI_le (Nat.le_refl _) (by omega)) h3
      | succ d ih =>
        intro r ls hrd hl
        refine lv_iload E.1 E.2.1 d_X_bitsAt_25 (lv_at hl 0 rfl) ?_
        refine lv_iload_n E.1 E.2.1 d_X_bitsAt_27 rfl (lv_at hl 3 rfl) ?_
        refine lv_iload_n E.1 E.2.1 d_X_bitsAt_28 rfl (lv_at hl 4 rfl) ?_
        refine lv_iadd E.1 E.2.1 d_X_bitsAt_29 ?_
        refine xl_ti (y := (nI (u + k))) (nI_add u k) ?_
        refine lv_icmp_ge (tgt := 50) E.1 E.2.1 d_X_bitsAt_30 (by decide) (fun h3 => ?_) (fun h3 => ?_)
        · skip
          exact absurd ((nI_leI (by omega) (by omega)).mp h3) (by omega)
        · skip
          refine lv_lload_n E.1 E.2.1 d_X_bitsAt_33 rfl (lv_at hl 1 rfl) ?_
          refine lv_iconst (v := 1) E.1 E.2.1 d_X_bitsAt_34 (by decide) ?_
          refine lv_lshl (v := xsl (lN (xv β u r)) 1) E.1 E.2.1 d_X_bitsAt_35 rfl ?_
          refine lv_aload_n E.1 E.2.1 d_X_bitsAt_36 rfl (lv_at hl 2 rfl) ?_
          refine lv_iload E.1 E.2.1 d_X_bitsAt_37 (lv_at hl 0 rfl) ?_
          refine xg_looks (xc_V E xGT (c_bit l D a w cJ cZ β n q (u + r) (by omega)) vw_X_bit (by decide) (wX.call hP hK) (PX.recv hP hK) rfl hl.1 rfl (Nat.le_of_ble_eq_true rfl) d_X_bitsAt_39) (fun v st t h => h.2) (fun v st t h0 hal hrt => ?_) (fun x st t h0 hal hth hz => hth.elim)
          obtain ⟨rfl, -⟩ := hrt
          refine W.eq (g2 := F0 m 42 ls [.long (lN (β (u + r)).toNat), .long (xsl (lN (xv β u r)) 1)]) rfl ?_
          refine lv_lor E.1 E.2.1 d_X_bitsAt_42 ?_
          refine xl_tl (y := (lN (xv β u (r + 1)))) (xv_step (by omega)) ?_
          refine lv_lstore_n E.1 E.2.1 d_X_bitsAt_43 rfl hl (by decide) rfl (fun ls hl => ?_)
          have hl : lv_has ls 6 [(3, .long (lN (xv β u (r + 1)))), (5, .int (nI (u + r))), (0, .ref a), (1, .int (nI u)), (2, .int (nI k))] := hl
          refine lv_iinc (k := 1) (v := (nI (u + r)) + 1) E.1 E.2.1 d_X_bitsAt_44 hl rfl rfl (by decide) rfl (fun ls hl => ?_)
          have hl : lv_has ls 6 [(5, .int ((nI (u + r)) + 1)), (3, .long (lN (xv β u (r + 1)))), (0, .ref a), (1, .int (nI u)), (2, .int (nI k))] := hl
          refine lv_goto (tgt := 25) E.1 E.2.1 d_X_bitsAt_47 (by decide) ?_
          have e2 : nI (u + r) + 1 = nI (u + (r + 1)) := nI_1 (u + r)
          rw [e2] at hl
          exact ih (r + 1) ls (by omega) hl
    refine lv_lconst (v := 0) E.1 E.2.1 d_X_bitsAt_20 (by decide) ?_
    refine lv_lstore_n E.1 E.2.1 d_X_bitsAt_21 rfl hl (by decide) rfl (fun ls hl => ?_)
    have hl : lv_has ls 6 [(3, .long 0), (0, .ref a), (1, .int (nI u)), (2, .int (nI k))] := hl
    refine lv_iload_n E.1 E.2.1 d_X_bitsAt_22 rfl (lv_at hl 2 rfl) ?_
    refine lv_istore E.1 E.2.1 d_X_bitsAt_23 hl (by decide) rfl (fun ls hl => ?_)
    have hl : lv_has ls 6 [(5, .int (nI u)), (3, .long 0), (0, .ref a), (1, .int (nI u)), (2, .int (nI k))] := hl
    exact key k 0 ls (Nat.zero_add k) hl
  · skip
    have h2 : ¬ k ≤ n - u := fun z => h1 ((nI_leI (by omega) (by omega)).mpr z)
    exact xr_throw E hL hQ hh hk tw_UO_bitsAt hl.1 d_X_bitsAt_10 d_X_bitsAt_13 d_X_bitsAt_14 d_X_bitsAt_16 d_X_bitsAt_19 (by decide) (fun x t hT => ⟨by omega, hT⟩)
set_option maxHeartbeats 4000000 in
set_option maxRecDepth 100000 in
theorem c_longLengthAt (l : Launch) (hL : l.stackTraces = false) (D : va_G) (a w : Nat) (cJ cZ : ClassId) (β : Nat → Bool) (n q u : Nat) (hn : n ≤ 65536) (hu : u ≤ n) : xM l y_X_longLengthAt w_X_longLengthAt (xrm 2) [.ref a, .int (nI u)] (wXt D a w cJ cZ β n q) xNA (fun v st t => ¬ (n < u + 14 ∨ xv β u 14 < 128) ∧ v = some (.int (nI (xv β u 14))) ∧ t.heap = st.heap) (fun x st t => (n < u + 14 ∨ xv β u 14 < 128) ∧ xl_T E_UO x st.heap t.heap t.vm) := by
  refine xM.of (by decide) ?_
  intro p e s m args below meth c hav E hr hk hh hnm hwX
  subst hav
  obtain ⟨⟨hP, hK⟩, hQ⟩ := hwX
  have hS : va_S xNA s.heap s.heap [] := va_S.rf
  have hv := xv_lt β u 14
  refine xl_entry _ (Nat.le_of_ble_eq_true rfl) (fun ls hl => ?_)
  have hl : lv_has ls 3 [(0, .ref a), (1, .int (nI u))] := hl
  refine lv_aload_n E.1 E.2.1 d_X_longLengthAt_0 rfl (lv_at hl 0 rfl) ?_
  refine lv_iload_n E.1 E.2.1 d_X_longLengthAt_1 rfl (lv_at hl 1 rfl) ?_
  refine lv_bipush (v := 14) E.1 E.2.1 d_X_longLengthAt_2 (by decide) ?_
  refine xg_looks (xc_V E xGT (c_bitsAt l hL D a w cJ cZ β n q u 14 hn hu (by decide)) vw_X_bitsAt (by decide) (wXt.call hP hK hQ) (PX.recv hP hK) rfl hl.1 rfl (Nat.le_of_ble_eq_true rfl) d_X_longLengthAt_4) (fun v st t h => h.2.2) (fun v st t h0 hal hrt => ?_) (fun x st t h0 hal hth hz => xr_leave hh hk hal h0 hth.2 (fun t hT => ⟨Or.inl hth.1, hT⟩))
  obtain ⟨h1, rfl, -⟩ := hrt
  refine W.eq (g2 := F0 m 7 ls [.long (lN (xv β u 14))]) rfl ?_
  refine lv_l2i (v := (lN (xv β u 14)).toInt32) E.1 E.2.1 d_X_longLengthAt_7 rfl ?_
  refine xl_ti (y := (nI (xv β u 14))) (lN_i _) ?_
  refine lv_istore_n E.1 E.2.1 d_X_longLengthAt_8 rfl hl (by decide) rfl (fun ls hl => ?_)
  have hl : lv_has ls 3 [(2, .int (nI (xv β u 14))), (0, .ref a), (1, .int (nI u))] := hl
  refine lv_iload_n E.1 E.2.1 d_X_longLengthAt_9 rfl (lv_at hl 0 rfl) ?_
  refine lv_sipush (v := 128) E.1 E.2.1 d_X_longLengthAt_10 (by decide) ?_
  refine lv_icmp_ge (tgt := 26) E.1 E.2.1 d_X_longLengthAt_13 (by decide) (fun h2 => ?_) (fun h2 => ?_)
  · skip
    have h2 : 128 ≤ xv β u 14 := (nI_leI (by decide) (by omega)).mp h2
    refine lv_iload_n E.1 E.2.1 d_X_longLengthAt_26 rfl (lv_at hl 0 rfl) ?_
    exact xr_iret E hr hk hS (fun t ht _ => ⟨by omega, rfl, ht⟩) d_X_longLengthAt_27
  · skip
    have h2 : ¬ 128 ≤ xv β u 14 := fun z => h2 ((nI_leI (by decide) (by omega)).mpr z)
    exact xr_throw E hL hQ hh hk tw_UO_longLengthAt hl.1 d_X_longLengthAt_16 d_X_longLengthAt_19 d_X_longLengthAt_20 d_X_longLengthAt_22 d_X_longLengthAt_25 (by decide) (fun x t hT => ⟨Or.inr (by omega), hT⟩)
set_option maxHeartbeats 4000000 in
set_option maxRecDepth 100000 in
theorem c_piecesAt (l : Launch) (hL : l.stackTraces = false) (D : va_G) (a w : Nat) (cJ cZ : ClassId) (β : Nat → Bool) (n q u : Nat) (hn : n ≤ 65536) (hu : u ≤ n) : xM l y_X_piecesAt w_X_piecesAt (xrm 2) [.ref a, .int (nI u)] (wXt D a w cJ cZ β n q) xNA (fun v st t => ¬ (n < u + 6 ∨ xv β u 6 < 1 ∨ 4 < xv β u 6) ∧ v = some (.int (nI (16384 * xv β u 6))) ∧ t.heap = st.heap) (fun x st t => (n < u + 6 ∨ xv β u 6 < 1 ∨ 4 < xv β u 6) ∧ xl_T E_UO x st.heap t.heap t.vm) := by
  refine xM.of (by decide) ?_
  intro p e s m args below meth c hav E hr hk hh hnm hwX
  subst hav
  obtain ⟨⟨hP, hK⟩, hQ⟩ := hwX
  have hS : va_S xNA s.heap s.heap [] := va_S.rf
  have hv := xv_lt β u 6
  refine xl_entry _ (Nat.le_of_ble_eq_true rfl) (fun ls hl => ?_)
  have hl : lv_has ls 3 [(0, .ref a), (1, .int (nI u))] := hl
  refine lv_aload_n E.1 E.2.1 d_X_piecesAt_0 rfl (lv_at hl 0 rfl) ?_
  refine lv_iload_n E.1 E.2.1 d_X_piecesAt_1 rfl (lv_at hl 1 rfl) ?_
  refine lv_bipush (v := 6) E.1 E.2.1 d_X_piecesAt_2 (by decide) ?_
  refine xg_looks (xc_V E xGT (c_bitsAt l hL D a w cJ cZ β n q u 6 hn hu (by decide)) vw_X_bitsAt (by decide) (wXt.call hP hK hQ) (PX.recv hP hK) rfl hl.1 rfl (Nat.le_of_ble_eq_true rfl) d_X_piecesAt_4) (fun v st t h => h.2.2) (fun v st t h0 hal hrt => ?_) (fun x st t h0 hal hth hz => xr_leave hh hk hal h0 hth.2 (fun t hT => ⟨Or.inl hth.1, hT⟩))
  obtain ⟨h1, rfl, -⟩ := hrt
  refine W.eq (g2 := F0 m 7 ls [.long (lN (xv β u 6))]) rfl ?_
  refine lv_l2i (v := (lN (xv β u 6)).toInt32) E.1 E.2.1 d_X_piecesAt_7 rfl ?_
  refine xl_ti (y := (nI (xv β u 6))) (lN_i _) ?_
  refine lv_istore_n E.1 E.2.1 d_X_piecesAt_8 rfl hl (by decide) rfl (fun ls hl => ?_)
  have hl : lv_has ls 3 [(2, .int (nI (xv β u 6))), (0, .ref a), (1, .int (nI u))] := hl
  refine lv_iload_n E.1 E.2.1 d_X_piecesAt_9 rfl (lv_at hl 0 rfl) ?_
  refine lv_iconst (v := 1) E.1 E.2.1 d_X_piecesAt_10 (by decide) ?_
  refine lv_icmp_lt (tgt := 19) E.1 E.2.1 d_X_piecesAt_11 (by decide) (fun h2 => ?_) (fun h2 => ?_)
  · skip
    have h2 : xv β u 6 < 1 := (nI_ltI (by omega) (by decide)).mp h2
    exact xr_throw E hL hQ hh hk tw_UO_piecesAt hl.1 d_X_piecesAt_19 d_X_piecesAt_22 d_X_piecesAt_23 d_X_piecesAt_25 d_X_piecesAt_28 (by decide) (fun x t hT => ⟨by omega, hT⟩)
  · skip
    have h2 : ¬ xv β u 6 < 1 := fun z => h2 ((nI_ltI (by omega) (by decide)).mpr z)
    refine lv_iload_n E.1 E.2.1 d_X_piecesAt_14 rfl (lv_at hl 0 rfl) ?_
    refine lv_iconst (v := 4) E.1 E.2.1 d_X_piecesAt_15 (by decide) ?_
    refine lv_icmp_le (tgt := 29) E.1 E.2.1 d_X_piecesAt_16 (by decide) (fun h3 => ?_) (fun h3 => ?_)
    · skip
      have h3 : xv β u 6 ≤ 4 := (nI_leI (by omega) (by decide)).mp h3
      refine lv_iload_n E.1 E.2.1 d_X_piecesAt_29 rfl (lv_at hl 0 rfl) ?_
      refine lv_sipush (v := 16384) E.1 E.2.1 d_X_piecesAt_30 (by decide) ?_
      refine lv_imul E.1 E.2.1 d_X_piecesAt_33 ?_
      refine xl_ti (y := (nI (16384 * xv β u 6))) (by rw [Nat.mul_comm]; exact pk_mul _ 16384) ?_
      exact xr_iret E hr hk hS (fun t ht _ => ⟨by omega, rfl, ht⟩) d_X_piecesAt_34
    · skip
      have h3 : ¬ xv β u 6 ≤ 4 := fun z => h3 ((nI_leI (by omega) (by decide)).mpr z)
      exact xr_throw E hL hQ hh hk tw_UO_piecesAt hl.1 d_X_piecesAt_19 d_X_piecesAt_22 d_X_piecesAt_23 d_X_piecesAt_25 d_X_piecesAt_28 (by decide) (fun x t hT => ⟨by omega, hT⟩)
theorem xv_1 (β : Nat → Bool) (u : Nat) : xv β u 1 = (β u).toNat := by simp [xv]
theorem xv_10 {β : Nat → Bool} {u : Nat} : lN (xv β u 1) = 0 ↔ β u = false := by
  rw [xv_1]
  cases β u <;> decide
theorem xlen_ok {β : Nat → Bool} {n u len wd : Nat} (h : xlen β n u = some (len, wd)) : len ≤ 65536 ∧ wd = xlw len ∧ u + wd ≤ n := by
  have a1 := xv_lt β (u + 1) 7
  have a2 := xv_lt β (u + 2) 14
  have a3 := xv_lt β (u + 2) 6
  unfold xlen at h
  unfold xlw
  split at h
  · cases h
  · split at h
    · split at h
      · cases h
      · cases h
        rw [if_neg (by omega)]
        omega
    · split at h
      · cases h
      · split at h
        · split at h
          · cases h
          · split at h
            · cases h
            · cases h
              rw [if_pos (by omega)]
              omega
        · split at h
          · cases h
          · split at h
            · cases h
            · cases h
              rw [if_neg (by omega)]
              omega
set_option maxHeartbeats 4000000 in
set_option maxRecDepth 100000 in
theorem c_lengthAt (l : Launch) (hL : l.stackTraces = false) (D : va_G) (a w : Nat) (cJ cZ : ClassId) (β : Nat → Bool) (n q u : Nat) (hn : n ≤ 65536) (hu : u ≤ n) : xM l y_X_lengthAt w_X_lengthAt (xrm 3) [.ref a, .int (nI u)] (wXt D a w cJ cZ β n q) xNA (fun v st t => (∃ len wd, xlen β n u = some (len, wd) ∧ v = some (.int (nI len))) ∧ t.heap = st.heap) (fun x st t => xlen β n u = none ∧ xl_T E_UO x st.heap t.heap t.vm) := by
  refine xM.of (by decide) ?_
  intro p e s m args below meth c hav E hr hk hh hnm hwX
  subst hav
  obtain ⟨⟨hP, hK⟩, hQ⟩ := hwX
  have hS : va_S xNA s.heap s.heap [] := va_S.rf
  refine xl_entry _ (Nat.le_of_ble_eq_true rfl) (fun ls hl => ?_)
  have hl : lv_has ls 2 [(0, .ref a), (1, .int (nI u))] := hl
  refine lv_aload_n E.1 E.2.1 d_X_lengthAt_0 rfl (lv_at hl 0 rfl) ?_
  refine lv_iload_n E.1 E.2.1 d_X_lengthAt_1 rfl (lv_at hl 1 rfl) ?_
  refine lv_iconst (v := 1) E.1 E.2.1 d_X_lengthAt_2 (by decide) ?_
  refine xg_looks (xc_V E xGT (c_bitsAt l hL D a w cJ cZ β n q u 1 hn hu (by decide)) vw_X_bitsAt (by decide) (wXt.call hP hK hQ) (PX.recv hP hK) rfl hl.1 rfl (Nat.le_of_ble_eq_true rfl) d_X_lengthAt_3) (fun v st t h => h.2.2) (fun v st t h0 hal hrt => ?_) (fun x st t h0 hal hth hz => xr_leave hh hk hal h0 hth.2 (fun t hT => ⟨by unfold xlen; rw [if_pos (by have := hth.1; omega)], hT⟩))
  obtain ⟨h1, rfl, -⟩ := hrt
  refine W.eq (g2 := F0 m 6 ls [.long (lN (xv β u 1))]) rfl ?_
  refine lv_lconst (v := 0) E.1 E.2.1 d_X_lengthAt_6 (by decide) ?_
  refine xl_lc_ne (tgt := 22) E.1 E.2.1 d_X_lengthAt_7 d_X_lengthAt_8 (by decide) (fun h2 => ?_) (fun h2 => ?_)
  · skip
    have h2 : ¬ β u = false := fun z => h2 (xv_10.mpr z)
    refine lv_aload_n E.1 E.2.1 d_X_lengthAt_22 rfl (lv_at hl 0 rfl) ?_
    refine lv_iload_n E.1 E.2.1 d_X_lengthAt_23 rfl (lv_at hl 1 rfl) ?_
    refine lv_iconst (v := 1) E.1 E.2.1 d_X_lengthAt_24 (by decide) ?_
    refine lv_iadd E.1 E.2.1 d_X_lengthAt_25 ?_
    refine xl_ti (y := (nI (u + 1))) (nI_1 u) ?_
    refine lv_iconst (v := 1) E.1 E.2.1 d_X_lengthAt_26 (by decide) ?_
    refine xg_looks (xc_V E xGT (c_bitsAt l hL D a w cJ cZ β n q (u + 1) 1 hn (by omega) (by decide)) vw_X_bitsAt (by decide) (wXt.call hP hK hQ) (PX.recv hP hK) rfl hl.1 rfl (Nat.le_of_ble_eq_true rfl) d_X_lengthAt_27) (fun v st t h => h.2.2) (fun v st t h0 hal hrt => ?_) (fun x st t h0 hal hth hz => xr_leave hh hk hal h0 hth.2 (fun t hT => ⟨by unfold xlen; rw [if_neg (by omega), if_neg h2, if_pos (by have := hth.1; omega)], hT⟩))
    obtain ⟨h3, rfl, -⟩ := hrt
    refine W.eq (g2 := F0 m 30 ls [.long (lN (xv β (u + 1) 1))]) rfl ?_
    refine lv_lconst (v := 0) E.1 E.2.1 d_X_lengthAt_30 (by decide) ?_
    refine xl_lc_ne (tgt := 45) E.1 E.2.1 d_X_lengthAt_31 d_X_lengthAt_32 (by decide) (fun h4 => ?_) (fun h4 => ?_)
    · skip
      have h4 : ¬ β (u + 1) = false := fun z => h4 (xv_10.mpr z)
      refine lv_aload_n E.1 E.2.1 d_X_lengthAt_45 rfl (lv_at hl 0 rfl) ?_
      refine lv_iload_n E.1 E.2.1 d_X_lengthAt_46 rfl (lv_at hl 1 rfl) ?_
      refine lv_iconst (v := 2) E.1 E.2.1 d_X_lengthAt_47 (by decide) ?_
      refine lv_iadd E.1 E.2.1 d_X_lengthAt_48 ?_
      refine xl_ti (y := (nI (u + 2))) (nI_add u 2) ?_
      refine xg_looks (xc_V E xGT (c_piecesAt l hL D a w cJ cZ β n q (u + 2) hn (by omega)) vw_X_piecesAt (by decide) (wXt.call hP hK hQ) (PX.recv hP hK) rfl hl.1 rfl (Nat.le_of_ble_eq_true rfl) d_X_lengthAt_49) (fun v st t h => h.2.2) (fun v st t h0 hal hrt => ?_) (fun x st t h0 hal hth hz => xr_leave hh hk hal h0 hth.2 (fun t hT => ⟨?_, hT⟩))
      · obtain ⟨h5, rfl, -⟩ := hrt
        refine W.eq (g2 := F0 m 52 ls [.int (nI (16384 * xv β (u + 2) 6))]) rfl ?_
        exact xr_iret E hr hk hS (fun t ht _ => ⟨⟨_, 8, by unfold xlen; rw [if_neg (by omega), if_neg h2, if_neg (by omega), if_neg h4, if_neg (by omega), if_neg (by omega)], rfl⟩, ht⟩) d_X_lengthAt_52
      · unfold xlen
        rw [if_neg (by omega), if_neg h2, if_neg (by omega), if_neg h4]
        rcases hth.1 with h6 | h6
        · rw [if_pos (by omega)]
        · by_cases h7 : n < u + 8
          · rw [if_pos h7]
          · rw [if_neg h7, if_pos h6]
    · skip
      have h4 : β (u + 1) = false := xv_10.mp h4
      refine lv_aload_n E.1 E.2.1 d_X_lengthAt_35 rfl (lv_at hl 0 rfl) ?_
      refine lv_iload_n E.1 E.2.1 d_X_lengthAt_36 rfl (lv_at hl 1 rfl) ?_
      refine lv_iconst (v := 2) E.1 E.2.1 d_X_lengthAt_37 (by decide) ?_
      refine lv_iadd E.1 E.2.1 d_X_lengthAt_38 ?_
      refine xl_ti (y := (nI (u + 2))) (nI_add u 2) ?_
      refine xg_looks (xc_V E xGT (c_longLengthAt l hL D a w cJ cZ β n q (u + 2) hn (by omega)) vw_X_longLengthAt (by decide) (wXt.call hP hK hQ) (PX.recv hP hK) rfl hl.1 rfl (Nat.le_of_ble_eq_true rfl) d_X_lengthAt_39) (fun v st t h => h.2.2) (fun v st t h0 hal hrt => ?_) (fun x st t h0 hal hth hz => xr_leave hh hk hal h0 hth.2 (fun t hT => ⟨?_, hT⟩))
      · obtain ⟨h5, rfl, -⟩ := hrt
        refine W.eq (g2 := F0 m 42 ls [.int (nI (xv β (u + 2) 14))]) rfl ?_
        refine lv_goto (tgt := 52) E.1 E.2.1 d_X_lengthAt_42 (by decide) ?_
        exact xr_iret E hr hk hS (fun t ht _ => ⟨⟨_, 16, by unfold xlen; rw [if_neg (by omega), if_neg h2, if_neg (by omega), if_pos h4, if_neg (by omega), if_neg (by omega)], rfl⟩, ht⟩) d_X_lengthAt_52
      · unfold xlen
        rw [if_neg (by omega), if_neg h2, if_neg (by omega), if_pos h4]
        rcases hth.1 with h6 | h6
        · rw [if_pos (by omega)]
        · by_cases h7 : n < u + 16
          · rw [if_pos h7]
          · rw [if_neg h7, if_pos h6]
  · skip
    have h2 : β u = false := xv_10.mp h2
    refine lv_aload_n E.1 E.2.1 d_X_lengthAt_11 rfl (lv_at hl 0 rfl) ?_
    refine lv_iload_n E.1 E.2.1 d_X_lengthAt_12 rfl (lv_at hl 1 rfl) ?_
    refine lv_iconst (v := 1) E.1 E.2.1 d_X_lengthAt_13 (by decide) ?_
    refine lv_iadd E.1 E.2.1 d_X_lengthAt_14 ?_
    refine xl_ti (y := (nI (u + 1))) (nI_1 u) ?_
    refine lv_bipush (v := 7) E.1 E.2.1 d_X_lengthAt_15 (by decide) ?_
    refine xg_looks (xc_V E xGT (c_bitsAt l hL D a w cJ cZ β n q (u + 1) 7 hn (by omega) (by decide)) vw_X_bitsAt (by decide) (wXt.call hP hK hQ) (PX.recv hP hK) rfl hl.1 rfl (Nat.le_of_ble_eq_true rfl) d_X_lengthAt_17) (fun v st t h => h.2.2) (fun v st t h0 hal hrt => ?_) (fun x st t h0 hal hth hz => xr_leave hh hk hal h0 hth.2 (fun t hT => ⟨by unfold xlen; rw [if_neg (by omega), if_pos h2, if_pos (by have := hth.1; omega)], hT⟩))
    obtain ⟨h3, rfl, -⟩ := hrt
    refine W.eq (g2 := F0 m 20 ls [.long (lN (xv β (u + 1) 7))]) rfl ?_
    refine lv_l2i (v := (lN (xv β (u + 1) 7)).toInt32) E.1 E.2.1 d_X_lengthAt_20 rfl ?_
    refine xl_ti (y := (nI (xv β (u + 1) 7))) (lN_i _) ?_
    exact xr_iret E hr hk hS (fun t ht _ => ⟨⟨_, 8, by unfold xlen; rw [if_neg (by omega), if_pos h2, if_neg (by omega)], rfl⟩, ht⟩) d_X_lengthAt_21
end XL13

