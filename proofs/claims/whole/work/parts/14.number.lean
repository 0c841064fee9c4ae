/-! The class: a number read. -/
section XL14
theorem xnumAt_of {β : Nat → Bool} {n u b wd : Nat} {kind : Int32} (h : xlen β n u = some (b, wd)) : xnumAt β n kind u = if b < 1 ∨ 8 < b then none else if n < u + wd + 8 * b then none else if nb kind (xsx kind (lN (xv β (u + wd) (8 * b))) b) ≠ b then none else some (xsx kind (lN (xv β (u + wd) (8 * b))) b, wd + 8 * b) := by
  unfold xnumAt
  rw [h]
theorem xnumAt_no {β : Nat → Bool} {n u : Nat} {kind : Int32} (h : xlen β n u = none) : xnumAt β n kind u = none := by
  unfold xnumAt
  rw [h]
/-- how wide a number is that was read -/
theorem xnumAt_w {β : Nat → Bool} {n u wd : Nat} {kind : Int32} {z : Int64} (h : xnumAt β n kind u = some (z, wd)) : wd = 8 + 8 * nb kind z ∧ u + wd ≤ n := by
  cases hx : xlen β n u with
  | none =>
    rw [xnumAt_no hx] at h
    cases h
  | some r =>
    obtain ⟨b, w0⟩ := r
    obtain ⟨-, h2, h3⟩ := xlen_ok hx
    rw [xnumAt_of hx] at h
    split at h
    · cases h
    · split at h
      · cases h
      · split at h
        · cases h
        · rename_i g1 g2 g3
          cases h
          have e : nb kind (xsx kind (lN (xv β (u + w0) (8 * b))) b) = b := Classical.byContradiction g3
          have : xlw b = 8 := by
            unfold xlw
            rw [if_neg (by omega)]
          rw [e]
          omega
set_option maxHeartbeats 4000000 in
set_option maxRecDepth 100000 in
theorem c_numberAt (l : Launch) (hL : l.stackTraces = false) (D : va_G) (a w : Nat) (cJ cZ : ClassId) (β : Nat → Bool) (n q u : Nat) (kind : Int32) (hn : n ≤ 65536) (hu : u ≤ n) : xM l y_X_numberAt w_X_numberAt (xrm 4) [.ref a, .int kind, .int (nI u)] (wXt D a w cJ cZ β n q) xNA (fun v st t => (∃ z wd, xnumAt β n kind u = some (z, wd) ∧ v = some (.long z)) ∧ t.heap = st.heap) (fun x st t => xnumAt β n kind u = none ∧ xl_T E_UO x st.heap t.heap t.vm) := by
  refine xM.of (by decide) ?_
  intro p e s m args below meth c hav E hr hk hh hnm hwX
  subst hav
  obtain ⟨⟨hP, hK⟩, hQ⟩ := hwX
  have hS : va_S xNA s.heap s.heap [] := va_S.rf
  refine xl_entry _ (Nat.le_of_ble_eq_true rfl) (fun ls hl => ?_)
  have hl : lv_has ls 7 [(0, .ref a), (1, .int kind), (2, .int (nI u))] := hl
  refine lv_aload_n E.1 E.2.1 d_X_numberAt_0 rfl (lv_at hl 0 rfl) ?_
  refine lv_iload_n E.1 E.2.1 d_X_numberAt_1 rfl (lv_at hl 2 rfl) ?_
  refine xg_looks (xc_V E xGT (c_lengthAt l hL D a w cJ cZ β n q u hn hu) vw_X_lengthAt (by decide) (wXt.call hP hK hQ) (PX.recv hP hK) rfl hl.1 rfl (Nat.le_of_ble_eq_true rfl) d_X_numberAt_2) (fun v st t h => h.2) (fun v st t h0 hal hrt => ?_) (fun x st t h0 hal hth hz => xr_leave hh hk hal h0 hth.2 (fun t hT => ⟨xnumAt_no hth.1, hT⟩))
  obtain ⟨⟨b, wd, hlen, rfl⟩, -⟩ := hrt
  obtain ⟨hb, hwd, huw⟩ := xlen_ok hlen
  have hof := xnumAt_of (kind := kind) hlen
  refine W.eq (g2 := F0 m 5 ls [.int (nI b)]) rfl ?_
  refine lv_istore_n E.1 E.2.1 d_X_numberAt_5 rfl hl (by decide) rfl (fun ls hl => ?_)
  have hl : lv_has ls 7 [(3, .int (nI b)), (0, .ref a), (1, .int kind), (2, .int (nI u))] := hl
  refine lv_iload_n E.1 E.2.1 d_X_numberAt_6 rfl (lv_at hl 0 rfl) ?_
  refine lv_iconst (v := 1) E.1 E.2.1 d_X_numberAt_7 (by decide) ?_
  refine lv_icmp_lt (tgt := 17) E.1 E.2.1 d_X_numberAt_8 (by decide) (fun h1 => ?_) (fun h1 => ?_)
  · skip
    have h1 : b < 1 := (nI_ltI (by omega) (by decide)).mp h1
    exact xr_throw E hL hQ hh hk tw_UO_numberAt_17 hl.1 d_X_numberAt_17 d_X_numberAt_20 d_X_numberAt_21 d_X_numberAt_23 d_X_numberAt_26 (by decide) (fun x t hT => ⟨by rw [hof, if_pos (Or.inl h1)], hT⟩)
  · skip
    have h1 : ¬ b < 1 := fun z => h1 ((nI_ltI (by omega) (by decide)).mpr z)
    refine lv_iload_n E.1 E.2.1 d_X_numberAt_11 rfl (lv_at hl 0 rfl) ?_
    refine lv_bipush (v := 8) E.1 E.2.1 d_X_numberAt_12 (by decide) ?_
    refine lv_icmp_le (tgt := 27) E.1 E.2.1 d_X_numberAt_14 (by decide) (fun h2 => ?_) (fun h2 => ?_)
    · skip
      have h2 : b ≤ 8 := (nI_leI (by omega) (by decide)).mp h2
      rw [if_neg (by omega)] at hof
      have hw8 : xlw b = 8 := by
        unfold xlw
        rw [if_neg (by omega)]
      have hwd : wd = 8 := by omega
      subst hwd
      refine lv_iload_n E.1 E.2.1 d_X_numberAt_27 rfl (lv_at hl 0 rfl) ?_
      refine lv_bipush (v := 8) E.1 E.2.1 d_X_numberAt_28 (by decide) ?_
      refine lv_imul E.1 E.2.1 d_X_numberAt_30 ?_
      refine xl_ti (y := (nI (b * 8))) (pk_mul _ 8) ?_
      refine lv_istore E.1 E.2.1 d_X_numberAt_31 hl (by decide) rfl (fun ls hl => ?_)
      have hl : lv_has ls 7 [(4, .int (nI (b * 8))), (3, .int (nI b)), (0, .ref a), (1, .int kind), (2, .int (nI u))] := hl
      refine lv_aload_n E.1 E.2.1 d_X_numberAt_33 rfl (lv_at hl 2 rfl) ?_
      refine lv_iload_n E.1 E.2.1 d_X_numberAt_34 rfl (lv_at hl 4 rfl) ?_
      refine lv_iload_n E.1 E.2.1 d_X_numberAt_35 rfl (lv_at hl 1 rfl) ?_
      refine xg_looks (xc_S E xGT (c_lengthWidth l b (by omega)) sw_X_lengthWidth (by decide) xNo rfl hl.1 rfl (Nat.le_of_ble_eq_true rfl) d_X_numberAt_36) (fun v st t h => h.2) (fun v st t h0 hal hrt => ?_) (fun x st t h0 hal hth hz => hth.elim)
      obtain ⟨rfl, -⟩ := hrt
      refine W.eq (g2 := F0 m 39 ls [.int (nI (xlw b)), .int (nI u), .ref a]) rfl ?_
      refine lv_iadd E.1 E.2.1 d_X_numberAt_39 ?_
      refine xl_ti (y := (nI (u + 8))) (by rw [nI_add, hw8]) ?_
      refine lv_iload E.1 E.2.1 d_X_numberAt_40 (lv_at hl 0 rfl) ?_
      refine xg_looks (xc_V E xGT (c_bitsAt l hL D a w cJ cZ β n q (u + 8) (b * 8) hn (by omega) (by omega)) vw_X_bitsAt (by decide) (wXt.call hP hK hQ) (PX.recv hP hK) rfl hl.1 rfl (Nat.le_of_ble_eq_true rfl) d_X_numberAt_42) (fun v st t h => h.2.2) (fun v st t h0 hal hrt => ?_) (fun x st t h0 hal hth hz => xr_leave hh hk hal h0 hth.2 (fun t hT => ⟨by rw [hof, if_pos (by have := hth.1; omega)], hT⟩))
      obtain ⟨h3, rfl, -⟩ := hrt
      rw [if_neg (by omega), Nat.mul_comm 8 b] at hof
      refine W.eq (g2 := F0 m 45 ls [.long (lN (xv β (u + 8) (b * 8)))]) rfl ?_
      refine lv_lstore E.1 E.2.1 d_X_numberAt_45 hl (by decide) rfl (fun ls hl => ?_)
      have hl : lv_has ls 7 [(5, .long (lN (xv β (u + 8) (b * 8)))), (4, .int (nI (b * 8))), (3, .int (nI b)), (0, .ref a), (1, .int kind), (2, .int (nI u))] := hl
      generalize hZ : lN (xv β (u + 8) (b * 8)) = Z at hof hl ⊢
      refine xl_join (fun ls : Array Slot => lv_has ls 7 [(5, .long (xsx kind Z b)), (4, .int (nI (b * 8))), (3, .int (nI b)), (0, .ref a), (1, .int kind), (2, .int (nI u))]) (fun ls => F0 m 68 ls []) (fun ls hl => ?_) (fun hj => ?_)
      · skip
        refine lv_iload_n E.1 E.2.1 d_X_numberAt_68 rfl (lv_at hl 4 rfl) ?_
        refine lv_lload E.1 E.2.1 d_X_numberAt_69 (lv_at hl 0 rfl) ?_
        refine xg_looks (xc_S E xGT (c_bytesToHold l kind (xsx kind Z b)) sw_X_bytesToHold (by decide) xNo rfl hl.1 rfl (Nat.le_of_ble_eq_true rfl) d_X_numberAt_71) (fun v st t h => h.2) (fun v st t h0 hal hrt => ?_) (fun x st t h0 hal hth hz => hth.elim)
        obtain ⟨rfl, -⟩ := hrt
        have hnb8 := nb_8 kind (xsx kind Z b)
        refine W.eq (g2 := F0 m 74 ls [.int (nI (nb kind (xsx kind Z b)))]) rfl ?_
        refine lv_iload_n E.1 E.2.1 d_X_numberAt_74 rfl (lv_at hl 2 rfl) ?_
        refine lv_icmp_eq (tgt := 88) E.1 E.2.1 d_X_numberAt_75 (by decide) (fun h4 => ?_) (fun h4 => ?_)
        · skip
          have h4 : nb kind (xsx kind Z b) = b := (nI_eq (by omega) (by omega)).mp h4
          rw [if_neg (fun z => z h4)] at hof
          refine lv_lload E.1 E.2.1 d_X_numberAt_88 (lv_at hl 0 rfl) ?_
          exact xr_lret E hr hk hS (fun t ht _ => ⟨⟨_, _, hof, rfl⟩, ht⟩) d_X_numberAt_90
        · skip
          have h4 : ¬ nb kind (xsx kind Z b) = b := fun z => h4 ((nI_eq (by omega) (by omega)).mpr z)
          rw [if_pos h4] at hof
          exact xr_throw E hL hQ hh hk tw_UO_numberAt_78 hl.1 d_X_numberAt_78 d_X_numberAt_81 d_X_numberAt_82 d_X_numberAt_84 d_X_numberAt_87 (by decide) (fun x t hT => ⟨hof, hT⟩)
      · skip
        refine lv_iload_n E.1 E.2.1 d_X_numberAt_47 rfl (lv_at hl 4 rfl) ?_
        refine lv_iconst (v := 1) E.1 E.2.1 d_X_numberAt_48 (by decide) ?_
        refine lv_icmp_ne (tgt := 68) E.1 E.2.1 d_X_numberAt_49 (by decide) (fun h4 => ?_) (fun h4 => ?_)
        · skip
          have hx : xsx kind Z b = Z := by
            unfold xsx
            rw [if_neg h4]
          rw [← hx] at hl
          exact hj ls hl
        · skip
          have hx : xsx kind Z b = xsr (xsl Z (nI (64 - b * 8))) (nI (64 - b * 8)) := by
            unfold xsx
            rw [if_pos h4, Nat.mul_comm 8 b]
          refine lv_lload E.1 E.2.1 d_X_numberAt_52 (lv_at hl 0 rfl) ?_
          refine lv_bipush (v := 64) E.1 E.2.1 d_X_numberAt_54 (by decide) ?_
          refine lv_iload E.1 E.2.1 d_X_numberAt_56 (lv_at hl 1 rfl) ?_
          refine lv_isub E.1 E.2.1 d_X_numberAt_58 ?_
          refine xl_ti (y := (nI (64 - b * 8))) (pk_sub (a := 64) (b := b * 8) (by omega)) ?_
          refine lv_lshl (v := xsl Z (nI (64 - b * 8))) E.1 E.2.1 d_X_numberAt_59 rfl ?_
          refine lv_bipush (v := 64) E.1 E.2.1 d_X_numberAt_60 (by decide) ?_
          refine lv_iload E.1 E.2.1 d_X_numberAt_62 (lv_at hl 1 rfl) ?_
          refine lv_isub E.1 E.2.1 d_X_numberAt_64 ?_
          refine xl_ti (y := (nI (64 - b * 8))) (pk_sub (a := 64) (b := b * 8) (by omega)) ?_
          refine lv_lshr (v := xsr (xsl Z (nI (64 - b * 8))) (nI (64 - b * 8))) E.1 E.2.1 d_X_numberAt_65 rfl ?_
          refine xl_tl (y := (xsx kind Z b)) (hx.symm) ?_
          refine lv_lstore E.1 E.2.1 d_X_numberAt_66 hl (by decide) rfl (fun ls hl => ?_)
          have hl : lv_has ls 7 [(5, .long (xsx kind Z b)), (4, .int (nI (b * 8))), (3, .int (nI b)), (0, .ref a), (1, .int kind), (2, .int (nI u))] := hl
          exact hj ls hl
    · skip
      have h2 : ¬ b ≤ 8 := fun z => h2 ((nI_leI (by omega) (by decide)).mpr z)
      exact xr_throw E hL hQ hh hk tw_UO_numberAt_17 hl.1 d_X_numberAt_17 d_X_numberAt_20 d_X_numberAt_21 d_X_numberAt_23 d_X_numberAt_26 (by decide) (fun x t hT => ⟨by rw [hof, if_pos (Or.inr (by omega))], hT⟩)
set_option maxHeartbeats 4000000 in
set_option maxRecDepth 100000 in
theorem c_smallAt (l : Launch) (hL : l.stackTraces = false) (D : va_G) (a w : Nat) (cJ cZ : ClassId) (β : Nat → Bool) (n q u : Nat) (hn : n ≤ 65536) (hu : u ≤ n) : xM l y_X_smallAt w_X_smallAt (xrm 5) [.ref a, .int (nI u)] (wXt D a w cJ cZ β n q) xNA (fun v st t => (∃ z wd, xsmallAt β n u = some (z, wd) ∧ v = some (.long z)) ∧ t.heap = st.heap) (fun x st t => xsmallAt β n u = none ∧ xl_T E_UO x st.heap t.heap t.vm) := by
  refine xM.of (by decide) ?_
  intro p e s m args below meth c hav E hr hk hh hnm hwX
  subst hav
  obtain ⟨⟨hP, hK⟩, hQ⟩ := hwX
  have hS : va_S xNA s.heap s.heap [] := va_S.rf
  refine xl_entry _ (Nat.le_of_ble_eq_true rfl) (fun ls hl => ?_)
  have hl : lv_has ls 4 [(0, .ref a), (1, .int (nI u))] := hl
  refine lv_aload_n E.1 E.2.1 d_X_smallAt_0 rfl (lv_at hl 0 rfl) ?_
  refine lv_iload_n E.1 E.2.1 d_X_smallAt_1 rfl (lv_at hl 1 rfl) ?_
  refine lv_iconst (v := 1) E.1 E.2.1 d_X_smallAt_2 (by decide) ?_
  refine xg_looks (xc_V E xGT (c_bitsAt l hL D a w cJ cZ β n q u 1 hn hu (by decide)) vw_X_bitsAt (by decide) (wXt.call hP hK hQ) (PX.recv hP hK) rfl hl.1 rfl (Nat.le_of_ble_eq_true rfl) d_X_smallAt_3) (fun v st t h => h.2.2) (fun v st t h0 hal hrt => ?_) (fun x st t h0 hal hth hz => xr_leave hh hk hal h0 hth.2 (fun t hT => ⟨by unfold xsmallAt; rw [if_pos (by have := hth.1; omega)], hT⟩))
  obtain ⟨h1, rfl, -⟩ := hrt
  refine W.eq (g2 := F0 m 6 ls [.long (lN (xv β u 1))]) rfl ?_
  refine lv_lconst (v := 0) E.1 E.2.1 d_X_smallAt_6 (by decide) ?_
  refine xl_lc_ne (tgt := 21) E.1 E.2.1 d_X_smallAt_7 d_X_smallAt_8 (by decide) (fun h2 => ?_) (fun h2 => ?_)
  · skip
    have h2 : ¬ β u = false := fun z => h2 (xv_10.mpr z)
    have hof : xsmallAt β n u = match xnumAt β n 0 (u + 1) with
        | none => none
        | some (v, w) => if 0 ≤ v ∧ v < 64 then none else some (v, w + 1) := by
      unfold xsmallAt
      rw [if_neg (by omega), if_neg h2]
      rfl
    refine lv_aload_n E.1 E.2.1 d_X_smallAt_21 rfl (lv_at hl 0 rfl) ?_
    refine lv_iconst (v := 0) E.1 E.2.1 d_X_smallAt_22 (by decide) ?_
    refine lv_iload_n E.1 E.2.1 d_X_smallAt_23 rfl (lv_at hl 1 rfl) ?_
    refine lv_iconst (v := 1) E.1 E.2.1 d_X_smallAt_24 (by decide) ?_
    refine lv_iadd E.1 E.2.1 d_X_smallAt_25 ?_
    refine xl_ti (y := (nI (u + 1))) (nI_1 u) ?_
    refine xg_looks (xc_V E xGT (c_numberAt l hL D a w cJ cZ β n q (u + 1) 0 hn (by omega)) vw_X_numberAt (by decide) (wXt.call hP hK hQ) (PX.recv hP hK) rfl hl.1 rfl (Nat.le_of_ble_eq_true rfl) d_X_smallAt_26) (fun v st t h => h.2) (fun v st t h0 hal hrt => ?_) (fun x st t h0 hal hth hz => xr_leave hh hk hal h0 hth.2 (fun t hT => ⟨by rw [hof, hth.1], hT⟩))
    obtain ⟨⟨z, wd, hz, rfl⟩, -⟩ := hrt
    rw [hz] at hof
    refine W.eq (g2 := F0 m 29 ls [.long z]) rfl ?_
    refine lv_lstore_n E.1 E.2.1 d_X_smallAt_29 rfl hl (by decide) rfl (fun ls hl => ?_)
    have hl : lv_has ls 4 [(2, .long z), (0, .ref a), (1, .int (nI u))] := hl
    refine lv_lload_n E.1 E.2.1 d_X_smallAt_30 rfl (lv_at hl 0 rfl) ?_
    refine xg_looks (xc_S E xGT (c_isSmall l z) sw_X_isSmall (by decide) xNo rfl hl.1 rfl (Nat.le_of_ble_eq_true rfl) d_X_smallAt_31) (fun v st t h => h.2) (fun v st t h0 hal hrt => ?_) (fun x st t h0 hal hth hz => hth.elim)
    obtain ⟨rfl, -⟩ := hrt
    refine W.eq (g2 := F0 m 34 ls [.int (if 0 ≤ z ∧ z < 64 then 1 else 0)]) rfl ?_
    refine lv_if_eq (tgt := 47) E.1 E.2.1 d_X_smallAt_34 (by decide) (fun h3 => ?_) (fun h3 => ?_)
    · skip
      have h3 : ¬ (0 ≤ z ∧ z < 64) := fun q => by rw [if_pos q] at h3; exact absurd h3 (by decide)
      have hof : xsmallAt β n u = some (z, wd + 1) := by rw [hof]; exact if_neg h3
      refine lv_lload_n E.1 E.2.1 d_X_smallAt_47 rfl (lv_at hl 0 rfl) ?_
      exact xr_lret E hr hk hS (fun t ht _ => ⟨⟨_, _, hof, rfl⟩, ht⟩) d_X_smallAt_48
    · skip
      have h3 : 0 ≤ z ∧ z < 64 := Classical.byContradiction fun q => h3 (by rw [if_neg q])
      have hof : xsmallAt β n u = none := by rw [hof]; exact if_pos h3
      exact xr_throw E hL hQ hh hk tw_UO_smallAt hl.1 d_X_smallAt_37 d_X_smallAt_40 d_X_smallAt_41 d_X_smallAt_43 d_X_smallAt_46 (by decide) (fun x t hT => ⟨hof, hT⟩)
  · skip
    have h2 : β u = false := xv_10.mp h2
    refine lv_aload_n E.1 E.2.1 d_X_smallAt_11 rfl (lv_at hl 0 rfl) ?_
    refine lv_iload_n E.1 E.2.1 d_X_smallAt_12 rfl (lv_at hl 1 rfl) ?_
    refine lv_iconst (v := 1) E.1 E.2.1 d_X_smallAt_13 (by decide) ?_
    refine lv_iadd E.1 E.2.1 d_X_smallAt_14 ?_
    refine xl_ti (y := (nI (u + 1))) (nI_1 u) ?_
    refine lv_bipush (v := 6) E.1 E.2.1 d_X_smallAt_15 (by decide) ?_
    refine xg_looks (xc_V E xGT (c_bitsAt l hL D a w cJ cZ β n q (u + 1) 6 hn (by omega) (by decide)) vw_X_bitsAt (by decide) (wXt.call hP hK hQ) (PX.recv hP hK) rfl hl.1 rfl (Nat.le_of_ble_eq_true rfl) d_X_smallAt_17) (fun v st t h => h.2.2) (fun v st t h0 hal hrt => ?_) (fun x st t h0 hal hth hz => xr_leave hh hk hal h0 hth.2 (fun t hT => ⟨by unfold xsmallAt; rw [if_neg (by omega), if_pos h2, if_pos (by have := hth.1; omega)], hT⟩))
    obtain ⟨h3, rfl, -⟩ := hrt
    refine W.eq (g2 := F0 m 20 ls [.long (lN (xv β (u + 1) 6))]) rfl ?_
    exact xr_lret E hr hk hS (fun t ht _ => ⟨⟨_, 7, by unfold xsmallAt; rw [if_neg (by omega), if_pos h2, if_neg (by omega)], rfl⟩, ht⟩) d_X_smallAt_20
end XL14

