/-! The class: the calls that read, and those that move. -/
section XL17
set_option maxHeartbeats 4000000 in
set_option maxRecDepth 100000 in
theorem c_take (l : Launch) (hL : l.stackTraces = false) (D : va_G) (a w : Nat) (cJ cZ : ClassId) (β : Nat → Bool) (n q : Nat) (hn : n ≤ 65536) (hq : q ≤ n) (hne : a ≠ w) (k : Int32) : xM l y_X_take w_X_take (xrm 6) [.ref a, .int k] (wXt D a w cJ cZ β n q) (xA2 a w) (xRl (sp_take (β, n, q) k) D a w cJ) (xTh (sp_take (β, n, q) k) E_IA E_UO) := by
  refine xM.of (by decide) ?_
  intro p e s m args below meth c hav E hr hk hh hnm hwX
  subst hav
  obtain ⟨⟨hP, hK⟩, hQ⟩ := hwX
  have hS : va_S (xA2 a w) s.heap s.heap [] := va_S.rf
  refine xl_entry _ (Nat.le_of_ble_eq_true rfl) (fun ls hl => ?_)
  have hl : lv_has ls 4 [(0, .ref a), (1, .int k)] := hl
  refine lv_iload_n E.1 E.2.1 d_X_take_0 rfl (lv_at hl 1 rfl) ?_
  refine xg_looks (xc_S E xGT (c_requireWidth l hL k) sw_X_requireWidth (by decide) (xQc hQ) rfl hl.1 rfl (Nat.le_of_ble_eq_true rfl) d_X_take_1) (fun v st t h => h.2.2) (fun v st t h0 hal hrt => ?_) (fun x st t h0 hal hth hz => xr_leave hh hk hal h0 hth.2 (fun t hT => Or.inl ⟨by unfold sp_take; rw [if_pos hth.1], hT⟩))
  obtain ⟨hkk, rfl, -⟩ := hrt
  obtain ⟨j, hj, hkj⟩ := nI_of (fun z => hkk (Or.inl z))
  have hj64 : j ≤ 64 := by
    refine Nat.not_lt.mp (fun z => hkk (Or.inr ?_))
    rw [hkj]
    exact (nI_ltI (a := 64) (by decide) hj).mpr z
  have hcl := xcl64 hkj hj
  have hsp : sp_take (β, n, q) k = if n < q + j then (2, 0, (β, n, q)) else (0, lN (xv β q j), (β, n, q + j)) := by
    unfold sp_take
    rw [if_neg hkk, hcl]
  refine W.eq (g2 := F0 m 4 ls []) rfl ?_
  refine lv_aload_n E.1 E.2.1 d_X_take_4 rfl (lv_at hl 0 rfl) ?_
  refine lv_aload_n E.1 E.2.1 d_X_take_5 rfl (lv_at hl 0 rfl) ?_
  refine gx_place E hK hP d_X_take_6 ?_
  refine lv_iload_n E.1 E.2.1 d_X_take_9 rfl (lv_at hl 1 rfl) ?_
  refine xl_ti (y := (nI j)) (hkj) ?_
  refine xg_looks (xc_V E xGT (c_bitsAt l hL D a w cJ cZ β n q q j hn hq hj64) vw_X_bitsAt (by decide) (wXt.call hP hK hQ) (PX.recv hP hK) rfl hl.1 rfl (Nat.le_of_ble_eq_true rfl) d_X_take_10) (fun v st t h => h.2.2) (fun v st t h0 hal hrt => ?_) (fun x st t h0 hal hth hz => xr_leave hh hk hal h0 hth.2 (fun t hT => Or.inr ⟨by rw [hsp, if_pos hth.1], hT⟩))
  obtain ⟨h1, rfl, -⟩ := hrt
  rw [if_neg (Nat.not_lt.mpr h1)] at hsp
  refine W.eq (g2 := F0 m 13 ls [.long (lN (xv β q j))]) rfl ?_
  refine lv_lstore_n E.1 E.2.1 d_X_take_13 rfl hl (by decide) rfl (fun ls hl => ?_)
  have hl : lv_has ls 4 [(2, .long (lN (xv β q j))), (0, .ref a), (1, .int k)] := hl
  refine lv_aload_n E.1 E.2.1 d_X_take_14 rfl (lv_at hl 1 rfl) ?_
  refine lv_dup E.1 E.2.1 d_X_take_15 rfl ?_
  refine gx_place E hK hP d_X_take_16 ?_
  refine lv_iload_n E.1 E.2.1 d_X_take_19 rfl (lv_at hl 2 rfl) ?_
  refine lv_iadd E.1 E.2.1 d_X_take_20 ?_
  refine xl_ti (y := (nI (q + j))) (by rw [hkj]; exact nI_add q j) ?_
  refine sx_place E hK hP hne hS d_X_take_21 (fun H1 locs1 hP1 hS1 => ?_)
  refine lv_lload_n E.1 E.2.1 d_X_take_24 rfl (lv_at hl 0 rfl) ?_
  exact xr_lret E hr hk hS1 (fun t ht _ => xRl.mk hsp (by rw [ht]; exact hP1)) d_X_take_25
set_option maxHeartbeats 4000000 in
set_option maxRecDepth 100000 in
theorem c_takeLength (l : Launch) (hL : l.stackTraces = false) (D : va_G) (a w : Nat) (cJ cZ : ClassId) (β : Nat → Bool) (n q : Nat) (hn : n ≤ 65536) (hq : q ≤ n) (hne : a ≠ w) : xM l y_X_takeLength w_X_takeLength (xrm 6) [.ref a] (wXt D a w cJ cZ β n q) (xA2 a w) (xRi (sp_takeLength (β, n, q)) D a w cJ) (xTh (sp_takeLength (β, n, q)) E_UO E_UO) := by
  refine xM.of (by decide) ?_
  intro p e s m args below meth c hav E hr hk hh hnm hwX
  subst hav
  obtain ⟨⟨hP, hK⟩, hQ⟩ := hwX
  have hS : va_S (xA2 a w) s.heap s.heap [] := va_S.rf
  refine xl_entry _ (Nat.le_of_ble_eq_true rfl) (fun ls hl => ?_)
  have hl : lv_has ls 2 [(0, .ref a)] := hl
  refine lv_aload_n E.1 E.2.1 d_X_takeLength_0 rfl (lv_at hl 0 rfl) ?_
  refine lv_aload_n E.1 E.2.1 d_X_takeLength_1 rfl (lv_at hl 0 rfl) ?_
  refine gx_place E hK hP d_X_takeLength_2 ?_
  refine xg_looks (xc_V E xGT (c_lengthAt l hL D a w cJ cZ β n q q hn hq) vw_X_lengthAt (by decide) (wXt.call hP hK hQ) (PX.recv hP hK) rfl hl.1 rfl (Nat.le_of_ble_eq_true rfl) d_X_takeLength_5) (fun v st t h => h.2) (fun v st t h0 hal hrt => ?_) (fun x st t h0 hal hth hz => xr_leave hh hk hal h0 hth.2 (fun t hT => Or.inl ⟨by unfold sp_takeLength; rw [hth.1], hT⟩))
  obtain ⟨⟨b, wd, hlen, rfl⟩, -⟩ := hrt
  obtain ⟨hb, hwd, huw⟩ := xlen_ok hlen
  have hsp : sp_takeLength (β, n, q) = (0, lN b, (β, n, q + wd)) := by
    unfold sp_takeLength
    rw [hlen]
  refine W.eq (g2 := F0 m 8 ls [.int (nI b)]) rfl ?_
  refine lv_istore_n E.1 E.2.1 d_X_takeLength_8 rfl hl (by decide) rfl (fun ls hl => ?_)
  have hl : lv_has ls 2 [(1, .int (nI b)), (0, .ref a)] := hl
  refine lv_aload_n E.1 E.2.1 d_X_takeLength_9 rfl (lv_at hl 1 rfl) ?_
  refine lv_dup E.1 E.2.1 d_X_takeLength_10 rfl ?_
  refine gx_place E hK hP d_X_takeLength_11 ?_
  refine lv_iload_n E.1 E.2.1 d_X_takeLength_14 rfl (lv_at hl 0 rfl) ?_
  refine xg_looks (xc_S E xGT (c_lengthWidth l b (by omega)) sw_X_lengthWidth (by decide) xNo rfl hl.1 rfl (Nat.le_of_ble_eq_true rfl) d_X_takeLength_15) (fun v st t h => h.2) (fun v st t h0 hal hrt => ?_) (fun x st t h0 hal hth hz => hth.elim)
  obtain ⟨rfl, -⟩ := hrt
  refine W.eq (g2 := F0 m 18 ls [.int (nI (xlw b)), .int (nI q), .ref a]) rfl ?_
  refine lv_iadd E.1 E.2.1 d_X_takeLength_18 ?_
  refine xl_ti (y := (nI (q + wd))) (by rw [hwd]; exact nI_add _ _) ?_
  refine sx_place E hK hP hne hS d_X_takeLength_19 (fun H1 locs1 hP1 hS1 => ?_)
  refine lv_iload_n E.1 E.2.1 d_X_takeLength_22 rfl (lv_at hl 0 rfl) ?_
  exact xr_iret E hr hk hS1 (fun t ht _ => xRi.mk hsp (nI_l (by omega)) (by rw [ht]; exact hP1)) d_X_takeLength_23
/-- how wide a SMALL number is that was read -/
theorem xsmallAt_w {β : Nat → Bool} {n u wd : Nat} {z : Int64} (h : xsmallAt β n u = some (z, wd)) : wd = xnw 2 z ∧ u + wd ≤ n := by
  have a3 := xv_lt β (u + 1) 6
  unfold xsmallAt at h
  split at h
  · cases h
  · split at h
    · split at h
      · cases h
      · cases h
        refine ⟨?_, by omega⟩
        unfold xnw
        rw [if_pos]
        refine ⟨rfl, ?_⟩
        rw [Int64.le_iff_toInt_le, Int64.lt_iff_toInt_lt, lN_toInt (by omega), Int64.toInt_zero]
        have e : (64 : Int64).toInt = 64 := by decide
        rw [e]
        omega
    · cases hx : xnumAt β n 0 (u + 1) with
      | none =>
        rw [hx] at h
        cases h
      | some r =>
        obtain ⟨v, w0⟩ := r
        rw [hx] at h
        obtain ⟨h1, h2⟩ := xnumAt_w hx
        have h : (if 0 ≤ v ∧ v < 64 then none else some (v, w0 + 1)) = some (z, wd) := h
        split at h
        · cases h
        · rename_i g
          cases h
          unfold xnw
          rw [if_neg (fun q => g q.2)]
          have e1 : xt 2 = 1 := by decide
          have e2 : nb 2 z = nb 0 z := by
            unfold nb
            rw [if_neg (by decide), if_neg (by decide)]
          rw [e1, e2]
          omega
theorem xnw_n {kind : Int32} {z : Int64} (h : ¬ kind = 2) : xnw kind z = 8 + 8 * nb kind z := by
  unfold xnw xt
  rw [if_neg (fun q => h q.1), if_neg h, Nat.zero_add]
set_option maxHeartbeats 4000000 in
set_option maxRecDepth 100000 in
theorem c_takeNumber (l : Launch) (hL : l.stackTraces = false) (D : va_G) (a w : Nat) (cJ cZ : ClassId) (β : Nat → Bool) (n q : Nat) (hn : n ≤ 65536) (hq : q ≤ n) (hne : a ≠ w) (kind : Int32) : xM l y_X_takeNumber w_X_takeNumber (xrm 6) [.ref a, .int kind] (wXt D a w cJ cZ β n q) (xA2 a w) (xRl (sp_takeNumber (β, n, q) kind) D a w cJ) (xTh (sp_takeNumber (β, n, q) kind) E_IA E_UO) := by
  refine xM.of (by decide) ?_
  intro p e s m args below meth c hav E hr hk hh hnm hwX
  subst hav
  obtain ⟨⟨hP, hK⟩, hQ⟩ := hwX
  have hS : va_S (xA2 a w) s.heap s.heap [] := va_S.rf
  refine xl_entry _ (Nat.le_of_ble_eq_true rfl) (fun ls hl => ?_)
  have hl : lv_has ls 4 [(0, .ref a), (1, .int kind)] := hl
  refine lv_iload_n E.1 E.2.1 d_X_takeNumber_0 rfl (lv_at hl 1 rfl) ?_
  refine xg_looks (xc_S E xGT (c_requireKind l hL kind) sw_X_requireKind (by decide) (xQc hQ) rfl hl.1 rfl (Nat.le_of_ble_eq_true rfl) d_X_takeNumber_1) (fun v st t h => h.2.2) (fun v st t h0 hal hrt => ?_) (fun x st t h0 hal hth hz => xr_leave hh hk hal h0 hth.2 (fun t hT => Or.inl ⟨by unfold sp_takeNumber; rw [if_pos hth.1], hT⟩))
  obtain ⟨hkk, rfl, -⟩ := hrt
  refine W.eq (g2 := F0 m 4 ls []) rfl ?_
  refine xl_join (fun z : Int64 => ∃ wd, sp_takeNumber (β, n, q) kind = (0, z, (β, n, q + wd)) ∧ wd = xnw kind z ∧ q + wd ≤ n) (fun z => F0 m 29 ls [.long z]) (fun z hz => ?_) (fun hjn => ?_)
  · obtain ⟨wd, hsp, hwd, hqw⟩ := hz
    refine lv_lstore_n E.1 E.2.1 d_X_takeNumber_29 rfl hl (by decide) rfl (fun ls hl => ?_)
    have hl : lv_has ls 4 [(2, .long z), (0, .ref a), (1, .int kind)] := hl
    refine lv_aload_n E.1 E.2.1 d_X_takeNumber_30 rfl (lv_at hl 1 rfl) ?_
    refine lv_dup E.1 E.2.1 d_X_takeNumber_31 rfl ?_
    refine gx_place E hK hP d_X_takeNumber_32 ?_
    refine lv_iload_n E.1 E.2.1 d_X_takeNumber_35 rfl (lv_at hl 2 rfl) ?_
    refine lv_lload_n E.1 E.2.1 d_X_takeNumber_36 rfl (lv_at hl 0 rfl) ?_
    refine xg_looks (xc_S E xGT (c_numberWidth l kind z) sw_X_numberWidth (by decide) xNo rfl hl.1 rfl (Nat.le_of_ble_eq_true rfl) d_X_takeNumber_37) (fun v st t h => h.2) (fun v st t h0 hal hrt => ?_) (fun x st t h0 hal hth hz => hth.elim)
    obtain ⟨rfl, -⟩ := hrt
    refine W.eq (g2 := F0 m 40 ls [.int (nI (xnw kind z)), .int (nI q), .ref a]) rfl ?_
    refine lv_iadd E.1 E.2.1 d_X_takeNumber_40 ?_
    refine xl_ti (y := (nI (q + wd))) (by rw [hwd]; exact nI_add _ _) ?_
    refine sx_place E hK hP hne hS d_X_takeNumber_41 (fun H1 locs1 hP1 hS1 => ?_)
    refine lv_lload_n E.1 E.2.1 d_X_takeNumber_44 rfl (lv_at hl 0 rfl) ?_
    exact xr_lret E hr hk hS1 (fun t ht _ => xRl.mk hsp (by rw [ht]; exact hP1)) d_X_takeNumber_45
  · skip
    refine lv_iload_n E.1 E.2.1 d_X_takeNumber_4 rfl (lv_at hl 1 rfl) ?_
    refine lv_iconst (v := 2) E.1 E.2.1 d_X_takeNumber_5 (by decide) ?_
    refine lv_icmp_ne (tgt := 20) E.1 E.2.1 d_X_takeNumber_6 (by decide) (fun h1 => ?_) (fun h1 => ?_)
    · skip
      refine lv_aload_n E.1 E.2.1 d_X_takeNumber_20 rfl (lv_at hl 0 rfl) ?_
      refine lv_iload_n E.1 E.2.1 d_X_takeNumber_21 rfl (lv_at hl 1 rfl) ?_
      refine lv_aload_n E.1 E.2.1 d_X_takeNumber_22 rfl (lv_at hl 0 rfl) ?_
      refine gx_place E hK hP d_X_takeNumber_23 ?_
      refine xg_looks (xc_V E xGT (c_numberAt l hL D a w cJ cZ β n q q kind hn hq) vw_X_numberAt (by decide) (wXt.call hP hK hQ) (PX.recv hP hK) rfl hl.1 rfl (Nat.le_of_ble_eq_true rfl) d_X_takeNumber_26) (fun v st t h => h.2) (fun v st t h0 hal hrt => ?_) (fun x st t h0 hal hth hz => xr_leave hh hk hal h0 hth.2 (fun t hT => Or.inr ⟨by unfold sp_takeNumber; rw [if_neg hkk, if_neg h1, hth.1], hT⟩))
      obtain ⟨⟨z, wd, hz, rfl⟩, -⟩ := hrt
      obtain ⟨g1, g2⟩ := xnumAt_w hz
      refine W.eq (g2 := F0 m 29 ls [.long z]) rfl ?_
      exact hjn _ ⟨wd, by unfold sp_takeNumber; rw [if_neg hkk, if_neg h1, hz], by rw [xnw_n h1]; exact g1, g2⟩
    · skip
      refine lv_aload_n E.1 E.2.1 d_X_takeNumber_9 rfl (lv_at hl 0 rfl) ?_
      refine lv_aload_n E.1 E.2.1 d_X_takeNumber_10 rfl (lv_at hl 0 rfl) ?_
      refine gx_place E hK hP d_X_takeNumber_11 ?_
      refine xg_looks (xc_V E xGT (c_smallAt l hL D a w cJ cZ β n q q hn hq) vw_X_smallAt (by decide) (wXt.call hP hK hQ) (PX.recv hP hK) rfl hl.1 rfl (Nat.le_of_ble_eq_true rfl) d_X_takeNumber_14) (fun v st t h => h.2) (fun v st t h0 hal hrt => ?_) (fun x st t h0 hal hth hz => xr_leave hh hk hal h0 hth.2 (fun t hT => Or.inr ⟨by unfold sp_takeNumber; rw [if_neg hkk, if_pos h1, hth.1], hT⟩))
      obtain ⟨⟨z, wd, hz, rfl⟩, -⟩ := hrt
      obtain ⟨g1, g2⟩ := xsmallAt_w hz
      refine W.eq (g2 := F0 m 17 ls [.long z]) rfl ?_
      refine lv_goto (tgt := 29) E.1 E.2.1 d_X_takeNumber_17 (by decide) ?_
      exact hjn _ ⟨wd, by unfold sp_takeNumber; rw [if_neg hkk, if_pos h1, hz], by rw [h1]; exact g1, g2⟩
set_option maxHeartbeats 4000000 in
set_option maxRecDepth 100000 in
theorem c_takeRange (l : Launch) (hL : l.stackTraces = false) (D : va_G) (a w : Nat) (cJ cZ : ClassId) (β : Nat → Bool) (n q : Nat) (hn : n ≤ 65536) (hq : q ≤ n) (hne : a ≠ w) (lo hi : Int64) : xM l y_X_takeRange w_X_takeRange (xrm 6) [.ref a, .long lo, .long hi] (wXt D a w cJ cZ β n q) (xA2 a w) (xRl (sp_takeRange (β, n, q) lo hi) D a w cJ) (xTh (sp_takeRange (β, n, q) lo hi) E_IA E_UO) := by
  refine xM.of (by decide) ?_
  intro p e s m args below meth c hav E hr hk hh hnm hwX
  subst hav
  obtain ⟨⟨hP, hK⟩, hQ⟩ := hwX
  have hS : va_S (xA2 a w) s.heap s.heap [] := va_S.rf
  have hb := nbl_64 (hi - lo)
  refine xl_entry _ (Nat.le_of_ble_eq_true rfl) (fun ls hl => ?_)
  have hl : lv_has ls 8 [(0, .ref a), (1, .long lo), (3, .long hi)] := hl
  refine lv_lload_n E.1 E.2.1 d_X_takeRange_0 rfl (lv_at hl 1 rfl) ?_
  refine lv_lload_n E.1 E.2.1 d_X_takeRange_1 rfl (lv_at hl 2 rfl) ?_
  refine xl_lc_le (tgt := 16) E.1 E.2.1 d_X_takeRange_2 d_X_takeRange_3 (by decide) (fun h1 => ?_) (fun h1 => ?_)
  · skip
    have h2 : ¬ hi < lo := by
      intro z
      rw [Int64.lt_iff_toInt_lt] at z
      rw [Int64.le_iff_toInt_le] at h1
      omega
    generalize hM : uN (hi - lo) = M at hb
    have hsp : sp_takeRange (β, n, q) lo hi = if n < q + nbl M ∨ M < xv β q (nbl M) then (2, 0, (β, n, q)) else (0, lo + lN (xv β q (nbl M)), (β, n, q + nbl M)) := by
      unfold sp_takeRange
      rw [if_neg h2, hM]
    refine lv_lload_n E.1 E.2.1 d_X_takeRange_16 rfl (lv_at hl 2 rfl) ?_
    refine lv_lload_n E.1 E.2.1 d_X_takeRange_17 rfl (lv_at hl 1 rfl) ?_
    refine lv_lsub E.1 E.2.1 d_X_takeRange_18 ?_
    refine xg_looks (xc_S E xGT (c_bitsToHold l (hi - lo)) sw_X_bitsToHold (by decide) xNo rfl hl.1 rfl (Nat.le_of_ble_eq_true rfl) d_X_takeRange_19) (fun v st t h => h.2) (fun v st t h0 hal hrt => ?_) (fun x st t h0 hal hth hz => hth.elim)
    obtain ⟨rfl, -⟩ := hrt
    rw [hM]
    refine W.eq (g2 := F0 m 22 ls [.int (nI (nbl M))]) rfl ?_
    refine lv_istore E.1 E.2.1 d_X_takeRange_22 hl (by decide) rfl (fun ls hl => ?_)
    have hl : lv_has ls 8 [(5, .int (nI (nbl M))), (0, .ref a), (1, .long lo), (3, .long hi)] := hl
    refine lv_aload_n E.1 E.2.1 d_X_takeRange_24 rfl (lv_at hl 1 rfl) ?_
    refine lv_aload_n E.1 E.2.1 d_X_takeRange_25 rfl (lv_at hl 1 rfl) ?_
    refine gx_place E hK hP d_X_takeRange_26 ?_
    refine lv_iload E.1 E.2.1 d_X_takeRange_29 (lv_at hl 0 rfl) ?_
    refine xg_looks (xc_V E xGT (c_bitsAt l hL D a w cJ cZ β n q q (nbl M) hn hq hb) vw_X_bitsAt (by decide) (wXt.call hP hK hQ) (PX.recv hP hK) rfl hl.1 rfl (Nat.le_of_ble_eq_true rfl) d_X_takeRange_31) (fun v st t h => h.2.2) (fun v st t h0 hal hrt => ?_) (fun x st t h0 hal hth hz => xr_leave hh hk hal h0 hth.2 (fun t hT => Or.inr ⟨by rw [hsp, if_pos (Or.inl hth.1)], hT⟩))
    obtain ⟨h3, rfl, -⟩ := hrt
    have hv := xv_lt β q (nbl M)
    have hv64 : xv β q (nbl M) < 2 ^ 64 := Nat.lt_of_lt_of_le hv (Nat.pow_le_pow_right (by decide) hb)
    refine W.eq (g2 := F0 m 34 ls [.long (lN (xv β q (nbl M)))]) rfl ?_
    refine lv_lstore E.1 E.2.1 d_X_takeRange_34 hl (by decide) rfl (fun ls hl => ?_)
    have hl : lv_has ls 8 [(6, .long (lN (xv β q (nbl M)))), (5, .int (nI (nbl M))), (0, .ref a), (1, .long lo), (3, .long hi)] := hl
    refine lv_lload E.1 E.2.1 d_X_takeRange_36 (lv_at hl 0 rfl) ?_
    refine lv_lload_n E.1 E.2.1 d_X_takeRange_38 rfl (lv_at hl 4 rfl) ?_
    refine lv_lload_n E.1 E.2.1 d_X_takeRange_39 rfl (lv_at hl 3 rfl) ?_
    refine lv_lsub E.1 E.2.1 d_X_takeRange_40 ?_
    refine xg_looks (xc_S E xGT (c_compareUnsigned l (lN (xv β q (nbl M))) (hi - lo)) sw_X_J_compareUnsigned (by decide) xNo rfl hl.1 rfl (Nat.le_of_ble_eq_true rfl) d_X_takeRange_41) (fun v st t h => h.2) (fun v st t h0 hal hrt => ?_) (fun x st t h0 hal hth hz => hth.elim)
    obtain ⟨⟨z, rfl, hz⟩, -⟩ := hrt
    rw [hM, uN_lN hv64] at hz
    refine W.eq (g2 := F0 m 44 ls [.int z]) rfl ?_
    refine lv_if_le (tgt := 57) E.1 E.2.1 d_X_takeRange_44 (by decide) (fun h4 => ?_) (fun h4 => ?_)
    · skip
      have h5 : ¬ M < xv β q (nbl M) := fun g => xi_nlt.mpr h4 (hz.mpr g)
      rw [if_neg (by omega)] at hsp
      refine lv_aload_n E.1 E.2.1 d_X_takeRange_57 rfl (lv_at hl 2 rfl) ?_
      refine lv_dup E.1 E.2.1 d_X_takeRange_58 rfl ?_
      refine gx_place E hK hP d_X_takeRange_59 ?_
      refine lv_iload E.1 E.2.1 d_X_takeRange_62 (lv_at hl 1 rfl) ?_
      refine lv_iadd E.1 E.2.1 d_X_takeRange_64 ?_
      refine xl_ti (y := (nI (q + nbl M))) (nI_add _ _) ?_
      refine sx_place E hK hP hne hS d_X_takeRange_65 (fun H1 locs1 hP1 hS1 => ?_)
      refine lv_lload_n E.1 E.2.1 d_X_takeRange_68 rfl (lv_at hl 3 rfl) ?_
      refine lv_lload E.1 E.2.1 d_X_takeRange_69 (lv_at hl 0 rfl) ?_
      refine lv_ladd E.1 E.2.1 d_X_takeRange_71 ?_
      exact xr_lret E hr hk hS1 (fun t ht _ => xRl.mk hsp (by rw [ht]; exact hP1)) d_X_takeRange_72
    · skip
      have h5 : M < xv β q (nbl M) := hz.mp (xi_nle.mp h4)
      exact xr_throw E hL hQ hh hk tw_UO_takeRange hl.1 d_X_takeRange_47 d_X_takeRange_50 d_X_takeRange_51 d_X_takeRange_53 d_X_takeRange_56 (by decide) (fun x t hT => Or.inr ⟨by rw [hsp, if_pos (Or.inr h5)], hT⟩)
  · skip
    have h2 : hi < lo := by
      rw [Int64.lt_iff_toInt_lt]
      rw [Int64.le_iff_toInt_le] at h1
      omega
    exact xr_throw E hL hQ hh hk tw_IA_takeRange hl.1 d_X_takeRange_6 d_X_takeRange_9 d_X_takeRange_10 d_X_takeRange_12 d_X_takeRange_15 (by decide) (fun x t hT => Or.inl ⟨by unfold sp_takeRange; rw [if_pos h2], hT⟩)
set_option maxHeartbeats 4000000 in
set_option maxRecDepth 100000 in
theorem c_go (l : Launch) (hL : l.stackTraces = false) (D : va_G) (a w : Nat) (cJ cZ : ClassId) (β : Nat → Bool) (n q : Nat) (hn : n ≤ 65536) (hq : q ≤ n) (hne : a ≠ w) (k : Int32) : xM l y_X_go w_X_go (xrm 6) [.ref a, .int k] (wXt D a w cJ cZ β n q) (xA2 a w) (xRi (sp_go (β, n, q) k) D a w cJ) (xTh (sp_go (β, n, q) k) E_IA E_IA) := by
  refine xM.of (by decide) ?_
  intro p e s m args below meth c hav E hr hk hh hnm hwX
  subst hav
  obtain ⟨⟨hP, hK⟩, hQ⟩ := hwX
  have hS : va_S (xA2 a w) s.heap s.heap [] := va_S.rf
  refine xl_entry _ (Nat.le_of_ble_eq_true rfl) (fun ls hl => ?_)
  have hl : lv_has ls 3 [(0, .ref a), (1, .int k)] := hl
  refine lv_aload_n E.1 E.2.1 d_X_go_0 rfl (lv_at hl 0 rfl) ?_
  refine lv_iload_n E.1 E.2.1 d_X_go_1 rfl (lv_at hl 1 rfl) ?_
  refine xg_looks (xc_V E xGT (c_requireCut l hL D a w cJ cZ β n q k) vw_X_requireCut (by decide) (wXt.call hP hK hQ) (PX.recv hP hK) rfl hl.1 rfl (Nat.le_of_ble_eq_true rfl) d_X_go_2) (fun v st t h => h.2.2) (fun v st t h0 hal hrt => ?_) (fun x st t h0 hal hth hz => xr_leave hh hk hal h0 hth.2 (fun t hT => Or.inl ⟨by unfold sp_go; rw [if_pos hth.1], hT⟩))
  obtain ⟨hkk, rfl, -⟩ := hrt
  obtain ⟨j, hj, hkj⟩ := nI_of (fun z => hkk (Or.inl z))
  have hcl := xcl64 hkj hj
  have hsp : sp_go (β, n, q) k = (0, lN q, (β, n, j)) := by
    unfold sp_go
    rw [if_neg hkk, hcl]
  refine W.eq (g2 := F0 m 5 ls []) rfl ?_
  refine lv_aload_n E.1 E.2.1 d_X_go_5 rfl (lv_at hl 0 rfl) ?_
  refine gx_place E hK hP d_X_go_6 ?_
  refine lv_istore_n E.1 E.2.1 d_X_go_9 rfl hl (by decide) rfl (fun ls hl => ?_)
  have hl : lv_has ls 3 [(2, .int (nI q)), (0, .ref a), (1, .int k)] := hl
  refine lv_aload_n E.1 E.2.1 d_X_go_10 rfl (lv_at hl 1 rfl) ?_
  refine lv_iload_n E.1 E.2.1 d_X_go_11 rfl (lv_at hl 2 rfl) ?_
  refine xl_ti (y := (nI j)) (hkj) ?_
  refine sx_place E hK hP hne hS d_X_go_12 (fun H1 locs1 hP1 hS1 => ?_)
  refine lv_iload_n E.1 E.2.1 d_X_go_15 rfl (lv_at hl 0 rfl) ?_
  exact xr_iret E hr hk hS1 (fun t ht _ => xRi.mk hsp (nI_l (by omega)) (by rw [ht]; exact hP1)) d_X_go_16
set_option maxHeartbeats 4000000 in
set_option maxRecDepth 100000 in
theorem c_cut (l : Launch) (hL : l.stackTraces = false) (D : va_G) (a w : Nat) (cJ cZ : ClassId) (β : Nat → Bool) (n q : Nat) (hn : n ≤ 65536) (hq : q ≤ n) (hne : a ≠ w) (k : Int32) : xM l y_X_cut w_X_cut (xrm 6) [.ref a, .int k] (wXt D a w cJ cZ β n q) (xA2 a w) (xRi (sp_cut (β, n, q) k) D a w cJ) (xTh (sp_cut (β, n, q) k) E_IA E_IA) := by
  refine xM.of (by decide) ?_
  intro p e s m args below meth c hav E hr hk hh hnm hwX
  subst hav
  obtain ⟨⟨hP, hK⟩, hQ⟩ := hwX
  have hS : va_S (xA2 a w) s.heap s.heap [] := va_S.rf
  refine xl_entry _ (Nat.le_of_ble_eq_true rfl) (fun ls hl => ?_)
  have hl : lv_has ls 3 [(0, .ref a), (1, .int k)] := hl
  refine lv_aload_n E.1 E.2.1 d_X_cut_0 rfl (lv_at hl 0 rfl) ?_
  refine lv_iload_n E.1 E.2.1 d_X_cut_1 rfl (lv_at hl 1 rfl) ?_
  refine xg_looks (xc_V E xGT (c_requireCut l hL D a w cJ cZ β n q k) vw_X_requireCut (by decide) (wXt.call hP hK hQ) (PX.recv hP hK) rfl hl.1 rfl (Nat.le_of_ble_eq_true rfl) d_X_cut_2) (fun v st t h => h.2.2) (fun v st t h0 hal hrt => ?_) (fun x st t h0 hal hth hz => xr_leave hh hk hal h0 hth.2 (fun t hT => Or.inl ⟨by unfold sp_cut; rw [if_pos hth.1], hT⟩))
  obtain ⟨hkk, rfl, -⟩ := hrt
  obtain ⟨j, hj, hkj⟩ := nI_of (fun z => hkk (Or.inl z))
  have hcl := xcl64 hkj hj
  have hsp : sp_cut (β, n, q) k = (0, lN n, (β, j, min q j)) := by
    unfold sp_cut
    rw [if_neg hkk, hcl]
  refine W.eq (g2 := F0 m 5 ls []) rfl ?_
  refine lv_aload_n E.1 E.2.1 d_X_cut_5 rfl (lv_at hl 0 rfl) ?_
  refine gx_size E hK hP d_X_cut_6 ?_
  refine lv_istore_n E.1 E.2.1 d_X_cut_9 rfl hl (by decide) rfl (fun ls hl => ?_)
  have hl : lv_has ls 3 [(2, .int (nI n)), (0, .ref a), (1, .int k)] := hl
  refine lv_aload_n E.1 E.2.1 d_X_cut_10 rfl (lv_at hl 1 rfl) ?_
  refine lv_iload_n E.1 E.2.1 d_X_cut_11 rfl (lv_at hl 2 rfl) ?_
  refine xl_ti (y := (nI j)) (hkj) ?_
  refine sx_size E hK hP hne hS d_X_cut_12 (fun H1 locs1 hP1 hS1 => ?_)
  clear hP
  have hP := hP1
  refine lv_aload_n E.1 E.2.1 d_X_cut_15 rfl (lv_at hl 1 rfl) ?_
  refine lv_aload_n E.1 E.2.1 d_X_cut_16 rfl (lv_at hl 1 rfl) ?_
  refine gx_place E hK hP d_X_cut_17 ?_
  refine lv_iload_n E.1 E.2.1 d_X_cut_20 rfl (lv_at hl 2 rfl) ?_
  refine xl_ti (y := (nI j)) (hkj) ?_
  refine va_mmin E.1 E.2.1 (by rw [E.2.2.1, hl.1]) E.2.2.2.1 (E.2.2.2.2 _ ml_X_min) (E.2.2.2.2 _ ml_min_static) (E.2.2.2.2 _ ml_Math_init) (E.2.2.2.2 _ ml_min_code) (by decide) (Nat.le_of_ble_eq_true rfl) (by decide) (by decide) d_X_cut_21 ?_
  refine xl_ti (y := (nI (min q j))) (xmin (by omega) hj) ?_
  refine sx_place E hK hP hne hS1 d_X_cut_24 (fun H2 locs2 hP2 hS2 => ?_)
  refine lv_iload_n E.1 E.2.1 d_X_cut_27 rfl (lv_at hl 0 rfl) ?_
  exact xr_iret E hr hk hS2 (fun t ht _ => xRi.mk hsp (nI_l (by omega)) (by rw [ht]; exact hP2)) d_X_cut_28
set_option maxHeartbeats 4000000 in
set_option maxRecDepth 100000 in
theorem c_count (l : Launch) (hL : l.stackTraces = false) (D : va_G) (a w : Nat) (cJ cZ : ClassId) (β : Nat → Bool) (n q : Nat) (hn : n ≤ 65536) (hq : q ≤ n) (hne : a ≠ w) (k : Int32) : xM l y_X_count w_X_count (xrm 6) [.ref a, .int k] (wXt D a w cJ cZ β n q) (xA2 a w) (xRi (sp_count (β, n, q) k) D a w cJ) (xTh (sp_count (β, n, q) k) E_IA E_IA) := by
  refine xM.of (by decide) ?_
  intro p e s m args below meth c hav E hr hk hh hnm hwX
  subst hav
  obtain ⟨⟨hP, hK⟩, hQ⟩ := hwX
  have hS : va_S (xA2 a w) s.heap s.heap [] := va_S.rf
  refine xl_entry _ (Nat.le_of_ble_eq_true rfl) (fun ls hl => ?_)
  have hl : lv_has ls 2 [(0, .ref a), (1, .int k)] := hl
  refine xl_join (fun _ : Unit => k = 0 ∨ k = 1) (fun _ => F0 m 19 ls []) (fun _ h01 => ?_) (fun hjn => ?_)
  · skip
    refine lv_iload_n E.1 E.2.1 d_X_count_19 rfl (lv_at hl 1 rfl) ?_
    refine lv_if_ne (tgt := 30) E.1 E.2.1 d_X_count_20 (by decide) (fun h1 => ?_) (fun h1 => ?_)
    · skip
      have h2 : k = 1 := h01.elim (fun z => absurd z h1) id
      have hsp : sp_count (β, n, q) k = (0, lN q, (β, n, q)) := by
        unfold sp_count
        rw [if_neg h1, if_pos h2]
      refine lv_aload_n E.1 E.2.1 d_X_count_30 rfl (lv_at hl 0 rfl) ?_
      refine gx_place E hK hP d_X_count_31 ?_
      exact xr_iret E hr hk hS (fun t ht _ => xRi.mk hsp (nI_l (by omega)) (by rw [ht]; exact hP)) d_X_count_34
    · skip
      have hsp : sp_count (β, n, q) k = (0, lN n, (β, n, q)) := by
        unfold sp_count
        rw [if_pos h1]
      refine lv_aload_n E.1 E.2.1 d_X_count_23 rfl (lv_at hl 0 rfl) ?_
      refine gx_size E hK hP d_X_count_24 ?_
      refine lv_goto (tgt := 34) E.1 E.2.1 d_X_count_27 (by decide) ?_
      exact xr_iret E hr hk hS (fun t ht _ => xRi.mk hsp (nI_l (by omega)) (by rw [ht]; exact hP)) d_X_count_34
  · skip
    refine lv_iload_n E.1 E.2.1 d_X_count_0 rfl (lv_at hl 1 rfl) ?_
    refine lv_if_eq (tgt := 19) E.1 E.2.1 d_X_count_1 (by decide) (fun h1 => ?_) (fun h1 => ?_)
    · skip
      exact hjn () (Or.inl h1)
    · skip
      refine lv_iload_n E.1 E.2.1 d_X_count_4 rfl (lv_at hl 1 rfl) ?_
      refine lv_iconst (v := 1) E.1 E.2.1 d_X_count_5 (by decide) ?_
      refine lv_icmp_eq (tgt := 19) E.1 E.2.1 d_X_count_6 (by decide) (fun h2 => ?_) (fun h2 => ?_)
      · skip
        exact hjn () (Or.inr h2)
      · skip
        exact xr_throw E hL hQ hh hk tw_IA_count hl.1 d_X_count_9 d_X_count_12 d_X_count_13 d_X_count_15 d_X_count_18 (by decide) (fun x t hT => Or.inl ⟨by unfold sp_count; rw [if_neg h1, if_neg h2], hT⟩)
set_option maxHeartbeats 4000000 in
set_option maxRecDepth 100000 in
theorem c_turn (l : Launch) (hL : l.stackTraces = false) (D : va_G) (a w : Nat) (cJ cZ : ClassId) (β : Nat → Bool) (n q : Nat) (hn : n ≤ 65536) (hq : q ≤ n) (hne : a ≠ w) (k : Int32) : xM l y_X_turn w_X_turn (xrm 6) [.ref a, .int k] (wXt D a w cJ cZ β n q) (xA2 a w) (xRi (sp_turn (β, n, q) k) D a w cJ) (xTh (sp_turn (β, n, q) k) E_IA E_IA) := by
  refine xM.of (by decide) ?_
  intro p e s m args below meth c hav E hr hk hh hnm hwX
  subst hav
  obtain ⟨⟨hP, hK⟩, hQ⟩ := hwX
  have hS : va_S (xA2 a w) s.heap s.heap [] := va_S.rf
  refine xl_entry _ (Nat.le_of_ble_eq_true rfl) (fun ls hl => ?_)
  have hl : lv_has ls 4 [(0, .ref a), (1, .int k)] := hl
  refine lv_iload_n E.1 E.2.1 d_X_turn_0 rfl (lv_at hl 1 rfl) ?_
  refine lv_if_lt (tgt := 12) E.1 E.2.1 d_X_turn_1 (by decide) (fun h1 => ?_) (fun h1 => ?_)
  · skip
    exact xr_throw E hL hQ hh hk tw_IA_turn hl.1 d_X_turn_12 d_X_turn_15 d_X_turn_16 d_X_turn_18 d_X_turn_21 (by decide) (fun x t hT => Or.inl ⟨by unfold sp_turn; rw [if_pos (Or.inl h1)], hT⟩)
  · skip
    refine lv_iload_n E.1 E.2.1 d_X_turn_4 rfl (lv_at hl 1 rfl) ?_
    refine lv_aload_n E.1 E.2.1 d_X_turn_5 rfl (lv_at hl 0 rfl) ?_
    refine gx_size E hK hP d_X_turn_6 ?_
    refine lv_icmp_lt (tgt := 22) E.1 E.2.1 d_X_turn_9 (by decide) (fun h2 => ?_) (fun h2 => ?_)
    · skip
      obtain ⟨j, hj, hkj⟩ := nI_of h1
      have hjn : j < n := by
        rw [hkj] at h2
        exact (nI_ltI hj (by omega)).mp h2
      have hcl := xcl64 hkj hj
      have hsp : sp_turn (β, n, q) k = (0, lN (!β j).toNat, (va_up β j (!β j), n, q)) := by
        unfold sp_turn
        rw [if_neg (fun z => z.elim h1 (xi_nle.mpr h2)), hcl]
      refine lv_lconst (v := 1) E.1 E.2.1 d_X_turn_22 (by decide) ?_
      refine lv_aload_n E.1 E.2.1 d_X_turn_23 rfl (lv_at hl 0 rfl) ?_
      refine lv_iload_n E.1 E.2.1 d_X_turn_24 rfl (lv_at hl 1 rfl) ?_
      refine xl_ti (y := (nI j)) (hkj) ?_
      refine xg_looks (xc_V E xGT (c_bit l D a w cJ cZ β n q j (by omega)) vw_X_bit (by decide) (wX.call hP hK) (PX.recv hP hK) rfl hl.1 rfl (Nat.le_of_ble_eq_true rfl) d_X_turn_25) (fun v st t h => h.2) (fun v st t h0 hal hrt => ?_) (fun x st t h0 hal hth hz => hth.elim)
      obtain ⟨rfl, -⟩ := hrt
      refine W.eq (g2 := F0 m 28 ls [.long (lN (β j).toNat), .long 1]) rfl ?_
      refine lv_lsub E.1 E.2.1 d_X_turn_28 ?_
      refine xl_tl (y := (lN (!β j).toNat)) (by cases β j <;> decide) ?_
      refine lv_lstore_n E.1 E.2.1 d_X_turn_29 rfl hl (by decide) rfl (fun ls hl => ?_)
      have hl : lv_has ls 4 [(2, .long (lN (!β j).toNat)), (0, .ref a), (1, .int k)] := hl
      refine lv_aload_n E.1 E.2.1 d_X_turn_30 rfl (lv_at hl 1 rfl) ?_
      refine lv_iload_n E.1 E.2.1 d_X_turn_31 rfl (lv_at hl 2 rfl) ?_
      refine xl_ti (y := (nI j)) (hkj) ?_
      refine lv_lload_n E.1 E.2.1 d_X_turn_32 rfl (lv_at hl 0 rfl) ?_
      refine xg_goes (xc_V E xGT (c_setBit l D a w cJ cZ β n q j (!β j) (by omega) hne) vw_X_setBit (by decide) (wX.call hP hK) (PX.recv hP hK) rfl hl.1 rfl (Nat.le_of_ble_eq_true rfl) d_X_turn_33) hS (fun q _ h => h) (fun q h => h) (fun v st t locs1 h0 hal hrt hS1 hz hkp => ?_) (fun x st t locs1 h0 hal hth => hth.elim)
      obtain ⟨rfl, hP1⟩ := hrt
      refine W.eq (g2 := F0 m 36 ls []) rfl ?_
      generalize t.heap = H1 at hP1 hS1 hz hkp ⊢
      refine lv_lload_n E.1 E.2.1 d_X_turn_36 rfl (lv_at hl 0 rfl) ?_
      refine lv_lconst (v := 1) E.1 E.2.1 d_X_turn_37 (by decide) ?_
      refine xl_lc_ne (tgt := 46) E.1 E.2.1 d_X_turn_38 d_X_turn_39 (by decide) (fun h3 => ?_) (fun h3 => ?_)
      · skip
        have h4 : (!β j) = false := by
          cases hb : (!β j)
          · rfl
          · rw [hb] at h3
            exact absurd rfl h3
        refine lv_iconst (v := 0) E.1 E.2.1 d_X_turn_46 (by decide) ?_
        exact xr_zret E hr hk (by decide) hS1 (fun t ht _ => xRi.mk hsp (by rw [h4]; rfl) (by rw [ht]; exact hP1)) d_X_turn_47
      · skip
        have h4 : (!β j) = true := by
          cases hb : (!β j)
          · rw [hb] at h3
            exact absurd h3 (by decide)
          · rfl
        refine lv_iconst (v := 1) E.1 E.2.1 d_X_turn_42 (by decide) ?_
        refine lv_goto (tgt := 47) E.1 E.2.1 d_X_turn_43 (by decide) ?_
        exact xr_zret E hr hk (by decide) hS1 (fun t ht _ => xRi.mk hsp (by rw [h4]; rfl) (by rw [ht]; exact hP1)) d_X_turn_47
    · skip
      exact xr_throw E hL hQ hh hk tw_IA_turn hl.1 d_X_turn_12 d_X_turn_15 d_X_turn_16 d_X_turn_18 d_X_turn_21 (by decide) (fun x t hT => Or.inl ⟨by unfold sp_turn; rw [if_pos (Or.inr (xi_nlt.mp h2))], hT⟩)
end XL17

