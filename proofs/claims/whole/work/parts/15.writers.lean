/-! The class: the calls that write. -/
section XL15
/-- a call of the class has answered an int as it should; .. a long; it has thrown as it should -/
def xRi (r : Nat × Int64 × xS) (D : va_G) (a w : Nat) (cJ : ClassId) : Option Value → State → State → Prop := fun v _ t => r.1 = 0 ∧ (∃ z : Int32, v = some (.int z) ∧ z.toInt64 = r.2.1) ∧ PX D a w cJ r.2.2.1 r.2.2.2.1 r.2.2.2.2 t.heap
def xRl (r : Nat × Int64 × xS) (D : va_G) (a w : Nat) (cJ : ClassId) : Option Value → State → State → Prop := fun v _ t => r.1 = 0 ∧ v = some (.long r.2.1) ∧ PX D a w cJ r.2.2.1 r.2.2.2.1 r.2.2.2.2 t.heap
def xTh (r : Nat × Int64 × xS) (E1 E2 : String) : Addr → State → State → Prop := fun x st t => (r.1 = 1 ∧ xl_T E1 x st.heap t.heap t.vm) ∨ (r.1 = 2 ∧ xl_T E2 x st.heap t.heap t.vm)
theorem xRi.mk {r : Nat × Int64 × xS} {D : va_G} {a w : Nat} {cJ : ClassId} {s t : State} {z : Int32} {v : Int64} {β : Nat → Bool} {n q : Nat} (h : r = (0, v, (β, n, q))) (hz : z.toInt64 = v) (hP : PX D a w cJ β n q t.heap) : xRi r D a w cJ (some (.int z)) s t := by
  subst h
  exact ⟨rfl, ⟨z, rfl, hz⟩, hP⟩
theorem xRl.mk {r : Nat × Int64 × xS} {D : va_G} {a w : Nat} {cJ : ClassId} {s t : State} {v : Int64} {β : Nat → Bool} {n q : Nat} (h : r = (0, v, (β, n, q))) (hP : PX D a w cJ β n q t.heap) : xRl r D a w cJ (some (.long v)) s t := by
  subst h
  exact ⟨rfl, rfl, hP⟩
theorem xcl64 {k : Int32} {j : Nat} (h : k = nI j) (hj : j < 2 ^ 31) : k.toNatClampNeg = j := by
  rw [h]
  exact nI_clamp hj
set_option maxHeartbeats 4000000 in
set_option maxRecDepth 100000 in
theorem c_put (l : Launch) (hL : l.stackTraces = false) (D : va_G) (a w : Nat) (cJ cZ : ClassId) (β : Nat → Bool) (n q : Nat) (hn : n ≤ 65536) (hne : a ≠ w) (x : Int64) (k : Int32) : xM l y_X_put w_X_put (xrm 6) [.ref a, .long x, .int k] (wXt D a w cJ cZ β n q) (xA2 a w) (xRi (sp_put (β, n, q) x k) D a w cJ) (xTh (sp_put (β, n, q) x k) E_IA E_IO) := by
  refine xM.of (by decide) ?_
  intro p e s m args below meth c hav E hr hk hh hnm hwX
  subst hav
  obtain ⟨⟨hP, hK⟩, hQ⟩ := hwX
  have hS : va_S (xA2 a w) s.heap s.heap [] := va_S.rf
  refine xl_entry _ (Nat.le_of_ble_eq_true rfl) (fun ls hl => ?_)
  have hl : lv_has ls 4 [(0, .ref a), (1, .long x), (3, .int k)] := hl
  refine lv_iload_n E.1 E.2.1 d_X_put_0 rfl (lv_at hl 2 rfl) ?_
  refine xg_looks (xc_S E xGT (c_requireWidth l hL k) sw_X_requireWidth (by decide) (xQc hQ) rfl hl.1 rfl (Nat.le_of_ble_eq_true rfl) d_X_put_1) (fun v st t h => h.2.2) (fun v st t h0 hal hrt => ?_) (fun x st t h0 hal hth hz => xr_leave hh hk hal h0 hth.2 (fun t hT => Or.inl ⟨by unfold sp_put; rw [if_pos hth.1], hT⟩))
  obtain ⟨hkk, rfl, -⟩ := hrt
  obtain ⟨j, hj, hkj⟩ := nI_of (fun z => hkk (Or.inl z))
  have hj64 : j ≤ 64 := by
    refine Nat.not_lt.mp (fun z => hkk (Or.inr ?_))
    rw [hkj]
    exact (nI_ltI (a := 64) (by decide) hj).mpr z
  have hcl := xcl64 hkj hj
  have hsp : sp_put (β, n, q) x k = sp_write (β, n, q) x j 2 := by
    unfold sp_put
    rw [if_neg hkk, hcl]
  refine W.eq (g2 := F0 m 4 ls []) rfl ?_
  refine lv_aload_n E.1 E.2.1 d_X_put_4 rfl (lv_at hl 0 rfl) ?_
  refine lv_iload_n E.1 E.2.1 d_X_put_5 rfl (lv_at hl 2 rfl) ?_
  refine xl_ti (y := (nI j)) (hkj) ?_
  refine xg_looks (xc_V E xGT (c_requireRoom l hL D a w cJ cZ β n q j hn hj) vw_X_requireRoom (by decide) (wXt.call hP hK hQ) (PX.recv hP hK) rfl hl.1 rfl (Nat.le_of_ble_eq_true rfl) d_X_put_6) (fun v st t h => h.2.2) (fun v st t h0 hal hrt => ?_) (fun x st t h0 hal hth hz => xr_leave hh hk hal h0 hth.2 (fun t hT => Or.inr ⟨by rw [hsp]; unfold sp_write; rw [if_pos hth.1], hT⟩))
  obtain ⟨hrm, rfl, -⟩ := hrt
  have hsp : sp_put (β, n, q) x k = (0, lN (n + j), (xa β n x j, n + j, q)) := by
    rw [hsp]
    unfold sp_write
    rw [if_neg (Nat.not_lt.mpr hrm)]
  refine W.eq (g2 := F0 m 9 ls []) rfl ?_
  refine lv_aload_n E.1 E.2.1 d_X_put_9 rfl (lv_at hl 0 rfl) ?_
  refine lv_lload_n E.1 E.2.1 d_X_put_10 rfl (lv_at hl 1 rfl) ?_
  refine lv_iload_n E.1 E.2.1 d_X_put_11 rfl (lv_at hl 2 rfl) ?_
  refine xl_ti (y := (nI j)) (hkj) ?_
  refine xg_goes (xc_V E xGT (c_append l D a w cJ cZ β n q j x hrm hj64 hne) vw_X_append (by decide) (wX.call hP hK) (PX.recv hP hK) rfl hl.1 rfl (Nat.le_of_ble_eq_true rfl) d_X_put_12) hS (fun q _ h => h) (fun q h => h) (fun v st t locs1 h0 hal hrt hS1 hz hkp => ?_) (fun x st t locs1 h0 hal hth => hth.elim)
  obtain ⟨rfl, hP1⟩ := hrt
  refine W.eq (g2 := F0 m 15 ls []) rfl ?_
  generalize t.heap = H1 at hP1 hS1 hz hkp ⊢
  clear hP
  have hP := hP1
  refine lv_aload_n E.1 E.2.1 d_X_put_15 rfl (lv_at hl 0 rfl) ?_
  refine gx_size E hK hP d_X_put_16 ?_
  exact xr_iret E hr hk hS1 (fun t ht _ => xRi.mk hsp (nI_l (by omega)) (by rw [ht]; exact hP)) d_X_put_19
set_option maxHeartbeats 4000000 in
set_option maxRecDepth 100000 in
theorem c_putRange (l : Launch) (hL : l.stackTraces = false) (D : va_G) (a w : Nat) (cJ cZ : ClassId) (β : Nat → Bool) (n q : Nat) (hn : n ≤ 65536) (hne : a ≠ w) (lo hi x : Int64) : xM l y_X_putRange w_X_putRange (xrm 6) [.ref a, .long lo, .long hi, .long x] (wXt D a w cJ cZ β n q) (xA2 a w) (xRi (sp_putRange (β, n, q) lo hi x) D a w cJ) (xTh (sp_putRange (β, n, q) lo hi x) E_IA E_IO) := by
  refine xM.of (by decide) ?_
  intro p e s m args below meth c hav E hr hk hh hnm hwX
  subst hav
  obtain ⟨⟨hP, hK⟩, hQ⟩ := hwX
  have hS : va_S (xA2 a w) s.heap s.heap [] := va_S.rf
  have hb := nbl_64 (hi - lo)
  refine xl_entry _ (Nat.le_of_ble_eq_true rfl) (fun ls hl => ?_)
  have hl : lv_has ls 8 [(0, .ref a), (1, .long lo), (3, .long hi), (5, .long x)] := hl
  refine lv_lload E.1 E.2.1 d_X_putRange_0 (lv_at hl 3 rfl) ?_
  refine lv_lload_n E.1 E.2.1 d_X_putRange_2 rfl (lv_at hl 1 rfl) ?_
  refine xl_lc_lt (tgt := 14) E.1 E.2.1 d_X_putRange_3 d_X_putRange_4 (by decide) (fun h1 => ?_) (fun h1 => ?_)
  · skip
    exact xr_throw E hL hQ hh hk tw_IA_putRange hl.1 d_X_putRange_14 d_X_putRange_17 d_X_putRange_18 d_X_putRange_20 d_X_putRange_23 (by decide) (fun x t hT => Or.inl ⟨by unfold sp_putRange; rw [if_pos (Or.inl h1)], hT⟩)
  · skip
    refine lv_lload E.1 E.2.1 d_X_putRange_7 (lv_at hl 3 rfl) ?_
    refine lv_lload_n E.1 E.2.1 d_X_putRange_9 rfl (lv_at hl 2 rfl) ?_
    refine xl_lc_le (tgt := 24) E.1 E.2.1 d_X_putRange_10 d_X_putRange_11 (by decide) (fun h2 => ?_) (fun h2 => ?_)
    · skip
      have h3 : ¬ (x < lo ∨ hi < x) := by
        rintro (z | z)
        · exact h1 z
        · rw [Int64.lt_iff_toInt_lt] at z
          rw [Int64.le_iff_toInt_le] at h2
          omega
      have hsp : sp_putRange (β, n, q) lo hi x = sp_write (β, n, q) (x - lo) (nbl (uN (hi - lo))) 2 := by
        unfold sp_putRange
        rw [if_neg h3]
      refine lv_lload_n E.1 E.2.1 d_X_putRange_24 rfl (lv_at hl 2 rfl) ?_
      refine lv_lload_n E.1 E.2.1 d_X_putRange_25 rfl (lv_at hl 1 rfl) ?_
      refine lv_lsub E.1 E.2.1 d_X_putRange_26 ?_
      refine xg_looks (xc_S E xGT (c_bitsToHold l (hi - lo)) sw_X_bitsToHold (by decide) xNo rfl hl.1 rfl (Nat.le_of_ble_eq_true rfl) d_X_putRange_27) (fun v st t h => h.2) (fun v st t h0 hal hrt => ?_) (fun x st t h0 hal hth hz => hth.elim)
      obtain ⟨rfl, -⟩ := hrt
      refine W.eq (g2 := F0 m 30 ls [.int (nI (nbl (uN (hi - lo))))]) rfl ?_
      refine lv_istore E.1 E.2.1 d_X_putRange_30 hl (by decide) rfl (fun ls hl => ?_)
      have hl : lv_has ls 8 [(7, .int (nI (nbl (uN (hi - lo))))), (0, .ref a), (1, .long lo), (3, .long hi), (5, .long x)] := hl
      refine lv_aload_n E.1 E.2.1 d_X_putRange_32 rfl (lv_at hl 1 rfl) ?_
      refine lv_iload E.1 E.2.1 d_X_putRange_33 (lv_at hl 0 rfl) ?_
      refine xg_looks (xc_V E xGT (c_requireRoom l hL D a w cJ cZ β n q (nbl (uN (hi - lo))) hn (by omega)) vw_X_requireRoom (by decide) (wXt.call hP hK hQ) (PX.recv hP hK) rfl hl.1 rfl (Nat.le_of_ble_eq_true rfl) d_X_putRange_35) (fun v st t h => h.2.2) (fun v st t h0 hal hrt => ?_) (fun x st t h0 hal hth hz => xr_leave hh hk hal h0 hth.2 (fun t hT => Or.inr ⟨by rw [hsp]; unfold sp_write; rw [if_pos hth.1], hT⟩))
      obtain ⟨hrm, rfl, -⟩ := hrt
      have hsp : sp_putRange (β, n, q) lo hi x = (0, lN (n + nbl (uN (hi - lo))), (xa β n (x - lo) (nbl (uN (hi - lo))), n + nbl (uN (hi - lo)), q)) := by
        rw [hsp]
        unfold sp_write
        rw [if_neg (Nat.not_lt.mpr hrm)]
      refine W.eq (g2 := F0 m 38 ls []) rfl ?_
      refine lv_aload_n E.1 E.2.1 d_X_putRange_38 rfl (lv_at hl 1 rfl) ?_
      refine lv_lload E.1 E.2.1 d_X_putRange_39 (lv_at hl 4 rfl) ?_
      refine lv_lload_n E.1 E.2.1 d_X_putRange_41 rfl (lv_at hl 2 rfl) ?_
      refine lv_lsub E.1 E.2.1 d_X_putRange_42 ?_
      refine lv_iload E.1 E.2.1 d_X_putRange_43 (lv_at hl 0 rfl) ?_
      refine xg_goes (xc_V E xGT (c_append l D a w cJ cZ β n q (nbl (uN (hi - lo))) (x - lo) hrm hb hne) vw_X_append (by decide) (wX.call hP hK) (PX.recv hP hK) rfl hl.1 rfl (Nat.le_of_ble_eq_true rfl) d_X_putRange_45) hS (fun q _ h => h) (fun q h => h) (fun v st t locs1 h0 hal hrt hS1 hz hkp => ?_) (fun x st t locs1 h0 hal hth => hth.elim)
      obtain ⟨rfl, hP1⟩ := hrt
      refine W.eq (g2 := F0 m 48 ls []) rfl ?_
      generalize t.heap = H1 at hP1 hS1 hz hkp ⊢
      clear hP
      have hP := hP1
      refine lv_aload_n E.1 E.2.1 d_X_putRange_48 rfl (lv_at hl 1 rfl) ?_
      refine gx_size E hK hP d_X_putRange_49 ?_
      exact xr_iret E hr hk hS1 (fun t ht _ => xRi.mk hsp (nI_l (by omega)) (by rw [ht]; exact hP)) d_X_putRange_52
    · skip
      have h3 : hi < x := by
        rw [Int64.lt_iff_toInt_lt]
        rw [Int64.le_iff_toInt_le] at h2
        omega
      exact xr_throw E hL hQ hh hk tw_IA_putRange hl.1 d_X_putRange_14 d_X_putRange_17 d_X_putRange_18 d_X_putRange_20 d_X_putRange_23 (by decide) (fun x t hT => Or.inl ⟨by unfold sp_putRange; rw [if_pos (Or.inr h3)], hT⟩)
set_option maxHeartbeats 4000000 in
set_option maxRecDepth 100000 in
theorem c_putLength (l : Launch) (hL : l.stackTraces = false) (D : va_G) (a w : Nat) (cJ cZ : ClassId) (β : Nat → Bool) (n q : Nat) (hn : n ≤ 65536) (hne : a ≠ w) (x : Int32) : xM l y_X_putLength w_X_putLength (xrm 6) [.ref a, .int x] (wXt D a w cJ cZ β n q) (xA2 a w) (xRi (sp_putLength (β, n, q) x) D a w cJ) (xTh (sp_putLength (β, n, q) x) E_IA E_IO) := by
  refine xM.of (by decide) ?_
  intro p e s m args below meth c hav E hr hk hh hnm hwX
  subst hav
  obtain ⟨⟨hP, hK⟩, hQ⟩ := hwX
  have hS : va_S (xA2 a w) s.heap s.heap [] := va_S.rf
  refine xl_entry _ (Nat.le_of_ble_eq_true rfl) (fun ls hl => ?_)
  have hl : lv_has ls 3 [(0, .ref a), (1, .int x)] := hl
  refine lv_iload_n E.1 E.2.1 d_X_putLength_0 rfl (lv_at hl 1 rfl) ?_
  refine lv_if_ge (tgt := 14) E.1 E.2.1 d_X_putLength_1 (by decide) (fun h1 => ?_) (fun h1 => ?_)
  · skip
    have h1' : ¬ x < 0 := xi_nlt.mpr h1
    obtain ⟨j, hj, hxj⟩ := nI_of h1'
    have hcl := xcl64 hxj hj
    have ht0 : xtold j ≤ 65536 := by
      unfold xtold
      split <;> omega
    generalize hT : xtold j = T at ht0
    have hlw : xlw T ≤ 16 := by
      unfold xlw
      split <;> omega
    have hlc : xlc T < 2 ^ 31 := by
      unfold xlc
      split
      · omega
      · split <;> omega
    have hsp : sp_putLength (β, n, q) x = if 65536 < n + xlw T then (2, 0, (β, n, q)) else (0, lN T, (xa β n (lN (xlc T)) (xlw T), n + xlw T, q)) := by
      unfold sp_putLength
      rw [if_neg h1', hcl, ← hT]
    refine xl_join (fun z : Int32 => z = nI T) (fun z => F0 m 38 ls [.int z]) (fun z hz => ?_) (fun hjn => ?_)
    · subst hz
      refine lv_istore_n E.1 E.2.1 d_X_putLength_38 rfl hl (by decide) rfl (fun ls hl => ?_)
      have hl : lv_has ls 3 [(2, .int (nI T)), (0, .ref a), (1, .int x)] := hl
      refine lv_aload_n E.1 E.2.1 d_X_putLength_39 rfl (lv_at hl 1 rfl) ?_
      refine lv_iload_n E.1 E.2.1 d_X_putLength_40 rfl (lv_at hl 0 rfl) ?_
      refine xg_looks (xc_S E xGT (c_lengthWidth l T (by omega)) sw_X_lengthWidth (by decide) xNo rfl hl.1 rfl (Nat.le_of_ble_eq_true rfl) d_X_putLength_41) (fun v st t h => h.2) (fun v st t h0 hal hrt => ?_) (fun x st t h0 hal hth hz => hth.elim)
      obtain ⟨rfl, -⟩ := hrt
      refine W.eq (g2 := F0 m 44 ls [.int (nI (xlw T)), .ref a]) rfl ?_
      refine xg_looks (xc_V E xGT (c_requireRoom l hL D a w cJ cZ β n q (xlw T) hn (by omega)) vw_X_requireRoom (by decide) (wXt.call hP hK hQ) (PX.recv hP hK) rfl hl.1 rfl (Nat.le_of_ble_eq_true rfl) d_X_putLength_44) (fun v st t h => h.2.2) (fun v st t h0 hal hrt => ?_) (fun x st t h0 hal hth hz => xr_leave hh hk hal h0 hth.2 (fun t hT => Or.inr ⟨by rw [hsp, if_pos hth.1], hT⟩))
      obtain ⟨hrm, rfl, -⟩ := hrt
      rw [if_neg (Nat.not_lt.mpr hrm)] at hsp
      refine W.eq (g2 := F0 m 47 ls []) rfl ?_
      refine lv_aload_n E.1 E.2.1 d_X_putLength_47 rfl (lv_at hl 1 rfl) ?_
      refine lv_iload_n E.1 E.2.1 d_X_putLength_48 rfl (lv_at hl 0 rfl) ?_
      refine xg_looks (xc_S E xGT (c_lengthCode l T ht0) sw_X_lengthCode (by decide) xNo rfl hl.1 rfl (Nat.le_of_ble_eq_true rfl) d_X_putLength_49) (fun v st t h => h.2) (fun v st t h0 hal hrt => ?_) (fun x st t h0 hal hth hz => hth.elim)
      obtain ⟨rfl, -⟩ := hrt
      refine W.eq (g2 := F0 m 52 ls [.int (nI (xlc T)), .ref a]) rfl ?_
      refine lv_i2l (v := (nI (xlc T)).toInt64) E.1 E.2.1 d_X_putLength_52 rfl ?_
      refine xl_tl (y := (lN (xlc T))) (nI_l hlc) ?_
      refine lv_iload_n E.1 E.2.1 d_X_putLength_53 rfl (lv_at hl 0 rfl) ?_
      refine xg_looks (xc_S E xGT (c_lengthWidth l T (by omega)) sw_X_lengthWidth (by decide) xNo rfl hl.1 rfl (Nat.le_of_ble_eq_true rfl) d_X_putLength_54) (fun v st t h => h.2) (fun v st t h0 hal hrt => ?_) (fun x st t h0 hal hth hz => hth.elim)
      obtain ⟨rfl, -⟩ := hrt
      refine W.eq (g2 := F0 m 57 ls [.int (nI (xlw T)), .long (lN (xlc T)), .ref a]) rfl ?_
      refine xg_goes (xc_V E xGT (c_append l D a w cJ cZ β n q (xlw T) (lN (xlc T)) hrm (by omega) hne) vw_X_append (by decide) (wX.call hP hK) (PX.recv hP hK) rfl hl.1 rfl (Nat.le_of_ble_eq_true rfl) d_X_putLength_57) hS (fun q _ h => h) (fun q h => h) (fun v st t locs1 h0 hal hrt hS1 hz hkp => ?_) (fun x st t locs1 h0 hal hth => hth.elim)
      obtain ⟨rfl, hP1⟩ := hrt
      refine W.eq (g2 := F0 m 60 ls []) rfl ?_
      generalize t.heap = H1 at hP1 hS1 hz hkp ⊢
      refine lv_iload_n E.1 E.2.1 d_X_putLength_60 rfl (lv_at hl 0 rfl) ?_
      exact xr_iret E hr hk hS1 (fun t ht _ => xRi.mk hsp (nI_l (by omega)) (by rw [ht]; exact hP1)) d_X_putLength_61
    · skip
      refine lv_iload_n E.1 E.2.1 d_X_putLength_14 rfl (lv_at hl 1 rfl) ?_
      refine xl_ti (y := (nI j)) (hxj) ?_
      refine lv_sipush (v := 16384) E.1 E.2.1 d_X_putLength_15 (by decide) ?_
      refine lv_icmp_ge (tgt := 25) E.1 E.2.1 d_X_putLength_18 (by decide) (fun h2 => ?_) (fun h2 => ?_)
      · skip
        have h2 : 16384 ≤ j := (nI_leI (by decide) hj).mp h2
        refine lv_iload_n E.1 E.2.1 d_X_putLength_25 rfl (lv_at hl 1 rfl) ?_
        refine xl_ti (y := (nI j)) (hxj) ?_
        refine lv_sipush (v := 16384) E.1 E.2.1 d_X_putLength_26 (by decide) ?_
        refine lv_idiv E.1 E.2.1 d_X_putLength_29 (by decide) ?_
        refine xl_ti (y := (nI (j / 16384))) (pk_div hj (by decide) (by decide)) ?_
        refine lv_iconst (v := 4) E.1 E.2.1 d_X_putLength_30 (by decide) ?_
        refine va_mmin E.1 E.2.1 (by rw [E.2.2.1, hl.1]) E.2.2.2.1 (E.2.2.2.2 _ ml_X_min) (E.2.2.2.2 _ ml_min_static) (E.2.2.2.2 _ ml_Math_init) (E.2.2.2.2 _ ml_min_code) (by decide) (Nat.le_of_ble_eq_true rfl) (by decide) (by decide) d_X_putLength_31 ?_
        refine xl_ti (y := (nI (min 4 (j / 16384)))) (xmin4 (Nat.lt_of_le_of_lt (Nat.div_le_self _ _) hj)) ?_
        refine lv_sipush (v := 16384) E.1 E.2.1 d_X_putLength_34 (by decide) ?_
        refine lv_imul E.1 E.2.1 d_X_putLength_37 ?_
        refine hjn _ ?_
        rw [← hT]
        unfold xtold
        rw [if_neg (by omega), Nat.mul_comm]
        exact pk_mul _ 16384
      · skip
        have h2 : ¬ 16384 ≤ j := fun z => h2 ((nI_leI (by decide) hj).mpr z)
        refine lv_iload_n E.1 E.2.1 d_X_putLength_21 rfl (lv_at hl 1 rfl) ?_
        refine xl_ti (y := (nI j)) (hxj) ?_
        refine lv_goto (tgt := 38) E.1 E.2.1 d_X_putLength_22 (by decide) ?_
        refine hjn _ ?_
        rw [← hT]
        unfold xtold
        rw [if_pos (by omega)]
  · skip
    have h2 : x < 0 := xi_nle.mp h1
    exact xr_throw E hL hQ hh hk tw_IA_putLength hl.1 d_X_putLength_4 d_X_putLength_7 d_X_putLength_8 d_X_putLength_10 d_X_putLength_13 (by decide) (fun x t hT => Or.inl ⟨by unfold sp_putLength; rw [if_pos h2], hT⟩)
set_option maxHeartbeats 4000000 in
set_option maxRecDepth 100000 in
theorem c_fill (l : Launch) (hL : l.stackTraces = false) (D : va_G) (a w : Nat) (cJ cZ : ClassId) (β : Nat → Bool) (n q : Nat) (hn : n ≤ 65536) (hne : a ≠ w) : xM l y_X_fill w_X_fill (xrm 6) [.ref a] (wXt D a w cJ cZ β n q) (xA2 a w) (xRi (sp_fill (β, n, q)) D a w cJ) (xTh (sp_fill (β, n, q)) E_IO E_IO) := by
  refine xM.of (by decide) ?_
  intro p e s m args below meth c hav E hr hk hh hnm hwX
  subst hav
  obtain ⟨⟨hP, hK⟩, hQ⟩ := hwX
  have hS : va_S (xA2 a w) s.heap s.heap [] := va_S.rf
  have hf8 : xfill n ≤ 8 := by
    unfold xfill
    split <;> omega
  have hsp : sp_fill (β, n, q) = if 65536 < n + xfill n then (1, 0, (β, n, q)) else (0, lN (n + xfill n), (xa β n 0 (xfill n), n + xfill n, q)) := rfl
  refine xl_entry _ (Nat.le_of_ble_eq_true rfl) (fun ls hl => ?_)
  have hl : lv_has ls 2 [(0, .ref a)] := hl
  refine xl_join (fun z : Int32 => z = nI (xfill n)) (fun z => F0 m 25 ls [.int z]) (fun z hz => ?_) (fun hjn => ?_)
  · subst hz
    refine lv_istore_n E.1 E.2.1 d_X_fill_25 rfl hl (by decide) rfl (fun ls hl => ?_)
    have hl : lv_has ls 2 [(1, .int (nI (xfill n))), (0, .ref a)] := hl
    refine lv_aload_n E.1 E.2.1 d_X_fill_26 rfl (lv_at hl 1 rfl) ?_
    refine lv_iload_n E.1 E.2.1 d_X_fill_27 rfl (lv_at hl 0 rfl) ?_
    refine xg_looks (xc_V E xGT (c_requireRoom l hL D a w cJ cZ β n q (xfill n) hn (by omega)) vw_X_requireRoom (by decide) (wXt.call hP hK hQ) (PX.recv hP hK) rfl hl.1 rfl (Nat.le_of_ble_eq_true rfl) d_X_fill_28) (fun v st t h => h.2.2) (fun v st t h0 hal hrt => ?_) (fun x st t h0 hal hth hz => xr_leave hh hk hal h0 hth.2 (fun t hT => Or.inl ⟨by rw [hsp, if_pos hth.1], hT⟩))
    obtain ⟨hrm, rfl, -⟩ := hrt
    rw [if_neg (Nat.not_lt.mpr hrm)] at hsp
    refine W.eq (g2 := F0 m 31 ls []) rfl ?_
    refine lv_aload_n E.1 E.2.1 d_X_fill_31 rfl (lv_at hl 1 rfl) ?_
    refine lv_lconst (v := 0) E.1 E.2.1 d_X_fill_32 (by decide) ?_
    refine lv_iload_n E.1 E.2.1 d_X_fill_33 rfl (lv_at hl 0 rfl) ?_
    refine xg_goes (xc_V E xGT (c_append l D a w cJ cZ β n q (xfill n) 0 hrm (by omega) hne) vw_X_append (by decide) (wX.call hP hK) (PX.recv hP hK) rfl hl.1 rfl (Nat.le_of_ble_eq_true rfl) d_X_fill_34) hS (fun q _ h => h) (fun q h => h) (fun v st t locs1 h0 hal hrt hS1 hz hkp => ?_) (fun x st t locs1 h0 hal hth => hth.elim)
    obtain ⟨rfl, hP1⟩ := hrt
    refine W.eq (g2 := F0 m 37 ls []) rfl ?_
    generalize t.heap = H1 at hP1 hS1 hz hkp ⊢
    clear hP
    have hP := hP1
    refine lv_aload_n E.1 E.2.1 d_X_fill_37 rfl (lv_at hl 1 rfl) ?_
    refine gx_size E hK hP d_X_fill_38 ?_
    exact xr_iret E hr hk hS1 (fun t ht _ => xRi.mk hsp (nI_l (by omega)) (by rw [ht]; exact hP)) d_X_fill_41
  · skip
    refine lv_aload_n E.1 E.2.1 d_X_fill_0 rfl (lv_at hl 0 rfl) ?_
    refine gx_size E hK hP d_X_fill_1 ?_
    refine lv_if_ne (tgt := 12) E.1 E.2.1 d_X_fill_4 (by decide) (fun h1 => ?_) (fun h1 => ?_)
    · skip
      have h1 : ¬ n = 0 := fun z => h1 (by rw [z]; rfl)
      refine lv_bipush (v := 8) E.1 E.2.1 d_X_fill_12 (by decide) ?_
      refine lv_aload_n E.1 E.2.1 d_X_fill_14 rfl (lv_at hl 0 rfl) ?_
      refine gx_size E hK hP d_X_fill_15 ?_
      refine lv_bipush (v := 8) E.1 E.2.1 d_X_fill_18 (by decide) ?_
      refine lv_irem E.1 E.2.1 d_X_fill_20 (by decide) ?_
      refine xl_ti (y := (nI (n % 8))) (pk_rem (by omega) (by decide) (by decide)) ?_
      refine lv_isub E.1 E.2.1 d_X_fill_21 ?_
      refine xl_ti (y := (nI (8 - n % 8))) (pk_sub (a := 8) (b := n % 8) (by omega)) ?_
      refine lv_bipush (v := 8) E.1 E.2.1 d_X_fill_22 (by decide) ?_
      refine lv_irem E.1 E.2.1 d_X_fill_24 (by decide) ?_
      refine hjn _ ?_
      unfold xfill
      rw [if_neg h1]
      exact pk_rem (by omega) (by decide) (by decide)
    · skip
      have h1 : n = 0 := (nI_eq (b := 0) (by omega) (by decide)).mp h1
      refine lv_bipush (v := 8) E.1 E.2.1 d_X_fill_7 (by decide) ?_
      refine lv_goto (tgt := 25) E.1 E.2.1 d_X_fill_9 (by decide) ?_
      refine hjn _ ?_
      unfold xfill
      rw [if_pos h1]
      rfl
end XL15

