/-! The reference: the calls that write. -/
section XL22
/-- the reference has answered an int (a long) as it should, and noted the code -/
def xMi (z : Nat × Int64 × xS) (D : va_G) (b r : Nat) (cZ : ClassId) : Option Value → State → State → Prop := fun v _ t => ∃ (i : Int32) (rd : Nat) (gd : Bool), v = some (.int i) ∧ (z.1 = 0 → i.toInt64 = z.2.1) ∧ PM D b r cZ z.2.2.1 z.2.2.2.1 z.2.2.2.2 (nI z.1) rd gd t.heap
def xMl (z : Nat × Int64 × xS) (D : va_G) (b r : Nat) (cZ : ClassId) : Option Value → State → State → Prop := fun v _ t => ∃ (i : Int64) (rd : Nat) (gd : Bool), v = some (.long i) ∧ (z.1 = 0 → i = z.2.1) ∧ PM D b r cZ z.2.2.1 z.2.2.2.1 z.2.2.2.2 (nI z.1) rd gd t.heap
theorem xMi.mk {z : Nat × Int64 × xS} {D : va_G} {b r : Nat} {cZ : ClassId} {s t : State} {i : Int32} {v : Int64} {β : Nat → Bool} {n q cd : Nat} {rd : Nat} {gd : Bool} (h : z = (cd, v, (β, n, q))) (hz : cd = 0 → i.toInt64 = v) (hP : PM D b r cZ β n q (nI cd) rd gd t.heap) : xMi z D b r cZ (some (.int i)) s t := by
  subst h
  exact ⟨i, rd, gd, rfl, hz, hP⟩
theorem xMl.mk {z : Nat × Int64 × xS} {D : va_G} {b r : Nat} {cZ : ClassId} {s t : State} {i : Int64} {v : Int64} {β : Nat → Bool} {n q cd : Nat} {rd : Nat} {gd : Bool} (h : z = (cd, v, (β, n, q))) (hz : cd = 0 → i = v) (hP : PM D b r cZ β n q (nI cd) rd gd t.heap) : xMl z D b r cZ (some (.long i)) s t := by
  subst h
  exact ⟨i, rd, gd, rfl, hz, hP⟩
set_option maxHeartbeats 4000000 in
set_option maxRecDepth 100000 in
theorem m_write (l : Launch) (D : va_G) (b r : Nat) (cJ cZ : ClassId) (β : Nat → Bool) (n q : Nat) (rd : Nat) (gd : Bool) (k cd : Nat) (x : Int64) (hn : n ≤ 65536) (hk64 : k ≤ 64) (hne : b ≠ r) (hcd : cd ≠ 0) : xM l y_M_write w_M_write (xrm 1) [.ref b, .long x, .int (nI k), .int (nI cd)] (wM D b r cJ cZ β n q 0 rd gd) (xA2 b r) (fun v _ t => ∃ i : Int32, v = some (.int i) ∧ ((sp_write (β, n, q) x k cd).1 = 0 → i.toInt64 = (sp_write (β, n, q) x k cd).2.1) ∧ PM D b r cZ (sp_write (β, n, q) x k cd).2.2.1 (sp_write (β, n, q) x k cd).2.2.2.1 (sp_write (β, n, q) x k cd).2.2.2.2 (nI (sp_write (β, n, q) x k cd).1) rd gd t.heap) (fun _ _ _ => False) := by
  refine xM.of (by decide) ?_
  intro p e s m args below meth c hav E hr hk hh hnm hwM
  subst hav
  obtain ⟨hP, hK⟩ := hwM
  have hS : va_S (xA2 b r) s.heap s.heap [] := va_S.rf
  refine xl_entry _ (Nat.le_of_ble_eq_true rfl) (fun ls hl => ?_)
  have hl : lv_has ls 5 [(0, .ref b), (1, .long x), (3, .int (nI k)), (4, .int (nI cd))] := hl
  refine lv_aload_n E.1 E.2.1 d_M_write_0 rfl (lv_at hl 0 rfl) ?_
  refine gm_size E hK hP d_M_write_1 ?_
  refine lv_iload_n E.1 E.2.1 d_M_write_4 rfl (lv_at hl 2 rfl) ?_
  refine lv_iadd E.1 E.2.1 d_M_write_5 ?_
  refine xl_ti (y := (nI (n + k))) (nI_add n k) ?_
  refine lv_ldc (v := 65536) E.1 E.2.1 E.2.2.2.1 (E.2.2.2.2 _ co_M_7) d_M_write_6 ?_
  refine lv_icmp_le (tgt := 18) E.1 E.2.1 d_M_write_8 (by decide) (fun h1 => ?_) (fun h1 => ?_)
  · skip
    have h1 : n + k ≤ 65536 := (nI_leI (b := 65536) (by omega) (by decide)).mp h1
    have hsp : sp_write (β, n, q) x k cd = (0, lN (n + k), (xa β n x k, n + k, q)) := by
      unfold sp_write
      rw [if_neg (Nat.not_lt.mpr h1)]
    rw [hsp]
    refine lv_aload_n E.1 E.2.1 d_M_write_18 rfl (lv_at hl 0 rfl) ?_
    refine lv_lload_n E.1 E.2.1 d_M_write_19 rfl (lv_at hl 1 rfl) ?_
    refine lv_iload_n E.1 E.2.1 d_M_write_20 rfl (lv_at hl 2 rfl) ?_
    refine xg_goes (xc_V E xGT (m_append l D b r cJ cZ β n q 0 rd gd k x h1 hk64 hne) vw_M_append (by decide) (wM.call hP hK) (PM.recv hP hK) rfl hl.1 rfl (Nat.le_of_ble_eq_true rfl) d_M_write_21) hS (fun q _ h => h) (fun q h => h) (fun v st t locs1 h0 hal hrt hS1 hz hkp => ?_) (fun x st t locs1 h0 hal hth => hth.elim)
    obtain ⟨rfl, hP1⟩ := hrt
    refine W.eq (g2 := F0 m 24 ls []) rfl ?_
    generalize t.heap = H1 at hP1 hS1 hz hkp ⊢
    clear hP
    have hP := hP1
    refine lv_aload_n E.1 E.2.1 d_M_write_24 rfl (lv_at hl 0 rfl) ?_
    refine gm_size E hK hP d_M_write_25 ?_
    exact xr_iret E hr hk hS1 (fun t ht _ => ⟨_, rfl, fun _ => nI_l (by omega), by rw [ht]; exact hP⟩) d_M_write_28
  · skip
    have h1 : ¬ n + k ≤ 65536 := fun z => h1 ((nI_leI (b := 65536) (by omega) (by decide)).mpr z)
    have hsp : sp_write (β, n, q) x k cd = (cd, 0, (β, n, q)) := by
      unfold sp_write
      rw [if_pos (Nat.not_le.mp h1)]
    rw [hsp]
    refine lv_aload_n E.1 E.2.1 d_M_write_11 rfl (lv_at hl 0 rfl) ?_
    refine lv_iload E.1 E.2.1 d_M_write_12 (lv_at hl 3 rfl) ?_
    refine xg_goes (xc_V E xGT (m_fail l D b r cJ cZ β n q 0 rd gd hne (nI cd)) vw_M_fail (by decide) (wM.call hP hK) (PM.recv hP hK) rfl hl.1 rfl (Nat.le_of_ble_eq_true rfl) d_M_write_14) hS (fun q _ h => h) (fun q h => h) (fun v st t locs1 h0 hal hrt hS1 hz hkp => ?_) (fun x st t locs1 h0 hal hth => hth.elim)
    obtain ⟨rfl, hP1⟩ := hrt
    refine W.eq (g2 := F0 m 17 ls [.int 0]) rfl ?_
    generalize t.heap = H1 at hP1 hS1 hz hkp ⊢
    exact xr_iret E hr hk hS1 (fun t ht _ => ⟨_, rfl, fun z => absurd z hcd, by rw [ht]; exact hP1⟩) d_M_write_17
set_option maxHeartbeats 4000000 in
set_option maxRecDepth 100000 in
theorem m_put (l : Launch) (D : va_G) (b r : Nat) (cJ cZ : ClassId) (β : Nat → Bool) (n q : Nat) (fa : Int32) (rd : Nat) (gd : Bool) (hn : n ≤ 65536) (hne : b ≠ r) (x : Int64) (k : Int32) : xM l y_M_put w_M_put (xrm 2) [.ref b, .long x, .int k] (wM D b r cJ cZ β n q fa rd gd) (xA2 b r) (xMi (sp_put (β, n, q) x k) D b r cZ) (fun _ _ _ => False) := by
  refine xM.of (by decide) ?_
  intro p e s m args below meth c hav E hr hk hh hnm hwM
  subst hav
  obtain ⟨hP, hK⟩ := hwM
  have hS : va_S (xA2 b r) s.heap s.heap [] := va_S.rf
  refine xl_entry _ (Nat.le_of_ble_eq_true rfl) (fun ls hl => ?_)
  have hl : lv_has ls 4 [(0, .ref b), (1, .long x), (3, .int k)] := hl
  refine lv_aload_n E.1 E.2.1 d_M_put_0 rfl (lv_at hl 0 rfl) ?_
  refine lv_iconst (v := 0) E.1 E.2.1 d_M_put_1 (by decide) ?_
  refine sm_failed E hK hP hne hS d_M_put_2 (fun H1 locs1 hP1 hS1 => ?_)
  refine xl_join (fun _ : Unit => k < 0 ∨ 64 < k) (fun _ => F0 m 15 ls []) (fun _ hkk => ?_) (fun hj => ?_)
  · skip
    have hsp : sp_put (β, n, q) x k = (1, 0, (β, n, q)) := by
      unfold sp_put
      rw [if_pos hkk]
    refine lv_aload_n E.1 E.2.1 d_M_put_15 rfl (lv_at hl 0 rfl) ?_
    refine lv_iconst (v := 1) E.1 E.2.1 d_M_put_16 (by decide) ?_
    refine xg_goes (xc_V E xGT (m_fail l D b r cJ cZ β n q 0 rd gd hne 1) vw_M_fail (by decide) (wM.call hP1 hK) (PM.recv hP1 hK) rfl hl.1 rfl (Nat.le_of_ble_eq_true rfl) d_M_put_17) hS1 (fun q _ h => h) (fun q h => h) (fun v st t locs2 h0 hal hrt hS2 hz hkp => ?_) (fun x st t locs1 h0 hal hth => hth.elim)
    obtain ⟨rfl, hP2⟩ := hrt
    refine W.eq (g2 := F0 m 20 ls [.int 0]) rfl ?_
    generalize t.heap = H2 at hP2 hS2 hz hkp ⊢
    refine lv_goto (tgt := 30) E.1 E.2.1 d_M_put_20 (by decide) ?_
    exact xr_iret E hr hk hS2 (fun t ht _ => xMi.mk hsp (fun z => absurd z (by decide)) (by rw [ht]; exact hP2)) d_M_put_30
  · skip
    refine lv_iload_n E.1 E.2.1 d_M_put_5 rfl (lv_at hl 2 rfl) ?_
    refine lv_if_lt (tgt := 15) E.1 E.2.1 d_M_put_6 (by decide) (fun h1 => ?_) (fun h1 => ?_)
    · skip
      exact hj () (Or.inl h1)
    · skip
      refine lv_iload_n E.1 E.2.1 d_M_put_9 rfl (lv_at hl 2 rfl) ?_
      refine lv_bipush (v := 64) E.1 E.2.1 d_M_put_10 (by decide) ?_
      refine lv_icmp_le (tgt := 23) E.1 E.2.1 d_M_put_12 (by decide) (fun h2 => ?_) (fun h2 => ?_)
      · skip
        obtain ⟨j, hjb, hkj⟩ := nI_of h1
        have hj64 : j ≤ 64 := by
          rw [hkj] at h2
          exact (nI_leI (b := 64) hjb (by decide)).mp h2
        have hcl := xcl64 hkj hjb
        have hsp : sp_put (β, n, q) x k = sp_write (β, n, q) x j 2 := by
          unfold sp_put
          rw [if_neg (fun z => z.elim h1 (xi_nlt.mpr h2)), hcl]
        refine lv_aload_n E.1 E.2.1 d_M_put_23 rfl (lv_at hl 0 rfl) ?_
        refine lv_lload_n E.1 E.2.1 d_M_put_24 rfl (lv_at hl 1 rfl) ?_
        refine lv_iload_n E.1 E.2.1 d_M_put_25 rfl (lv_at hl 2 rfl) ?_
        refine xl_ti (y := (nI j)) (hkj) ?_
        refine lv_iconst (v := 2) E.1 E.2.1 d_M_put_26 (by decide) ?_
        refine xg_goes (xc_V E xGT (m_write l D b r cJ cZ β n q rd gd j 2 x hn hj64 hne (by decide)) vw_M_write (by decide) (wM.call hP1 hK) (PM.recv hP1 hK) rfl hl.1 rfl (Nat.le_of_ble_eq_true rfl) d_M_put_27) hS1 (fun q _ h => h) (fun q h => h) (fun v st t locs2 h0 hal hrt hS2 hz hkp => ?_) (fun x st t locs1 h0 hal hth => hth.elim)
        obtain ⟨i, rfl, hi, hP2⟩ := hrt
        refine W.eq (g2 := F0 m 30 ls [.int i]) rfl ?_
        generalize t.heap = H2 at hP2 hS2 hz hkp ⊢
        exact xr_iret E hr hk hS2 (fun t ht _ => by rw [hsp]; exact ⟨i, rd, gd, rfl, hi, by rw [ht]; exact hP2⟩) d_M_put_30
      · skip
        exact hj () (Or.inr (xi_nle.mp h2))
set_option maxHeartbeats 4000000 in
set_option maxRecDepth 100000 in
theorem m_putRange (l : Launch) (D : va_G) (b r : Nat) (cJ cZ : ClassId) (β : Nat → Bool) (n q : Nat) (fa : Int32) (rd : Nat) (gd : Bool) (hn : n ≤ 65536) (hne : b ≠ r) (lo hi x : Int64) : xM l y_M_putRange w_M_putRange (xrm 2) [.ref b, .long lo, .long hi, .long x] (wM D b r cJ cZ β n q fa rd gd) (xA2 b r) (xMi (sp_putRange (β, n, q) lo hi x) D b r cZ) (fun _ _ _ => False) := by
  refine xM.of (by decide) ?_
  intro p e s m args below meth c hav E hr hk hh hnm hwM
  subst hav
  obtain ⟨hP, hK⟩ := hwM
  have hS : va_S (xA2 b r) s.heap s.heap [] := va_S.rf
  refine xl_entry _ (Nat.le_of_ble_eq_true rfl) (fun ls hl => ?_)
  have hl : lv_has ls 7 [(0, .ref b), (1, .long lo), (3, .long hi), (5, .long x)] := hl
  refine lv_aload_n E.1 E.2.1 d_M_putRange_0 rfl (lv_at hl 0 rfl) ?_
  refine lv_iconst (v := 0) E.1 E.2.1 d_M_putRange_1 (by decide) ?_
  refine sm_failed E hK hP hne hS d_M_putRange_2 (fun H1 locs1 hP1 hS1 => ?_)
  refine xl_join (fun _ : Unit => x < lo ∨ hi < x) (fun _ => F0 m 19 ls []) (fun _ hkk => ?_) (fun hj => ?_)
  · skip
    have hsp : sp_putRange (β, n, q) lo hi x = (1, 0, (β, n, q)) := by
      unfold sp_putRange
      rw [if_pos hkk]
    refine lv_aload_n E.1 E.2.1 d_M_putRange_19 rfl (lv_at hl 0 rfl) ?_
    refine lv_iconst (v := 1) E.1 E.2.1 d_M_putRange_20 (by decide) ?_
    refine xg_goes (xc_V E xGT (m_fail l D b r cJ cZ β n q 0 rd gd hne 1) vw_M_fail (by decide) (wM.call hP1 hK) (PM.recv hP1 hK) rfl hl.1 rfl (Nat.le_of_ble_eq_true rfl) d_M_putRange_21) hS1 (fun q _ h => h) (fun q h => h) (fun v st t locs2 h0 hal hrt hS2 hz hkp => ?_) (fun x st t locs1 h0 hal hth => hth.elim)
    obtain ⟨rfl, hP2⟩ := hrt
    refine W.eq (g2 := F0 m 24 ls [.int 0]) rfl ?_
    generalize t.heap = H2 at hP2 hS2 hz hkp ⊢
    refine lv_goto (tgt := 43) E.1 E.2.1 d_M_putRange_24 (by decide) ?_
    exact xr_iret E hr hk hS2 (fun t ht _ => xMi.mk hsp (fun z => absurd z (by decide)) (by rw [ht]; exact hP2)) d_M_putRange_43
  · skip
    refine lv_lload E.1 E.2.1 d_M_putRange_5 (lv_at hl 3 rfl) ?_
    refine lv_lload_n E.1 E.2.1 d_M_putRange_7 rfl (lv_at hl 1 rfl) ?_
    refine xl_lc_lt (tgt := 19) E.1 E.2.1 d_M_putRange_8 d_M_putRange_9 (by decide) (fun h1 => ?_) (fun h1 => ?_)
    · skip
      exact hj () (Or.inl h1)
    · skip
      refine lv_lload E.1 E.2.1 d_M_putRange_12 (lv_at hl 3 rfl) ?_
      refine lv_lload_n E.1 E.2.1 d_M_putRange_14 rfl (lv_at hl 2 rfl) ?_
      refine xl_lc_le (tgt := 27) E.1 E.2.1 d_M_putRange_15 d_M_putRange_16 (by decide) (fun h2 => ?_) (fun h2 => ?_)
      · skip
        have h3 : ¬ (x < lo ∨ hi < x) := by
          rintro (z | z)
          · exact h1 z
          · rw [Int64.lt_iff_toInt_lt] at z
            rw [Int64.le_iff_toInt_le] at h2
            omega
        have hsp : sp_putRange (β, n, q) lo hi x = sp_write (β, n, q) (x - lo) (nbl (uN (hi - lo))) 2 := by
          unfold sp_putRange
          rw [if_neg h3]
        refine lv_aload_n E.1 E.2.1 d_M_putRange_27 rfl (lv_at hl 0 rfl) ?_
        refine lv_lload E.1 E.2.1 d_M_putRange_28 (lv_at hl 3 rfl) ?_
        refine lv_lload_n E.1 E.2.1 d_M_putRange_30 rfl (lv_at hl 1 rfl) ?_
        refine lv_lsub E.1 E.2.1 d_M_putRange_31 ?_
        refine lv_aload_n E.1 E.2.1 d_M_putRange_32 rfl (lv_at hl 0 rfl) ?_
        refine lv_lload_n E.1 E.2.1 d_M_putRange_33 rfl (lv_at hl 2 rfl) ?_
        refine lv_lload_n E.1 E.2.1 d_M_putRange_34 rfl (lv_at hl 1 rfl) ?_
        refine lv_lsub E.1 E.2.1 d_M_putRange_35 ?_
        refine xg_looks (xc_V E xGT (m_width l b (hi - lo)) vw_M_width (by decide) xNo (PM.recv hP1 hK) rfl hl.1 rfl (Nat.le_of_ble_eq_true rfl) d_M_putRange_36) (fun v st t h => h.2) (fun v st t h0 hal hrt => ?_) (fun x st t h0 hal hth hz => hth.elim)
        obtain ⟨rfl, -⟩ := hrt
        refine W.eq (g2 := F0 m 39 ls [.int (nI (nbl (uN (hi - lo)))), .long (x - lo), .ref b]) rfl ?_
        refine lv_iconst (v := 2) E.1 E.2.1 d_M_putRange_39 (by decide) ?_
        refine xg_goes (xc_V E xGT (m_write l D b r cJ cZ β n q rd gd (nbl (uN (hi - lo))) 2 (x - lo) hn (nbl_64 _) hne (by decide)) vw_M_write (by decide) (wM.call hP1 hK) (PM.recv hP1 hK) rfl hl.1 rfl (Nat.le_of_ble_eq_true rfl) d_M_putRange_40) hS1 (fun q _ h => h) (fun q h => h) (fun v st t locs2 h0 hal hrt hS2 hz hkp => ?_) (fun x st t locs1 h0 hal hth => hth.elim)
        obtain ⟨i, rfl, hi, hP2⟩ := hrt
        refine W.eq (g2 := F0 m 43 ls [.int i]) rfl ?_
        generalize t.heap = H2 at hP2 hS2 hz hkp ⊢
        exact xr_iret E hr hk hS2 (fun t ht _ => by rw [hsp]; exact ⟨i, rd, gd, rfl, hi, by rw [ht]; exact hP2⟩) d_M_putRange_43
      · skip
        refine hj () (Or.inr ?_)
        rw [Int64.lt_iff_toInt_lt]
        rw [Int64.le_iff_toInt_le] at h2
        omega
set_option maxHeartbeats 4000000 in
set_option maxRecDepth 100000 in
theorem m_fill (l : Launch) (D : va_G) (b r : Nat) (cJ cZ : ClassId) (β : Nat → Bool) (n q : Nat) (fa : Int32) (rd : Nat) (gd : Bool) (hn : n ≤ 65536) (hne : b ≠ r) : xM l y_M_fill w_M_fill (xrm 2) [.ref b] (wM D b r cJ cZ β n q fa rd gd) (xA2 b r) (xMi (sp_fill (β, n, q)) D b r cZ) (fun _ _ _ => False) := by
  refine xM.of (by decide) ?_
  intro p e s m args below meth c hav E hr hk hh hnm hwM
  subst hav
  obtain ⟨hP, hK⟩ := hwM
  have hS : va_S (xA2 b r) s.heap s.heap [] := va_S.rf
  have hf8 : xfill n ≤ 8 := by
    unfold xfill
    split <;> omega
  refine xl_entry _ (Nat.le_of_ble_eq_true rfl) (fun ls hl => ?_)
  have hl : lv_has ls 2 [(0, .ref b)] := hl
  refine lv_aload_n E.1 E.2.1 d_M_fill_0 rfl (lv_at hl 0 rfl) ?_
  refine lv_iconst (v := 0) E.1 E.2.1 d_M_fill_1 (by decide) ?_
  refine sm_failed E hK hP hne hS d_M_fill_2 (fun H1 locs1 hP1 hS1 => ?_)
  clear hP
  have hP := hP1
  refine xl_join (fun z : Int32 => z = nI (xfill n)) (fun z => F0 m 30 ls [.int z]) (fun z hz => ?_) (fun hj => ?_)
  · subst hz
    refine lv_istore_n E.1 E.2.1 d_M_fill_30 rfl hl (by decide) rfl (fun ls hl => ?_)
    have hl : lv_has ls 2 [(1, .int (nI (xfill n))), (0, .ref b)] := hl
    refine lv_aload_n E.1 E.2.1 d_M_fill_31 rfl (lv_at hl 1 rfl) ?_
    refine lv_lconst (v := 0) E.1 E.2.1 d_M_fill_32 (by decide) ?_
    refine lv_iload_n E.1 E.2.1 d_M_fill_33 rfl (lv_at hl 0 rfl) ?_
    refine lv_iconst (v := 1) E.1 E.2.1 d_M_fill_34 (by decide) ?_
    refine xg_goes (xc_V E xGT (m_write l D b r cJ cZ β n q rd gd (xfill n) 1 0 hn (by omega) hne (by decide)) vw_M_write (by decide) (wM.call hP1 hK) (PM.recv hP1 hK) rfl hl.1 rfl (Nat.le_of_ble_eq_true rfl) d_M_fill_35) hS1 (fun q _ h => h) (fun q h => h) (fun v st t locs2 h0 hal hrt hS2 hz hkp => ?_) (fun x st t locs1 h0 hal hth => hth.elim)
    obtain ⟨i, rfl, hi, hP2⟩ := hrt
    refine W.eq (g2 := F0 m 38 ls [.int i]) rfl ?_
    generalize t.heap = H2 at hP2 hS2 hz hkp ⊢
    exact xr_iret E hr hk hS2 (fun t ht _ => ⟨i, rd, gd, rfl, hi, by rw [ht]; exact hP2⟩) d_M_fill_38
  · skip
    refine lv_aload_n E.1 E.2.1 d_M_fill_5 rfl (lv_at hl 0 rfl) ?_
    refine gm_size E hK hP d_M_fill_6 ?_
    refine lv_if_ne (tgt := 17) E.1 E.2.1 d_M_fill_9 (by decide) (fun h1 => ?_) (fun h1 => ?_)
    · skip
      have h1 : ¬ n = 0 := fun z => h1 (by rw [z]; rfl)
      refine lv_bipush (v := 8) E.1 E.2.1 d_M_fill_17 (by decide) ?_
      refine lv_aload_n E.1 E.2.1 d_M_fill_19 rfl (lv_at hl 0 rfl) ?_
      refine gm_size E hK hP d_M_fill_20 ?_
      refine lv_bipush (v := 8) E.1 E.2.1 d_M_fill_23 (by decide) ?_
      refine lv_irem E.1 E.2.1 d_M_fill_25 (by decide) ?_
      refine xl_ti (y := (nI (n % 8))) (pk_rem (by omega) (by decide) (by decide)) ?_
      refine lv_isub E.1 E.2.1 d_M_fill_26 ?_
      refine xl_ti (y := (nI (8 - n % 8))) (pk_sub (a := 8) (b := n % 8) (by omega)) ?_
      refine lv_bipush (v := 8) E.1 E.2.1 d_M_fill_27 (by decide) ?_
      refine lv_irem E.1 E.2.1 d_M_fill_29 (by decide) ?_
      refine hj _ ?_
      unfold xfill
      rw [if_neg h1]
      exact pk_rem (by omega) (by decide) (by decide)
    · skip
      have h1 : n = 0 := (nI_eq (b := 0) (by omega) (by decide)).mp h1
      refine lv_bipush (v := 8) E.1 E.2.1 d_M_fill_12 (by decide) ?_
      refine lv_goto (tgt := 30) E.1 E.2.1 d_M_fill_14 (by decide) ?_
      refine hj _ ?_
      unfold xfill
      rw [if_pos h1]
      rfl
end XL22

