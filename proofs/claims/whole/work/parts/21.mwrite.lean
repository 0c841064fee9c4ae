/-! The reference: what writes. -/
section XL21
set_option maxHeartbeats 4000000 in
set_option maxRecDepth 100000 in
theorem m_thrown (l : Launch) (D : va_G) (b r : Nat) (cJ cZ : ClassId) (β : Nat → Bool) (n q : Nat) (fa : Int32) (rd : Nat) (gd : Bool) : xM l y_M_thrown w_M_thrown (xrm 0) [.ref b] (wM D b r cJ cZ β n q fa rd gd) xNA (fun v st t => v = some (.int fa) ∧ t.heap = st.heap) (fun _ _ _ => False) := by
  refine xM.of (by decide) ?_
  intro p e s m args below meth c hav E hr hk hh hnm hwM
  subst hav
  obtain ⟨hP, hK⟩ := hwM
  have hS : va_S xNA s.heap s.heap [] := va_S.rf
  refine xl_entry _ (Nat.le_of_ble_eq_true rfl) (fun ls hl => ?_)
  have hl : lv_has ls 1 [(0, .ref b)] := hl
  refine lv_aload_n E.1 E.2.1 d_M_thrown_0 rfl (lv_at hl 0 rfl) ?_
  refine gm_failed E hK hP d_M_thrown_1 ?_
  exact xr_iret E hr hk hS (fun t ht _ => ⟨rfl, ht⟩) d_M_thrown_4
set_option maxHeartbeats 4000000 in
set_option maxRecDepth 100000 in
theorem m_fail (l : Launch) (D : va_G) (b r : Nat) (cJ cZ : ClassId) (β : Nat → Bool) (n q : Nat) (fa : Int32) (rd : Nat) (gd : Bool) (hne : b ≠ r) (z : Int32) : xM l y_M_fail w_M_fail (xrm 0) [.ref b, .int z] (wM D b r cJ cZ β n q fa rd gd) (xA2 b r) (fun v _ t => v = some (.int 0) ∧ PM D b r cZ β n q z rd gd t.heap) (fun _ _ _ => False) := by
  refine xM.of (by decide) ?_
  intro p e s m args below meth c hav E hr hk hh hnm hwM
  subst hav
  obtain ⟨hP, hK⟩ := hwM
  have hS : va_S (xA2 b r) s.heap s.heap [] := va_S.rf
  refine xl_entry _ (Nat.le_of_ble_eq_true rfl) (fun ls hl => ?_)
  have hl : lv_has ls 2 [(0, .ref b), (1, .int z)] := hl
  refine lv_aload_n E.1 E.2.1 d_M_fail_0 rfl (lv_at hl 0 rfl) ?_
  refine lv_iload_n E.1 E.2.1 d_M_fail_1 rfl (lv_at hl 1 rfl) ?_
  refine sm_failed E hK hP hne hS d_M_fail_2 (fun H1 locs1 hP1 hS1 => ?_)
  refine lv_iconst (v := 0) E.1 E.2.1 d_M_fail_5 (by decide) ?_
  exact xr_iret E hr hk hS1 (fun t ht _ => ⟨rfl, by rw [ht]; exact hP1⟩) d_M_fail_6
set_option maxHeartbeats 4000000 in
set_option maxRecDepth 100000 in
theorem m_width (l : Launch) (b : Nat) (x : Int64) : xM l y_M_width w_M_width (xrm 0) [.ref b, .long x] (fun _ => True) xNA (fun v st t => v = some (.int (nI (nbl (uN x)))) ∧ t.heap = st.heap) (fun _ _ _ => False) := by
  refine xM.of (by decide) ?_
  intro p e s m args below meth c hav E hr hk hh hnm _
  subst hav
  have hS : va_S xNA s.heap s.heap [] := va_S.rf
  have hb := nbl_64 x
  have key : ∀ (d i : Nat) (ls : Array Slot), i + d = nbl (uN x) → lv_has ls 4 [(3, .int (nI i)), (0, .ref b), (1, .long x)] →
      W p l e (xrm 0) s m [Value.ref b, .long x].toArray below meth c s.heap [] 0 0 (xl_MQ below (xl_Q xNA (fun v st t => v = some (.int (nI (nbl (uN x)))) ∧ t.heap = st.heap) (fun _ _ _ => False)) [Value.ref b, .long x].toArray s (xl_k 0 1) (xl_k 0 6) xNA) (F0 m 2 ls []) := by
    intro d
    induction d with
    | zero =>
      intro i ls hid hl
      have hi : i = nbl (uN x) := hid
      refine lv_iload_n E.1 E.2.1 d_M_width_2 rfl (lv_at hl 0 rfl) ?_
      refine lv_bipush (v := 64) E.1 E.2.1 d_M_width_3 (by decide) ?_
      refine lv_icmp_ge (tgt := 22) E.1 E.2.1 d_M_width_5 (by decide) (fun h1 => ?_) (fun h1 => ?_)
      · skip
        refine lv_iload_n E.1 E.2.1 d_M_width_22 rfl (lv_at hl 0 rfl) ?_
        exact xr_iret E hr hk hS (fun t ht _ => ⟨by rw [hi], ht⟩) d_M_width_23
      · skip
        have h1 : ¬ 64 ≤ i := fun z => h1 ((nI_leI (a := 64) (by decide) (by omega)).mpr z)
        refine lv_lload_n E.1 E.2.1 d_M_width_8 rfl (lv_at hl 2 rfl) ?_
        refine lv_iload_n E.1 E.2.1 d_M_width_9 rfl (lv_at hl 0 rfl) ?_
        refine lv_lushr (v := xsh x (nI i)) E.1 E.2.1 d_M_width_10 rfl ?_
        refine lv_lconst (v := 0) E.1 E.2.1 d_M_width_11 (by decide) ?_
        refine xl_lc_eq (tgt := 22) E.1 E.2.1 d_M_width_12 d_M_width_13 (by decide) (fun h2 => ?_) (fun h2 => ?_)
        · skip
          refine lv_iload_n E.1 E.2.1 d_M_width_22 rfl (lv_at hl 0 rfl) ?_
          exact xr_iret E hr hk hS (fun t ht _ => ⟨by rw [hi], ht⟩) d_M_width_23
        · skip
          exact absurd ((xsh_0 x (by omega)).mpr (by omega)) h2
    | succ d ih =>
      intro i ls hid hl
      refine lv_iload_n E.1 E.2.1 d_M_width_2 rfl (lv_at hl 0 rfl) ?_
      refine lv_bipush (v := 64) E.1 E.2.1 d_M_width_3 (by decide) ?_
      refine lv_icmp_ge (tgt := 22) E.1 E.2.1 d_M_width_5 (by decide) (fun h1 => ?_) (fun h1 => ?_)
      · skip
        exact absurd ((nI_leI (a := 64) (by decide) (by omega)).mp h1) (by omega)
      · skip
        refine lv_lload_n E.1 E.2.1 d_M_width_8 rfl (lv_at hl 2 rfl) ?_
        refine lv_iload_n E.1 E.2.1 d_M_width_9 rfl (lv_at hl 0 rfl) ?_
        refine lv_lushr (v := xsh x (nI i)) E.1 E.2.1 d_M_width_10 rfl ?_
        refine lv_lconst (v := 0) E.1 E.2.1 d_M_width_11 (by decide) ?_
        refine xl_lc_eq (tgt := 22) E.1 E.2.1 d_M_width_12 d_M_width_13 (by decide) (fun h2 => ?_) (fun h2 => ?_)
        · skip
          exact absurd ((xsh_0 x (by omega)).mp h2) (by omega)
        · skip
          refine lv_iinc (k := 0) (v := (nI i) + 1) E.1 E.2.1 d_M_width_16 hl rfl rfl (by decide) rfl (fun ls hl => ?_)
          have hl : lv_has ls 4 [(3, .int ((nI i) + 1)), (0, .ref b), (1, .long x)] := hl
          refine lv_goto (tgt := 2) E.1 E.2.1 d_M_width_19 (by decide) ?_
          rw [nI_1] at hl
          exact ih (i + 1) ls (by omega) hl
  refine xl_entry _ (Nat.le_of_ble_eq_true rfl) (fun ls hl => ?_)
  have hl : lv_has ls 4 [(0, .ref b), (1, .long x)] := hl
  refine lv_iconst (v := 0) E.1 E.2.1 d_M_width_0 (by decide) ?_
  refine lv_istore_n E.1 E.2.1 d_M_width_1 rfl hl (by decide) rfl (fun ls hl => ?_)
  have hl : lv_has ls 4 [(3, .int 0), (0, .ref b), (1, .long x)] := hl
  exact key _ 0 ls (Nat.zero_add _) hl
set_option maxHeartbeats 4000000 in
set_option maxRecDepth 100000 in
theorem m_bytesOf (l : Launch) (D : va_G) (b r : Nat) (cJ cZ : ClassId) (β : Nat → Bool) (n q : Nat) (fa : Int32) (rd : Nat) (gd : Bool) (x : Int64) : xM l y_M_bytesOf w_M_bytesOf (xrm 1) [.ref b, .long x] (wM D b r cJ cZ β n q fa rd gd) xNA (fun v st t => v = some (.int (nI (nb 0 x))) ∧ t.heap = st.heap) (fun _ _ _ => False) := by
  refine xM.of (by decide) ?_
  intro p e s m args below meth c hav E hr hk hh hnm hwM
  subst hav
  obtain ⟨hP, hK⟩ := hwM
  have hS : va_S xNA s.heap s.heap [] := va_S.rf
  have hb := nbl_64 x
  have hnb : nb 0 x = max 1 ((nbl (uN x) + 7) / 8) := by
    unfold nb
    rw [if_neg (by decide)]
  refine xl_entry _ (Nat.le_of_ble_eq_true rfl) (fun ls hl => ?_)
  have hl : lv_has ls 3 [(0, .ref b), (1, .long x)] := hl
  refine lv_aload_n E.1 E.2.1 d_M_bytesOf_0 rfl (lv_at hl 0 rfl) ?_
  refine lv_lload_n E.1 E.2.1 d_M_bytesOf_1 rfl (lv_at hl 1 rfl) ?_
  refine xg_looks (xc_V E xGT (m_width l b x) vw_M_width (by decide) xNo (PM.recv hP hK) rfl hl.1 rfl (Nat.le_of_ble_eq_true rfl) d_M_bytesOf_2) (fun v st t h => h.2) (fun v st t h0 hal hrt => ?_) (fun x st t h0 hal hth hz => hth.elim)
  obtain ⟨rfl, -⟩ := hrt
  refine W.eq (g2 := F0 m 5 ls [.int (nI (nbl (uN x)))]) rfl ?_
  refine lv_if_ne (tgt := 12) E.1 E.2.1 d_M_bytesOf_5 (by decide) (fun h1 => ?_) (fun h1 => ?_)
  · skip
    have h1 : ¬ nbl (uN x) = 0 := fun z => h1 (by rw [z]; rfl)
    refine lv_aload_n E.1 E.2.1 d_M_bytesOf_12 rfl (lv_at hl 0 rfl) ?_
    refine lv_lload_n E.1 E.2.1 d_M_bytesOf_13 rfl (lv_at hl 1 rfl) ?_
    refine xg_looks (xc_V E xGT (m_width l b x) vw_M_width (by decide) xNo (PM.recv hP hK) rfl hl.1 rfl (Nat.le_of_ble_eq_true rfl) d_M_bytesOf_14) (fun v st t h => h.2) (fun v st t h0 hal hrt => ?_) (fun x st t h0 hal hth hz => hth.elim)
    obtain ⟨rfl, -⟩ := hrt
    refine W.eq (g2 := F0 m 17 ls [.int (nI (nbl (uN x)))]) rfl ?_
    refine lv_bipush (v := 7) E.1 E.2.1 d_M_bytesOf_17 (by decide) ?_
    refine lv_iadd E.1 E.2.1 d_M_bytesOf_19 ?_
    refine xl_ti (y := (nI (nbl (uN x) + 7))) (nI_add _ 7) ?_
    refine lv_bipush (v := 8) E.1 E.2.1 d_M_bytesOf_20 (by decide) ?_
    refine lv_idiv E.1 E.2.1 d_M_bytesOf_22 (by decide) ?_
    refine xl_ti (y := (nI (nb 0 x))) (by rw [hnb, Nat.max_eq_right (by omega)]; exact pk_div (by omega) (by decide) (by decide)) ?_
    exact xr_iret E hr hk hS (fun t ht _ => ⟨rfl, ht⟩) d_M_bytesOf_23
  · skip
    have h1 : nbl (uN x) = 0 := (nI_eq (b := 0) (by omega) (by decide)).mp h1
    refine lv_iconst (v := 1) E.1 E.2.1 d_M_bytesOf_8 (by decide) ?_
    refine lv_goto (tgt := 23) E.1 E.2.1 d_M_bytesOf_9 (by decide) ?_
    exact xr_iret E hr hk hS (fun t ht _ => ⟨by rw [hnb, h1]; rfl, ht⟩) d_M_bytesOf_23
set_option maxHeartbeats 4000000 in
set_option maxRecDepth 100000 in
theorem m_complement (l : Launch) (b : Nat) (x : Int64) : xM l y_M_complement w_M_complement (xrm 0) [.ref b, .long x] (fun _ => True) xNA (fun v st t => v = some (.int (nI (nb 1 x))) ∧ t.heap = st.heap) (fun _ _ _ => False) := by
  refine xM.of (by decide) ?_
  intro p e s m args below meth c hav E hr hk hh hnm _
  subst hav
  have hS : va_S xNA s.heap s.heap [] := va_S.rf
  have hN : nbl (uN (xav x)) ≤ 63 := nbl_le.mpr (xav_lt x)
  have hnb : nb 1 x = nbl (uN (xav x)) / 8 + 1 := by
    unfold nb
    rw [if_pos rfl]
    omega
  have hm : ∀ i : Nat, 1 ≤ i → i ≤ 8 → (8 : Int32) * nI i - 1 = nI (8 * i - 1) := fun i h1 _ => by
    rw [show (8 : Int32) * nI i = nI (8 * i) from pk_mul 8 i]
    exact pk_sub (b := 1) (by omega)
  have key : ∀ (d i : Nat) (ls : Array Slot), 1 ≤ i → i + d = nb 1 x → lv_has ls 4 [(3, .int (nI i)), (0, .ref b), (1, .long x)] →
      W p l e (xrm 0) s m [Value.ref b, .long x].toArray below meth c s.heap [] 0 0 (xl_MQ below (xl_Q xNA (fun v st t => v = some (.int (nI (nb 1 x))) ∧ t.heap = st.heap) (fun _ _ _ => False)) [Value.ref b, .long x].toArray s (xl_k 0 1) (xl_k 0 6) xNA) (F0 m 2 ls []) := by
    intro d
    induction d with
    | zero =>
      intro i ls hi1 hid hl
      have hi : i = nb 1 x := hid
      refine lv_iload_n E.1 E.2.1 d_M_complement_2 rfl (lv_at hl 0 rfl) ?_
      refine lv_bipush (v := 8) E.1 E.2.1 d_M_complement_3 (by decide) ?_
      refine lv_icmp_ge (tgt := 42) E.1 E.2.1 d_M_complement_5 (by decide) (fun h1 => ?_) (fun h1 => ?_)
      · skip
        refine lv_iload_n E.1 E.2.1 d_M_complement_42 rfl (lv_at hl 0 rfl) ?_
        exact xr_iret E hr hk hS (fun t ht _ => ⟨by rw [hi], ht⟩) d_M_complement_43
      · skip
        have h1 : ¬ 8 ≤ i := fun z => h1 ((nI_leI (a := 8) (by decide) (by omega)).mpr z)
        have hstop := (xsr_iff x (k := 8 * i - 1) (by omega)).mpr (by omega)
        refine lv_lload_n E.1 E.2.1 d_M_complement_8 rfl (lv_at hl 2 rfl) ?_
        refine lv_bipush (v := 8) E.1 E.2.1 d_M_complement_9 (by decide) ?_
        refine lv_iload_n E.1 E.2.1 d_M_complement_11 rfl (lv_at hl 0 rfl) ?_
        refine lv_imul E.1 E.2.1 d_M_complement_12 ?_
        refine lv_iconst (v := 1) E.1 E.2.1 d_M_complement_13 (by decide) ?_
        refine lv_isub E.1 E.2.1 d_M_complement_14 ?_
        refine xl_ti (y := (nI (8 * i - 1))) (hm i hi1 (by omega)) ?_
        refine lv_lshr (v := xsr x (nI (8 * i - 1))) E.1 E.2.1 d_M_complement_15 rfl ?_
        refine lv_lconst (v := 0) E.1 E.2.1 d_M_complement_16 (by decide) ?_
        refine xl_lc_eq (tgt := 42) E.1 E.2.1 d_M_complement_17 d_M_complement_18 (by decide) (fun h2 => ?_) (fun h2 => ?_)
        · skip
          refine lv_iload_n E.1 E.2.1 d_M_complement_42 rfl (lv_at hl 0 rfl) ?_
          exact xr_iret E hr hk hS (fun t ht _ => ⟨by rw [hi], ht⟩) d_M_complement_43
        · skip
          refine lv_lload_n E.1 E.2.1 d_M_complement_21 rfl (lv_at hl 2 rfl) ?_
          refine lv_bipush (v := 8) E.1 E.2.1 d_M_complement_22 (by decide) ?_
          refine lv_iload_n E.1 E.2.1 d_M_complement_24 rfl (lv_at hl 0 rfl) ?_
          refine lv_imul E.1 E.2.1 d_M_complement_25 ?_
          refine lv_iconst (v := 1) E.1 E.2.1 d_M_complement_26 (by decide) ?_
          refine lv_isub E.1 E.2.1 d_M_complement_27 ?_
          refine xl_ti (y := (nI (8 * i - 1))) (hm i hi1 (by omega)) ?_
          refine lv_lshr (v := xsr x (nI (8 * i - 1))) E.1 E.2.1 d_M_complement_28 rfl ?_
          refine lv_ldc2 (v := (-1)) E.1 E.2.1 E.2.2.2.1 (E.2.2.2.2 _ co_M_22) d_M_complement_29 ?_
          refine xl_lc_eq (tgt := 42) E.1 E.2.1 d_M_complement_32 d_M_complement_33 (by decide) (fun h3 => ?_) (fun h3 => ?_)
          · skip
            refine lv_iload_n E.1 E.2.1 d_M_complement_42 rfl (lv_at hl 0 rfl) ?_
            exact xr_iret E hr hk hS (fun t ht _ => ⟨by rw [hi], ht⟩) d_M_complement_43
          · skip
            exact absurd hstop (fun z => z.elim h2 h3)
    | succ d ih =>
      intro i ls hi1 hid hl
      have hgo : (xsr x (nI (8 * i - 1)) = 0 ∨ xsr x (nI (8 * i - 1)) = -1) → False := fun z => absurd ((xsr_iff x (k := 8 * i - 1) (by omega)).mp z) (by omega)
      refine lv_iload_n E.1 E.2.1 d_M_complement_2 rfl (lv_at hl 0 rfl) ?_
      refine lv_bipush (v := 8) E.1 E.2.1 d_M_complement_3 (by decide) ?_
      refine lv_icmp_ge (tgt := 42) E.1 E.2.1 d_M_complement_5 (by decide) (fun h1 => ?_) (fun h1 => ?_)
      · skip
        exact absurd ((nI_leI (a := 8) (by decide) (by omega)).mp h1) (by omega)
      · skip
        refine lv_lload_n E.1 E.2.1 d_M_complement_8 rfl (lv_at hl 2 rfl) ?_
        refine lv_bipush (v := 8) E.1 E.2.1 d_M_complement_9 (by decide) ?_
        refine lv_iload_n E.1 E.2.1 d_M_complement_11 rfl (lv_at hl 0 rfl) ?_
        refine lv_imul E.1 E.2.1 d_M_complement_12 ?_
        refine lv_iconst (v := 1) E.1 E.2.1 d_M_complement_13 (by decide) ?_
        refine lv_isub E.1 E.2.1 d_M_complement_14 ?_
        refine xl_ti (y := (nI (8 * i - 1))) (hm i hi1 (by omega)) ?_
        refine lv_lshr (v := xsr x (nI (8 * i - 1))) E.1 E.2.1 d_M_complement_15 rfl ?_
        refine lv_lconst (v := 0) E.1 E.2.1 d_M_complement_16 (by decide) ?_
        refine xl_lc_eq (tgt := 42) E.1 E.2.1 d_M_complement_17 d_M_complement_18 (by decide) (fun h2 => ?_) (fun h2 => ?_)
        · skip
          exact (hgo (Or.inl h2)).elim
        · skip
          refine lv_lload_n E.1 E.2.1 d_M_complement_21 rfl (lv_at hl 2 rfl) ?_
          refine lv_bipush (v := 8) E.1 E.2.1 d_M_complement_22 (by decide) ?_
          refine lv_iload_n E.1 E.2.1 d_M_complement_24 rfl (lv_at hl 0 rfl) ?_
          refine lv_imul E.1 E.2.1 d_M_complement_25 ?_
          refine lv_iconst (v := 1) E.1 E.2.1 d_M_complement_26 (by decide) ?_
          refine lv_isub E.1 E.2.1 d_M_complement_27 ?_
          refine xl_ti (y := (nI (8 * i - 1))) (hm i hi1 (by omega)) ?_
          refine lv_lshr (v := xsr x (nI (8 * i - 1))) E.1 E.2.1 d_M_complement_28 rfl ?_
          refine lv_ldc2 (v := (-1)) E.1 E.2.1 E.2.2.2.1 (E.2.2.2.2 _ co_M_22) d_M_complement_29 ?_
          refine xl_lc_eq (tgt := 42) E.1 E.2.1 d_M_complement_32 d_M_complement_33 (by decide) (fun h3 => ?_) (fun h3 => ?_)
          · skip
            exact (hgo (Or.inr h3)).elim
          · skip
            refine lv_iinc (k := 0) (v := (nI i) + 1) E.1 E.2.1 d_M_complement_36 hl rfl rfl (by decide) rfl (fun ls hl => ?_)
            have hl : lv_has ls 4 [(3, .int ((nI i) + 1)), (0, .ref b), (1, .long x)] := hl
            refine lv_goto (tgt := 2) E.1 E.2.1 d_M_complement_39 (by decide) ?_
            rw [nI_1] at hl
            exact ih (i + 1) ls (by omega) (by omega) hl
  refine xl_entry _ (Nat.le_of_ble_eq_true rfl) (fun ls hl => ?_)
  have hl : lv_has ls 4 [(0, .ref b), (1, .long x)] := hl
  refine lv_iconst (v := 1) E.1 E.2.1 d_M_complement_0 (by decide) ?_
  refine lv_istore_n E.1 E.2.1 d_M_complement_1 rfl hl (by decide) rfl (fun ls hl => ?_)
  have hl : lv_has ls 4 [(3, .int 1), (0, .ref b), (1, .long x)] := hl
  exact key _ 1 ls (by decide) (show 1 + (nb 1 x - 1) = nb 1 x by omega) hl
theorem xz_up (β : Nat → Bool) (i : Nat) (v : Bool) : upd (xz β) i (vp_nar .boolean (nI v.toNat)) = xz (va_up β i v) := by
  rw [vp_nz]
  funext j
  unfold upd xz va_up
  by_cases h : j = i
  · rw [if_pos h, if_pos h]
    cases v <;> rfl
  · rw [if_neg h, if_neg h]
set_option maxHeartbeats 4000000 in
set_option maxRecDepth 100000 in
theorem m_append (l : Launch) (D : va_G) (b r : Nat) (cJ cZ : ClassId) (β : Nat → Bool) (n q : Nat) (fa : Int32) (rd : Nat) (gd : Bool) (k : Nat) (x : Int64) (hn : n + k ≤ 65536) (hk64 : k ≤ 64) (hne : b ≠ r) : xM l y_M_append w_M_append (xrm 0) [.ref b, .long x, .int (nI k)] (wM D b r cJ cZ β n q fa rd gd) (xA2 b r) (fun v st t => v = none ∧ PM D b r cZ (xa β n x k) (n + k) q fa rd gd t.heap) (fun _ _ _ => False) := by
  refine xM.of (by decide) ?_
  intro p e s m args below meth c hav E hr hk hh hnm hwM
  subst hav
  obtain ⟨hP, hK⟩ := hwM
  have hS : va_S (xA2 b r) s.heap s.heap [] := va_S.rf
  have key : ∀ (i : Nat) (β1 : Nat → Bool) (n1 : Nat) (H : Heap) (locs : List Loc) (ls : Array Slot), i ≤ 64 → n1 + i ≤ 65536 → xa β1 n1 x i = xa β n x k → n1 + i = n + k → PM D b r cZ β1 n1 q fa rd gd H → va_S (xA2 b r) s.heap H locs → lv_has ls 5 [(4, .int (nI i - 1)), (0, .ref b), (1, .long x), (3, .int (nI k))] →
      W p l e (xrm 0) s m [Value.ref b, .long x, .int (nI k)].toArray below meth c H locs 0 0 (xl_MQ below (xl_Q (xA2 b r) (fun v st t => v = none ∧ PM D b r cZ (xa β n x k) (n + k) q fa rd gd t.heap) (fun _ _ _ => False)) [Value.ref b, .long x, .int (nI k)].toArray s (xl_k 0 1) (xl_k 0 6) (xA2 b r)) (F0 m 5 ls []) := by
    intro i
    induction i with
    | zero =>
      intro β1 n1 H locs ls _ _ hβ hnn hP hS hl
      refine lv_iload E.1 E.2.1 d_M_append_5 (lv_at hl 0 rfl) ?_
      refine lv_if_lt (tgt := 51) E.1 E.2.1 d_M_append_7 (by decide) (fun h1 => ?_) (fun h1 => ?_)
      · skip
        have hnn : n1 = n + k := hnn
        subst hnn
        rw [xa_0] at hβ
        subst hβ
        exact xr_vret E hr hk hS (fun t ht _ => ⟨rfl, by rw [ht]; exact hP⟩) d_M_append_51
      · skip
        exact absurd (by decide) h1
    | succ i ih =>
      intro β1 n1 H locs ls hr64 hnr hβ hnn hP hS hl
      have e1 : nI (i + 1) - 1 = nI i := nI_pred i
      rw [e1] at hl
      refine lv_iload E.1 E.2.1 d_M_append_5 (lv_at hl 0 rfl) ?_
      refine lv_if_lt (tgt := 51) E.1 E.2.1 d_M_append_7 (by decide) (fun h1 => ?_) (fun h1 => ?_)
      · skip
        exact absurd h1 (nI_pos (by omega))
      · skip
        refine lv_aload_n E.1 E.2.1 d_M_append_10 rfl (lv_at hl 1 rfl) ?_
        refine gm_row E hK hP d_M_append_11 ?_
        refine lv_aload_n E.1 E.2.1 d_M_append_14 rfl (lv_at hl 1 rfl) ?_
        refine gm_size E hK hP d_M_append_15 ?_
        refine lv_lload_n E.1 E.2.1 d_M_append_18 rfl (lv_at hl 2 rfl) ?_
        refine lv_iload E.1 E.2.1 d_M_append_19 (lv_at hl 0 rfl) ?_
        refine lv_lushr (v := xsh x (nI i)) E.1 E.2.1 d_M_append_21 rfl ?_
        refine lv_lconst (v := 1) E.1 E.2.1 d_M_append_22 (by decide) ?_
        refine lv_land E.1 E.2.1 d_M_append_23 ?_
        refine xl_tl (y := (lN (xb x i).toNat)) (xsh_1 x (by omega)) ?_
        refine lv_lconst (v := 1) E.1 E.2.1 d_M_append_24 (by decide) ?_
        refine xl_join (fun z : Int32 => z = nI (xb x i).toNat) (fun z => F0 m 34 ls [.int z, .int (nI n1), .ref r]) (fun z hz => ?_) (fun hj => ?_)
        · subst hz
          refine va_zast E.1 E.2.1 hK hP (xD2 hne) hS 1 1 rfl rfl (vp_in_nI (by omega) (by decide)) d_M_append_34 (fun H1 locs1 hP1 _ hS1 => ?_)
          have hP1 : va_P D xcl [(b, .inr (1, [.int fa, .ref r, .int (nI n1), .int (nI q), .int (nI rd), .int (nI gd.toNat)])), (r, .inl (cZ, 65536, .inl (upd (xz β1) (nI n1).toNatClampNeg (vp_nar .boolean (nI (xb x i).toNat)))))] H1 := hP1
          rw [nI_clamp (by omega), xz_up] at hP1
          clear hP
          have hP : PM D b r cZ (va_up β1 n1 (xb x i)) n1 q fa rd gd H1 := hP1
          refine lv_aload_n E.1 E.2.1 d_M_append_35 rfl (lv_at hl 1 rfl) ?_
          refine lv_dup E.1 E.2.1 d_M_append_36 rfl ?_
          refine gm_size E hK hP d_M_append_37 ?_
          refine lv_iconst (v := 1) E.1 E.2.1 d_M_append_40 (by decide) ?_
          refine lv_iadd E.1 E.2.1 d_M_append_41 ?_
          refine xl_ti (y := (nI (n1 + 1))) (nI_1 n1) ?_
          refine sm_size E hK hP hne hS1 d_M_append_42 (fun H2 locs2 hP2 hS2 => ?_)
          refine lv_iinc (k := 0) (v := (nI i) + (-1)) E.1 E.2.1 d_M_append_45 hl rfl rfl (by decide) rfl (fun ls hl => ?_)
          have hl : lv_has ls 5 [(4, .int ((nI i) + (-1))), (0, .ref b), (1, .long x), (3, .int (nI k))] := hl
          refine lv_goto (tgt := 5) E.1 E.2.1 d_M_append_48 (by decide) ?_
          rw [← Int32.sub_eq_add_neg] at hl
          refine ih _ (n1 + 1) H2 locs2 ls (by omega) (by omega) ?_ (by omega) hP2 hS2 hl
          rw [xa_succ]
          exact hβ
        · skip
          refine xl_lc_ne (tgt := 33) E.1 E.2.1 d_M_append_25 d_M_append_26 (by decide) (fun h2 => ?_) (fun h2 => ?_)
          · skip
            refine lv_iconst (v := 0) E.1 E.2.1 d_M_append_33 (by decide) ?_
            refine hj _ ?_
            cases hb : xb x i
            · rfl
            · rw [hb] at h2
              exact absurd rfl h2
          · skip
            refine lv_iconst (v := 1) E.1 E.2.1 d_M_append_29 (by decide) ?_
            refine lv_goto (tgt := 34) E.1 E.2.1 d_M_append_30 (by decide) ?_
            refine hj _ ?_
            cases hb : xb x i
            · rw [hb] at h2
              exact absurd h2 (by decide)
            · rfl
  refine xl_entry _ (Nat.le_of_ble_eq_true rfl) (fun ls hl => ?_)
  have hl : lv_has ls 5 [(0, .ref b), (1, .long x), (3, .int (nI k))] := hl
  refine lv_iload_n E.1 E.2.1 d_M_append_0 rfl (lv_at hl 2 rfl) ?_
  refine lv_iconst (v := 1) E.1 E.2.1 d_M_append_1 (by decide) ?_
  refine lv_isub E.1 E.2.1 d_M_append_2 ?_
  refine lv_istore E.1 E.2.1 d_M_append_3 hl (by decide) rfl (fun ls hl => ?_)
  have hl : lv_has ls 5 [(4, .int ((nI k) - 1)), (0, .ref b), (1, .long x), (3, .int (nI k))] := hl
  exact key k β n s.heap [] ls hk64 hn rfl rfl hP hS hl
end XL21

