/-! The reference: the calls that move. -/
section XL24
set_option maxHeartbeats 4000000 in
set_option maxRecDepth 100000 in
theorem m_go (l : Launch) (D : va_G) (b r : Nat) (cJ cZ : ClassId) (β : Nat → Bool) (n q : Nat) (fa : Int32) (rd : Nat) (gd : Bool) (hn : n ≤ 65536) (hq : q ≤ n) (hne : b ≠ r) (k : Int32) : xM l y_M_go w_M_go (xrm 2) [.ref b, .int k] (wM D b r cJ cZ β n q fa rd gd) (xA2 b r) (xMi (sp_go (β, n, q) k) D b r cZ) (fun _ _ _ => False) := by
  refine xM.of (by decide) ?_
  intro p e s m args below meth c hav E hr hk hh hnm hwM
  subst hav
  obtain ⟨hP, hK⟩ := hwM
  have hS : va_S (xA2 b r) s.heap s.heap [] := va_S.rf
  refine xl_entry _ (Nat.le_of_ble_eq_true rfl) (fun ls hl => ?_)
  have hl : lv_has ls 3 [(0, .ref b), (1, .int k)] := hl
  refine lv_aload_n E.1 E.2.1 d_M_go_0 rfl (lv_at hl 0 rfl) ?_
  refine lv_iconst (v := 0) E.1 E.2.1 d_M_go_1 (by decide) ?_
  refine sm_failed E hK hP hne hS d_M_go_2 (fun H1 locs1 hP1 hS1 => ?_)
  clear hP hS
  have hP := hP1
  refine xl_join (fun _ : Unit => k < 0 ∨ nI n < k) (fun _ => F0 m 17 ls []) (fun _ hkk => ?_) (fun hj => ?_)
  · skip
    have hsp : sp_go (β, n, q) k = (1, 0, (β, n, q)) := by
      unfold sp_go
      rw [if_pos hkk]
    refine lv_aload_n E.1 E.2.1 d_M_go_17 rfl (lv_at hl 0 rfl) ?_
    refine lv_iconst (v := 1) E.1 E.2.1 d_M_go_18 (by decide) ?_
    refine xg_goes (xc_V E xGT (m_fail l D b r cJ cZ β n q 0 rd gd hne 1) vw_M_fail (by decide) (wM.call hP hK) (PM.recv hP hK) rfl hl.1 rfl (Nat.le_of_ble_eq_true rfl) d_M_go_19) hS1 (fun q _ h => h) (fun q h => h) (fun v st t locs1 h0 hal hrt hS2 hz hkp => ?_) (fun x st t locs1 h0 hal hth => hth.elim)
    obtain ⟨rfl, hP2⟩ := hrt
    refine W.eq (g2 := F0 m 22 ls [.int 0]) rfl ?_
    generalize t.heap = H2 at hP2 hS2 hz hkp ⊢
    exact xr_iret E hr hk hS2 (fun t ht _ => xMi.mk hsp (fun z => absurd z (by decide)) (by rw [ht]; exact hP2)) d_M_go_22
  · skip
    refine lv_iload_n E.1 E.2.1 d_M_go_5 rfl (lv_at hl 1 rfl) ?_
    refine lv_if_lt (tgt := 17) E.1 E.2.1 d_M_go_6 (by decide) (fun h1 => ?_) (fun h1 => ?_)
    · skip
      exact hj () (Or.inl h1)
    · skip
      refine lv_iload_n E.1 E.2.1 d_M_go_9 rfl (lv_at hl 1 rfl) ?_
      refine lv_aload_n E.1 E.2.1 d_M_go_10 rfl (lv_at hl 0 rfl) ?_
      refine gm_size E hK hP d_M_go_11 ?_
      refine lv_icmp_le (tgt := 23) E.1 E.2.1 d_M_go_14 (by decide) (fun h2 => ?_) (fun h2 => ?_)
      · skip
        obtain ⟨j, hjb, hkj⟩ := nI_of h1
        have hcl := xcl64 hkj hjb
        have hsp : sp_go (β, n, q) k = (0, lN q, (β, n, j)) := by
          unfold sp_go
          rw [if_neg (fun z => z.elim h1 (xi_nlt.mpr h2)), hcl]
        refine lv_aload_n E.1 E.2.1 d_M_go_23 rfl (lv_at hl 0 rfl) ?_
        refine gm_place E hK hP d_M_go_24 ?_
        refine lv_istore_n E.1 E.2.1 d_M_go_27 rfl hl (by decide) rfl (fun ls hl => ?_)
        have hl : lv_has ls 3 [(2, .int (nI q)), (0, .ref b), (1, .int k)] := hl
        refine lv_aload_n E.1 E.2.1 d_M_go_28 rfl (lv_at hl 1 rfl) ?_
        refine lv_iload_n E.1 E.2.1 d_M_go_29 rfl (lv_at hl 2 rfl) ?_
        refine xl_ti (y := (nI j)) (hkj) ?_
        refine sm_place E hK hP hne hS1 d_M_go_30 (fun H2 locs2 hP2 hS2 => ?_)
        refine lv_iload_n E.1 E.2.1 d_M_go_33 rfl (lv_at hl 0 rfl) ?_
        exact xr_iret E hr hk hS2 (fun t ht _ => xMi.mk hsp (fun _ => nI_l (by omega)) (by rw [ht]; exact hP2)) d_M_go_34
      · skip
        exact hj () (Or.inr (xi_nle.mp h2))
set_option maxHeartbeats 4000000 in
set_option maxRecDepth 100000 in
theorem m_cut (l : Launch) (D : va_G) (b r : Nat) (cJ cZ : ClassId) (β : Nat → Bool) (n q : Nat) (fa : Int32) (rd : Nat) (gd : Bool) (hn : n ≤ 65536) (hq : q ≤ n) (hne : b ≠ r) (k : Int32) : xM l y_M_cut w_M_cut (xrm 2) [.ref b, .int k] (wM D b r cJ cZ β n q fa rd gd) (xA2 b r) (xMi (sp_cut (β, n, q) k) D b r cZ) (fun _ _ _ => False) := by
  refine xM.of (by decide) ?_
  intro p e s m args below meth c hav E hr hk hh hnm hwM
  subst hav
  obtain ⟨hP, hK⟩ := hwM
  have hS : va_S (xA2 b r) s.heap s.heap [] := va_S.rf
  refine xl_entry _ (Nat.le_of_ble_eq_true rfl) (fun ls hl => ?_)
  have hl : lv_has ls 3 [(0, .ref b), (1, .int k)] := hl
  refine lv_aload_n E.1 E.2.1 d_M_cut_0 rfl (lv_at hl 0 rfl) ?_
  refine lv_iconst (v := 0) E.1 E.2.1 d_M_cut_1 (by decide) ?_
  refine sm_failed E hK hP hne hS d_M_cut_2 (fun H1 locs1 hP1 hS1 => ?_)
  clear hP hS
  have hP := hP1
  refine xl_join (fun _ : Unit => k < 0 ∨ nI n < k) (fun _ => F0 m 17 ls []) (fun _ hkk => ?_) (fun hj => ?_)
  · skip
    have hsp : sp_cut (β, n, q) k = (1, 0, (β, n, q)) := by
      unfold sp_cut
      rw [if_pos hkk]
    refine lv_aload_n E.1 E.2.1 d_M_cut_17 rfl (lv_at hl 0 rfl) ?_
    refine lv_iconst (v := 1) E.1 E.2.1 d_M_cut_18 (by decide) ?_
    refine xg_goes (xc_V E xGT (m_fail l D b r cJ cZ β n q 0 rd gd hne 1) vw_M_fail (by decide) (wM.call hP hK) (PM.recv hP hK) rfl hl.1 rfl (Nat.le_of_ble_eq_true rfl) d_M_cut_19) hS1 (fun q _ h => h) (fun q h => h) (fun v st t locs1 h0 hal hrt hS2 hz hkp => ?_) (fun x st t locs1 h0 hal hth => hth.elim)
    obtain ⟨rfl, hP2⟩ := hrt
    refine W.eq (g2 := F0 m 22 ls [.int 0]) rfl ?_
    generalize t.heap = H2 at hP2 hS2 hz hkp ⊢
    exact xr_iret E hr hk hS2 (fun t ht _ => xMi.mk hsp (fun z => absurd z (by decide)) (by rw [ht]; exact hP2)) d_M_cut_22
  · skip
    refine lv_iload_n E.1 E.2.1 d_M_cut_5 rfl (lv_at hl 1 rfl) ?_
    refine lv_if_lt (tgt := 17) E.1 E.2.1 d_M_cut_6 (by decide) (fun h1 => ?_) (fun h1 => ?_)
    · skip
      exact hj () (Or.inl h1)
    · skip
      refine lv_iload_n E.1 E.2.1 d_M_cut_9 rfl (lv_at hl 1 rfl) ?_
      refine lv_aload_n E.1 E.2.1 d_M_cut_10 rfl (lv_at hl 0 rfl) ?_
      refine gm_size E hK hP d_M_cut_11 ?_
      refine lv_icmp_le (tgt := 23) E.1 E.2.1 d_M_cut_14 (by decide) (fun h2 => ?_) (fun h2 => ?_)
      · skip
        obtain ⟨j, hjb, hkj⟩ := nI_of h1
        have hcl := xcl64 hkj hjb
        have hsp : sp_cut (β, n, q) k = (0, lN n, (β, j, min q j)) := by
          unfold sp_cut
          rw [if_neg (fun z => z.elim h1 (xi_nlt.mpr h2)), hcl]
        refine lv_aload_n E.1 E.2.1 d_M_cut_23 rfl (lv_at hl 0 rfl) ?_
        refine gm_size E hK hP d_M_cut_24 ?_
        refine lv_istore_n E.1 E.2.1 d_M_cut_27 rfl hl (by decide) rfl (fun ls hl => ?_)
        have hl : lv_has ls 3 [(2, .int (nI n)), (0, .ref b), (1, .int k)] := hl
        refine lv_aload_n E.1 E.2.1 d_M_cut_28 rfl (lv_at hl 1 rfl) ?_
        refine lv_iload_n E.1 E.2.1 d_M_cut_29 rfl (lv_at hl 2 rfl) ?_
        refine xl_ti (y := (nI j)) (hkj) ?_
        refine sm_size E hK hP hne hS1 d_M_cut_30 (fun H2 locs2 hP2 hS2 => ?_)
        clear hP
        have hP := hP2
        refine lv_aload_n E.1 E.2.1 d_M_cut_33 rfl (lv_at hl 1 rfl) ?_
        refine lv_aload_n E.1 E.2.1 d_M_cut_34 rfl (lv_at hl 1 rfl) ?_
        refine gm_place E hK hP d_M_cut_35 ?_
        refine lv_iload_n E.1 E.2.1 d_M_cut_38 rfl (lv_at hl 2 rfl) ?_
        refine xl_ti (y := (nI j)) (hkj) ?_
        refine va_mmin E.1 E.2.1 (by rw [E.2.2.1, hl.1]) E.2.2.2.1 (E.2.2.2.2 _ ml_M_min) (E.2.2.2.2 _ ml_min_static) (E.2.2.2.2 _ ml_Math_init) (E.2.2.2.2 _ ml_min_code) (by decide) (Nat.le_of_ble_eq_true rfl) (by decide) (by decide) d_M_cut_39 ?_
        refine xl_ti (y := (nI (min q j))) (xmin (by omega) hjb) ?_
        refine sm_place E hK hP hne hS2 d_M_cut_42 (fun H3 locs3 hP3 hS3 => ?_)
        refine lv_iload_n E.1 E.2.1 d_M_cut_45 rfl (lv_at hl 0 rfl) ?_
        exact xr_iret E hr hk hS3 (fun t ht _ => xMi.mk hsp (fun _ => nI_l (by omega)) (by rw [ht]; exact hP3)) d_M_cut_46
      · skip
        exact hj () (Or.inr (xi_nle.mp h2))
set_option maxHeartbeats 4000000 in
set_option maxRecDepth 100000 in
theorem m_count (l : Launch) (D : va_G) (b r : Nat) (cJ cZ : ClassId) (β : Nat → Bool) (n q : Nat) (fa : Int32) (rd : Nat) (gd : Bool) (hn : n ≤ 65536) (hq : q ≤ n) (hne : b ≠ r) (k : Int32) : xM l y_M_count w_M_count (xrm 2) [.ref b, .int k] (wM D b r cJ cZ β n q fa rd gd) (xA2 b r) (xMi (sp_count (β, n, q) k) D b r cZ) (fun _ _ _ => False) := by
  refine xM.of (by decide) ?_
  intro p e s m args below meth c hav E hr hk hh hnm hwM
  subst hav
  obtain ⟨hP, hK⟩ := hwM
  have hS : va_S (xA2 b r) s.heap s.heap [] := va_S.rf
  refine xl_entry _ (Nat.le_of_ble_eq_true rfl) (fun ls hl => ?_)
  have hl : lv_has ls 2 [(0, .ref b), (1, .int k)] := hl
  refine lv_aload_n E.1 E.2.1 d_M_count_0 rfl (lv_at hl 0 rfl) ?_
  refine lv_iconst (v := 0) E.1 E.2.1 d_M_count_1 (by decide) ?_
  refine sm_failed E hK hP hne hS d_M_count_2 (fun H1 locs1 hP1 hS1 => ?_)
  clear hP hS
  have hP := hP1
  refine lv_iload_n E.1 E.2.1 d_M_count_5 rfl (lv_at hl 1 rfl) ?_
  refine lv_if_ne (tgt := 16) E.1 E.2.1 d_M_count_6 (by decide) (fun h1 => ?_) (fun h1 => ?_)
  · skip
    refine lv_iload_n E.1 E.2.1 d_M_count_16 rfl (lv_at hl 1 rfl) ?_
    refine lv_iconst (v := 1) E.1 E.2.1 d_M_count_17 (by decide) ?_
    refine lv_icmp_ne (tgt := 28) E.1 E.2.1 d_M_count_18 (by decide) (fun h2 => ?_) (fun h2 => ?_)
    · skip
      have hsp : sp_count (β, n, q) k = (1, 0, (β, n, q)) := by
        unfold sp_count
        rw [if_neg h1, if_neg h2]
      refine lv_aload_n E.1 E.2.1 d_M_count_28 rfl (lv_at hl 0 rfl) ?_
      refine lv_iconst (v := 1) E.1 E.2.1 d_M_count_29 (by decide) ?_
      refine xg_goes (xc_V E xGT (m_fail l D b r cJ cZ β n q 0 rd gd hne 1) vw_M_fail (by decide) (wM.call hP hK) (PM.recv hP hK) rfl hl.1 rfl (Nat.le_of_ble_eq_true rfl) d_M_count_30) hS1 (fun q _ h => h) (fun q h => h) (fun v st t locs1 h0 hal hrt hS2 hz hkp => ?_) (fun x st t locs1 h0 hal hth => hth.elim)
      obtain ⟨rfl, hP2⟩ := hrt
      refine W.eq (g2 := F0 m 33 ls [.int 0]) rfl ?_
      generalize t.heap = H2 at hP2 hS2 hz hkp ⊢
      exact xr_iret E hr hk hS2 (fun t ht _ => xMi.mk hsp (fun z => absurd z (by decide)) (by rw [ht]; exact hP2)) d_M_count_33
    · skip
      have hsp : sp_count (β, n, q) k = (0, lN q, (β, n, q)) := by
        unfold sp_count
        rw [if_neg h1, if_pos h2]
      refine lv_aload_n E.1 E.2.1 d_M_count_21 rfl (lv_at hl 0 rfl) ?_
      refine gm_place E hK hP d_M_count_22 ?_
      refine lv_goto (tgt := 33) E.1 E.2.1 d_M_count_25 (by decide) ?_
      exact xr_iret E hr hk hS1 (fun t ht _ => xMi.mk hsp (fun _ => nI_l (by omega)) (by rw [ht]; exact hP)) d_M_count_33
  · skip
    have hsp : sp_count (β, n, q) k = (0, lN n, (β, n, q)) := by
      unfold sp_count
      rw [if_pos h1]
    refine lv_aload_n E.1 E.2.1 d_M_count_9 rfl (lv_at hl 0 rfl) ?_
    refine gm_size E hK hP d_M_count_10 ?_
    refine lv_goto (tgt := 33) E.1 E.2.1 d_M_count_13 (by decide) ?_
    exact xr_iret E hr hk hS1 (fun t ht _ => xMi.mk hsp (fun _ => nI_l (by omega)) (by rw [ht]; exact hP)) d_M_count_33
set_option maxHeartbeats 4000000 in
set_option maxRecDepth 100000 in
theorem m_turn (l : Launch) (D : va_G) (b r : Nat) (cJ cZ : ClassId) (β : Nat → Bool) (n q : Nat) (fa : Int32) (rd : Nat) (gd : Bool) (hn : n ≤ 65536) (hq : q ≤ n) (hne : b ≠ r) (k : Int32) : xM l y_M_turn w_M_turn (xrm 2) [.ref b, .int k] (wM D b r cJ cZ β n q fa rd gd) (xA2 b r) (xMi (sp_turn (β, n, q) k) D b r cZ) (fun _ _ _ => False) := by
  refine xM.of (by decide) ?_
  intro p e s m args below meth c hav E hr hk hh hnm hwM
  subst hav
  obtain ⟨hP, hK⟩ := hwM
  have hS : va_S (xA2 b r) s.heap s.heap [] := va_S.rf
  refine xl_entry _ (Nat.le_of_ble_eq_true rfl) (fun ls hl => ?_)
  have hl : lv_has ls 2 [(0, .ref b), (1, .int k)] := hl
  refine lv_aload_n E.1 E.2.1 d_M_turn_0 rfl (lv_at hl 0 rfl) ?_
  refine lv_iconst (v := 0) E.1 E.2.1 d_M_turn_1 (by decide) ?_
  refine sm_failed E hK hP hne hS d_M_turn_2 (fun H1 locs1 hP1 hS1 => ?_)
  clear hP hS
  have hP := hP1
  refine xl_join (fun _ : Unit => k < 0 ∨ nI n ≤ k) (fun _ => F0 m 17 ls []) (fun _ hkk => ?_) (fun hj => ?_)
  · skip
    have hsp : sp_turn (β, n, q) k = (1, 0, (β, n, q)) := by
      unfold sp_turn
      rw [if_pos hkk]
    refine lv_aload_n E.1 E.2.1 d_M_turn_17 rfl (lv_at hl 0 rfl) ?_
    refine lv_iconst (v := 1) E.1 E.2.1 d_M_turn_18 (by decide) ?_
    refine xg_goes (xc_V E xGT (m_fail l D b r cJ cZ β n q 0 rd gd hne 1) vw_M_fail (by decide) (wM.call hP hK) (PM.recv hP hK) rfl hl.1 rfl (Nat.le_of_ble_eq_true rfl) d_M_turn_19) hS1 (fun q _ h => h) (fun q h => h) (fun v st t locs1 h0 hal hrt hS2 hz hkp => ?_) (fun x st t locs1 h0 hal hth => hth.elim)
    obtain ⟨rfl, hP2⟩ := hrt
    refine W.eq (g2 := F0 m 22 ls [.int 0]) rfl ?_
    generalize t.heap = H2 at hP2 hS2 hz hkp ⊢
    refine lv_if_le (tgt := 29) E.1 E.2.1 d_M_turn_22 (by decide) (fun h3 => ?_) (fun h3 => ?_)
    · skip
      refine lv_iconst (v := 0) E.1 E.2.1 d_M_turn_29 (by decide) ?_
      exact xr_zret E hr hk (by decide) hS2 (fun t ht _ => xMi.mk hsp (fun z => absurd z (by decide)) (by rw [ht]; exact hP2)) d_M_turn_30
    · skip
      exact absurd (by decide) h3
  · skip
    refine lv_iload_n E.1 E.2.1 d_M_turn_5 rfl (lv_at hl 1 rfl) ?_
    refine lv_if_lt (tgt := 17) E.1 E.2.1 d_M_turn_6 (by decide) (fun h1 => ?_) (fun h1 => ?_)
    · skip
      exact hj () (Or.inl h1)
    · skip
      refine lv_iload_n E.1 E.2.1 d_M_turn_9 rfl (lv_at hl 1 rfl) ?_
      refine lv_aload_n E.1 E.2.1 d_M_turn_10 rfl (lv_at hl 0 rfl) ?_
      refine gm_size E hK hP d_M_turn_11 ?_
      refine lv_icmp_lt (tgt := 31) E.1 E.2.1 d_M_turn_14 (by decide) (fun h2 => ?_) (fun h2 => ?_)
      · skip
        obtain ⟨j, hjb, rfl⟩ := nI_of h1
        have hjn : j < n := (nI_ltI hjb (by omega)).mp h2
        have hsp : sp_turn (β, n, q) (nI j) = (0, lN (!β j).toNat, (va_up β j (!β j), n, q)) := by
          unfold sp_turn
          rw [if_neg (fun z => z.elim h1 (xi_nle.mpr h2)), nI_clamp hjb]
        refine lv_aload_n E.1 E.2.1 d_M_turn_31 rfl (lv_at hl 0 rfl) ?_
        refine gm_row E hK hP d_M_turn_32 ?_
        refine lv_iload_n E.1 E.2.1 d_M_turn_35 rfl (lv_at hl 1 rfl) ?_
        refine lv_aload_n E.1 E.2.1 d_M_turn_36 rfl (lv_at hl 0 rfl) ?_
        refine gm_row E hK hP d_M_turn_37 ?_
        refine lv_iload_n E.1 E.2.1 d_M_turn_40 rfl (lv_at hl 1 rfl) ?_
        refine va_zald E.1 E.2.1 hK hP 1 1 rfl rfl (vp_in_nI (by omega) (by decide)) d_M_turn_41 ?_
        refine xl_ti (y := (nI (β j).toNat)) (by rw [nI_clamp hjb]; exact xz_n β j) ?_
        refine xl_join (fun z : Int32 => z = nI (!β j).toNat) (fun z => F0 m 50 ls [.int z, .int (nI j), .ref r]) (fun z hz => ?_) (fun hj => ?_)
        · subst hz
          refine va_zast E.1 E.2.1 hK hP (xD2 hne) hS1 1 1 rfl rfl (vp_in_nI (by omega) (by decide)) d_M_turn_50 (fun H2 locs2 hP2 _ hS2 => ?_)
          have hP2 : va_P D xcl [(b, .inr (1, [.int 0, .ref r, .int (nI n), .int (nI q), .int (nI rd), .int (nI gd.toNat)])), (r, .inl (cZ, 65536, .inl (upd (xz β) (nI j).toNatClampNeg (vp_nar .boolean (nI (!β j).toNat)))))] H2 := hP2
          rw [nI_clamp hjb, xz_up] at hP2
          clear hP
          have hP : PM D b r cZ (va_up β j (!β j)) n q 0 rd gd H2 := hP2
          refine lv_aload_n E.1 E.2.1 d_M_turn_51 rfl (lv_at hl 0 rfl) ?_
          refine gm_row E hK hP d_M_turn_52 ?_
          refine lv_iload_n E.1 E.2.1 d_M_turn_55 rfl (lv_at hl 1 rfl) ?_
          refine va_zald E.1 E.2.1 hK hP 1 1 rfl rfl (vp_in_nI (by omega) (by decide)) d_M_turn_56 ?_
          refine xl_ti (y := (nI (!β j).toNat)) (by rw [nI_clamp hjb, xz_n]; unfold va_up; rw [if_pos rfl]) ?_
          exact xr_zret E hr hk (by cases β j <;> decide) hS2 (fun t ht _ => xMi.mk hsp (fun _ => by cases β j <;> decide) (by rw [ht]; exact hP)) d_M_turn_57
        · skip
          refine lv_if_ne (tgt := 49) E.1 E.2.1 d_M_turn_42 (by decide) (fun h3 => ?_) (fun h3 => ?_)
          · skip
            refine lv_iconst (v := 0) E.1 E.2.1 d_M_turn_49 (by decide) ?_
            refine hj _ ?_
            cases hb : β j
            · rw [hb] at h3
              exact absurd rfl h3
            · rfl
          · skip
            refine lv_iconst (v := 1) E.1 E.2.1 d_M_turn_45 (by decide) ?_
            refine lv_goto (tgt := 50) E.1 E.2.1 d_M_turn_46 (by decide) ?_
            refine hj _ ?_
            cases hb : β j
            · rfl
            · rw [hb] at h3
              exact absurd h3 (by decide)
      · skip
        exact hj () (Or.inr (xi_nlt.mp h2))
end XL24

