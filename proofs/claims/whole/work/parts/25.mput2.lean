/-! The reference: a length and a number written. -/
section XL25
set_option maxHeartbeats 4000000 in
set_option maxRecDepth 100000 in
theorem m_putLength (l : Launch) (D : va_G) (b r : Nat) (cJ cZ : ClassId) (β : Nat → Bool) (n q : Nat) (fa : Int32) (rd : Nat) (gd : Bool) (hn : n ≤ 65536) (hne : b ≠ r) (k : Int32) : xM l y_M_putLength w_M_putLength (xrm 2) [.ref b, .int k] (wM D b r cJ cZ β n q fa rd gd) (xA2 b r) (xMi (sp_putLength (β, n, q) k) D b r cZ) (fun _ _ _ => False) := by
  refine xM.of (by decide) ?_
  intro p e s m args below meth c hav E hr hk hh hnm hwM
  subst hav
  obtain ⟨hP, hK⟩ := hwM
  have hS : va_S (xA2 b r) s.heap s.heap [] := va_S.rf
  refine xl_entry _ (Nat.le_of_ble_eq_true rfl) (fun ls hl => ?_)
  have hl : lv_has ls 4 [(0, .ref b), (1, .int k)] := hl
  refine lv_aload_n E.1 E.2.1 d_M_putLength_0 rfl (lv_at hl 0 rfl) ?_
  refine lv_iconst (v := 0) E.1 E.2.1 d_M_putLength_1 (by decide) ?_
  refine sm_failed E hK hP hne hS d_M_putLength_2 (fun H1 locs1 hP1 hS1 => ?_)
  clear hP hS
  have hP := hP1
  refine lv_iload_n E.1 E.2.1 d_M_putLength_5 rfl (lv_at hl 1 rfl) ?_
  refine lv_if_ge (tgt := 15) E.1 E.2.1 d_M_putLength_6 (by decide) (fun h1 => ?_) (fun h1 => ?_)
  · skip
    have h1' : ¬ k < 0 := xi_nlt.mpr h1
    obtain ⟨j, hj, rfl⟩ := nI_of h1'
    have hcl := nI_clamp hj
    have ht0 : xtold j ≤ 65536 := by
      unfold xtold
      split <;> omega
    have hsp : sp_putLength (β, n, q) (nI j) = if 65536 < n + xlw (xtold j) then (2, 0, (β, n, q)) else (0, lN (xtold j), (xa β n (lN (xlc (xtold j))) (xlw (xtold j)), n + xlw (xtold j), q)) := by
      unfold sp_putLength
      rw [if_neg h1', hcl]
    have tail : ∀ (H : Heap) (locs : List Loc) (ls : Array Slot) (i : Int32) (x : Int64) (w : Nat), x = lN (xlc (xtold j)) → w = xlw (xtold j) → PM D b r cZ (sp_write (β, n, q) x w 2).2.2.1 (sp_write (β, n, q) x w 2).2.2.2.1 (sp_write (β, n, q) x w 2).2.2.2.2 (nI (sp_write (β, n, q) x w 2).1) rd gd H → va_S (xA2 b r) s.heap H locs → lv_has ls 4 [(2, .int (nI (min 4 (j / 16384)))), (0, .ref b), (1, .int (nI j))] →
        W p l e (xrm 2) s m [Value.ref b, .int (nI j)].toArray below meth c H locs 0 0 (xl_MQ below (xl_Q (xA2 b r) (xMi (sp_putLength (β, n, q) (nI j)) D b r cZ) (fun _ _ _ => False)) [Value.ref b, .int (nI j)].toArray s (xl_k 0 1) (xl_k 0 6) (xA2 b r)) (F0 m 80 ls [.int i]) := by
      intro H locs ls i x w hx hw hP hS hl
      subst hx
      subst hw
      by_cases hroom : 65536 < n + xlw (xtold j)
      · rw [if_pos hroom] at hsp
        have hw : sp_write (β, n, q) (lN (xlc (xtold j))) (xlw (xtold j)) 2 = (2, 0, (β, n, q)) := by
          unfold sp_write
          rw [if_pos hroom]
        rw [hw] at hP
        have hP : PM D b r cZ β n q (nI 2) rd gd H := hP
        refine lv_istore_n E.1 E.2.1 d_M_putLength_80 rfl hl (by decide) rfl (fun ls hl => ?_)
        have hl : lv_has ls 4 [(3, .int i), (2, .int (nI (min 4 (j / 16384)))), (0, .ref b), (1, .int (nI j))] := hl
        refine lv_aload_n E.1 E.2.1 d_M_putLength_81 rfl (lv_at hl 2 rfl) ?_
        refine gm_failed E hK hP d_M_putLength_82 ?_
        refine lv_if_le (tgt := 92) E.1 E.2.1 d_M_putLength_85 (by decide) (fun h2 => ?_) (fun h2 => ?_)
        · skip
          exact absurd h2 (by decide)
        · skip
          refine lv_iconst (v := 0) E.1 E.2.1 d_M_putLength_88 (by decide) ?_
          refine lv_goto (tgt := 108) E.1 E.2.1 d_M_putLength_89 (by decide) ?_
          exact xr_iret E hr hk hS (fun t ht _ => xMi.mk hsp (fun z => absurd z (by decide)) (by rw [ht]; exact hP)) d_M_putLength_108
      · rw [if_neg hroom] at hsp
        have hw : sp_write (β, n, q) (lN (xlc (xtold j))) (xlw (xtold j)) 2 = (0, lN (n + xlw (xtold j)), (xa β n (lN (xlc (xtold j))) (xlw (xtold j)), n + xlw (xtold j), q)) := by
          unfold sp_write
          rw [if_neg hroom]
        rw [hw] at hP
        have hP : PM D b r cZ (xa β n (lN (xlc (xtold j))) (xlw (xtold j))) (n + xlw (xtold j)) q (nI 0) rd gd H := hP
        refine lv_istore_n E.1 E.2.1 d_M_putLength_80 rfl hl (by decide) rfl (fun ls hl => ?_)
        have hl : lv_has ls 4 [(3, .int i), (2, .int (nI (min 4 (j / 16384)))), (0, .ref b), (1, .int (nI j))] := hl
        refine lv_aload_n E.1 E.2.1 d_M_putLength_81 rfl (lv_at hl 2 rfl) ?_
        refine gm_failed E hK hP d_M_putLength_82 ?_
        refine lv_if_le (tgt := 92) E.1 E.2.1 d_M_putLength_85 (by decide) (fun h2 => ?_) (fun h2 => ?_)
        · skip
          refine lv_iload_n E.1 E.2.1 d_M_putLength_92 rfl (lv_at hl 3 rfl) ?_
          refine lv_sipush (v := 16384) E.1 E.2.1 d_M_putLength_93 (by decide) ?_
          refine lv_icmp_ge (tgt := 103) E.1 E.2.1 d_M_putLength_96 (by decide) (fun h3 => ?_) (fun h3 => ?_)
          · skip
            have h3 : 16384 ≤ j := (nI_leI (a := 16384) (by decide) hj).mp h3
            have hT : xtold j = 16384 * min 4 (j / 16384) := by
              unfold xtold
              rw [if_neg (by omega)]
            refine lv_sipush (v := 16384) E.1 E.2.1 d_M_putLength_103 (by decide) ?_
            refine lv_iload_n E.1 E.2.1 d_M_putLength_106 rfl (lv_at hl 1 rfl) ?_
            refine lv_imul E.1 E.2.1 d_M_putLength_107 ?_
            refine xl_ti (y := (nI (xtold j))) (by rw [hT]; exact pk_mul 16384 _) ?_
            exact xr_iret E hr hk hS (fun t ht _ => xMi.mk hsp (fun _ => nI_l (by omega)) (by rw [ht]; exact hP)) d_M_putLength_108
          · skip
            have h3 : ¬ 16384 ≤ j := fun z => h3 ((nI_leI (a := 16384) (by decide) hj).mpr z)
            have hT : xtold j = j := by
              unfold xtold
              rw [if_pos (by omega)]
            refine lv_iload_n E.1 E.2.1 d_M_putLength_99 rfl (lv_at hl 3 rfl) ?_
            refine lv_goto (tgt := 108) E.1 E.2.1 d_M_putLength_100 (by decide) ?_
            refine xl_ti (y := (nI (xtold j))) (by rw [hT]) ?_
            exact xr_iret E hr hk hS (fun t ht _ => xMi.mk hsp (fun _ => nI_l (by omega)) (by rw [ht]; exact hP)) d_M_putLength_108
        · skip
          exact absurd (by decide) h2
    refine lv_iconst (v := 4) E.1 E.2.1 d_M_putLength_15 (by decide) ?_
    refine lv_iload_n E.1 E.2.1 d_M_putLength_16 rfl (lv_at hl 1 rfl) ?_
    refine lv_sipush (v := 16384) E.1 E.2.1 d_M_putLength_17 (by decide) ?_
    refine lv_idiv E.1 E.2.1 d_M_putLength_20 (by decide) ?_
    refine xl_ti (y := (nI (j / 16384))) (pk_div hj (by decide) (by decide)) ?_
    refine va_mmin E.1 E.2.1 (by rw [E.2.2.1, hl.1]) E.2.2.2.1 (E.2.2.2.2 _ ml_M_min) (E.2.2.2.2 _ ml_min_static) (E.2.2.2.2 _ ml_Math_init) (E.2.2.2.2 _ ml_min_code) (by decide) (Nat.le_of_ble_eq_true rfl) (by decide) (by decide) d_M_putLength_21 ?_
    refine xl_ti (y := (nI (min 4 (j / 16384)))) (xmin (q := 4) (by decide) (Nat.lt_of_le_of_lt (Nat.div_le_self _ _) hj)) ?_
    refine lv_istore_n E.1 E.2.1 d_M_putLength_24 rfl hl (by decide) rfl (fun ls hl => ?_)
    have hl : lv_has ls 4 [(2, .int (nI (min 4 (j / 16384)))), (0, .ref b), (1, .int (nI j))] := hl
    refine lv_iload_n E.1 E.2.1 d_M_putLength_25 rfl (lv_at hl 2 rfl) ?_
    refine lv_sipush (v := 128) E.1 E.2.1 d_M_putLength_26 (by decide) ?_
    refine lv_icmp_ge (tgt := 44) E.1 E.2.1 d_M_putLength_29 (by decide) (fun h2 => ?_) (fun h2 => ?_)
    · skip
      have h2 : 128 ≤ j := (nI_leI (a := 128) (by decide) hj).mp h2
      refine lv_iload_n E.1 E.2.1 d_M_putLength_44 rfl (lv_at hl 2 rfl) ?_
      refine lv_sipush (v := 16384) E.1 E.2.1 d_M_putLength_45 (by decide) ?_
      refine lv_icmp_ge (tgt := 67) E.1 E.2.1 d_M_putLength_48 (by decide) (fun h3 => ?_) (fun h3 => ?_)
      · skip
        have h3 : 16384 ≤ j := (nI_leI (a := 16384) (by decide) hj).mp h3
        have hT : xtold j = 16384 * min 4 (j / 16384) := by
          unfold xtold
          rw [if_neg (by omega)]
        have hw : xlw (xtold j) = 8 := by
          unfold xlw
          rw [if_neg (by omega)]
        have hc : xlc (xtold j) = 192 + min 4 (j / 16384) := by
          unfold xlc
          rw [if_neg (by omega), if_neg (by omega), hT, Nat.mul_div_cancel_left _ (by decide)]
        refine lv_aload_n E.1 E.2.1 d_M_putLength_67 rfl (lv_at hl 1 rfl) ?_
        refine lv_ldc2 (v := 192) E.1 E.2.1 E.2.2.2.1 (E.2.2.2.2 _ co_M_47) d_M_putLength_68 ?_
        refine lv_iload_n E.1 E.2.1 d_M_putLength_71 rfl (lv_at hl 0 rfl) ?_
        refine lv_i2l (v := (nI (min 4 (j / 16384))).toInt64) E.1 E.2.1 d_M_putLength_72 rfl ?_
        refine lv_lor E.1 E.2.1 d_M_putLength_73 ?_
        refine xl_tl (y := (lN (192 + min 4 (j / 16384)))) (by rw [nI_l (by omega)]; show lN 192 ||| lN _ = _; rw [wb_or (by decide) (by omega), or_6 (by omega)]) ?_
        refine lv_bipush (v := 8) E.1 E.2.1 d_M_putLength_74 (by decide) ?_
        refine lv_iconst (v := 2) E.1 E.2.1 d_M_putLength_76 (by decide) ?_
        refine xg_goes (xc_V E xGT (m_write l D b r cJ cZ β n q rd gd 8 2 (lN (192 + min 4 (j / 16384))) hn (by decide) hne (by decide)) vw_M_write (by decide) (wM.call hP hK) (PM.recv hP hK) rfl hl.1 rfl (Nat.le_of_ble_eq_true rfl) d_M_putLength_77) hS1 (fun q _ h => h) (fun q h => h) (fun v st t locs1 h0 hal hrt hS2 hz hkp => ?_) (fun x st t locs1 h0 hal hth => hth.elim)
        obtain ⟨i, rfl, -, hP2⟩ := hrt
        refine W.eq (g2 := F0 m 80 ls [.int i]) rfl ?_
        generalize t.heap = H2 at hP2 hS2 hz hkp ⊢
        exact tail H2 _ ls i _ _ (by rw [hc]) hw.symm hP2 hS2 hl
      · skip
        have h3 : ¬ 16384 ≤ j := fun z => h3 ((nI_leI (a := 16384) (by decide) hj).mpr z)
        have hT : xtold j = j := by
          unfold xtold
          rw [if_pos (by omega)]
        have hw : xlw (xtold j) = 16 := by
          unfold xlw
          rw [if_pos (by omega)]
        have hc : xlc (xtold j) = 32768 + j := by
          unfold xlc
          rw [if_neg (by omega), if_pos (by omega), hT]
        refine lv_aload_n E.1 E.2.1 d_M_putLength_51 rfl (lv_at hl 1 rfl) ?_
        refine lv_ldc2 (v := 32768) E.1 E.2.1 E.2.2.2.1 (E.2.2.2.2 _ co_M_45) d_M_putLength_52 ?_
        refine lv_iload_n E.1 E.2.1 d_M_putLength_55 rfl (lv_at hl 2 rfl) ?_
        refine lv_i2l (v := (nI j).toInt64) E.1 E.2.1 d_M_putLength_56 rfl ?_
        refine lv_lor E.1 E.2.1 d_M_putLength_57 ?_
        refine xl_tl (y := (lN (32768 + j))) (by rw [nI_l (by omega)]; show lN 32768 ||| lN _ = _; rw [wb_or (by decide) (by omega), or_15 (by omega)]) ?_
        refine lv_bipush (v := 16) E.1 E.2.1 d_M_putLength_58 (by decide) ?_
        refine lv_iconst (v := 2) E.1 E.2.1 d_M_putLength_60 (by decide) ?_
        refine xg_goes (xc_V E xGT (m_write l D b r cJ cZ β n q rd gd 16 2 (lN (32768 + j)) hn (by decide) hne (by decide)) vw_M_write (by decide) (wM.call hP hK) (PM.recv hP hK) rfl hl.1 rfl (Nat.le_of_ble_eq_true rfl) d_M_putLength_61) hS1 (fun q _ h => h) (fun q h => h) (fun v st t locs1 h0 hal hrt hS2 hz hkp => ?_) (fun x st t locs1 h0 hal hth => hth.elim)
        obtain ⟨i, rfl, -, hP2⟩ := hrt
        refine W.eq (g2 := F0 m 64 ls [.int i]) rfl ?_
        generalize t.heap = H2 at hP2 hS2 hz hkp ⊢
        refine lv_goto (tgt := 80) E.1 E.2.1 d_M_putLength_64 (by decide) ?_
        exact tail H2 _ ls i _ _ (by rw [hc]) hw.symm hP2 hS2 hl
    · skip
      have h2 : ¬ 128 ≤ j := fun z => h2 ((nI_leI (a := 128) (by decide) hj).mpr z)
      have hT : xtold j = j := by
        unfold xtold
        rw [if_pos (by omega)]
      have hw : xlw (xtold j) = 8 := by
        unfold xlw
        rw [if_neg (by omega)]
      have hc : xlc (xtold j) = j := by
        unfold xlc
        rw [if_pos (by omega), hT]
      refine lv_aload_n E.1 E.2.1 d_M_putLength_32 rfl (lv_at hl 1 rfl) ?_
      refine lv_iload_n E.1 E.2.1 d_M_putLength_33 rfl (lv_at hl 2 rfl) ?_
      refine lv_i2l (v := (nI j).toInt64) E.1 E.2.1 d_M_putLength_34 rfl ?_
      refine xl_tl (y := (lN j)) (nI_l (by omega)) ?_
      refine lv_bipush (v := 8) E.1 E.2.1 d_M_putLength_35 (by decide) ?_
      refine lv_iconst (v := 2) E.1 E.2.1 d_M_putLength_37 (by decide) ?_
      refine xg_goes (xc_V E xGT (m_write l D b r cJ cZ β n q rd gd 8 2 (lN j) hn (by decide) hne (by decide)) vw_M_write (by decide) (wM.call hP hK) (PM.recv hP hK) rfl hl.1 rfl (Nat.le_of_ble_eq_true rfl) d_M_putLength_38) hS1 (fun q _ h => h) (fun q h => h) (fun v st t locs1 h0 hal hrt hS2 hz hkp => ?_) (fun x st t locs1 h0 hal hth => hth.elim)
      obtain ⟨i, rfl, -, hP2⟩ := hrt
      refine W.eq (g2 := F0 m 41 ls [.int i]) rfl ?_
      generalize t.heap = H2 at hP2 hS2 hz hkp ⊢
      refine lv_goto (tgt := 80) E.1 E.2.1 d_M_putLength_41 (by decide) ?_
      exact tail H2 _ ls i _ _ (by rw [hc]) hw.symm hP2 hS2 hl
  · skip
    have hsp : sp_putLength (β, n, q) k = (1, 0, (β, n, q)) := by
      unfold sp_putLength
      rw [if_pos (xi_nle.mp h1)]
    refine lv_aload_n E.1 E.2.1 d_M_putLength_9 rfl (lv_at hl 0 rfl) ?_
    refine lv_iconst (v := 1) E.1 E.2.1 d_M_putLength_10 (by decide) ?_
    refine xg_goes (xc_V E xGT (m_fail l D b r cJ cZ β n q 0 rd gd hne 1) vw_M_fail (by decide) (wM.call hP hK) (PM.recv hP hK) rfl hl.1 rfl (Nat.le_of_ble_eq_true rfl) d_M_putLength_11) hS1 (fun q _ h => h) (fun q h => h) (fun v st t locs1 h0 hal hrt hS2 hz hkp => ?_) (fun x st t locs1 h0 hal hth => hth.elim)
    obtain ⟨rfl, hP2⟩ := hrt
    refine W.eq (g2 := F0 m 14 ls [.int 0]) rfl ?_
    generalize t.heap = H2 at hP2 hS2 hz hkp ⊢
    exact xr_iret E hr hk hS2 (fun t ht _ => xMi.mk hsp (fun z => absurd z (by decide)) (by rw [ht]; exact hP2)) d_M_putLength_14
set_option maxHeartbeats 4000000 in
set_option maxRecDepth 100000 in
theorem m_putNumber (l : Launch) (D : va_G) (b r : Nat) (cJ cZ : ClassId) (β : Nat → Bool) (n q : Nat) (fa : Int32) (rd : Nat) (gd : Bool) (hn : n ≤ 65536) (hne : b ≠ r) (kind : Int32) (x : Int64) : xM l y_M_putNumber w_M_putNumber (xrm 2) [.ref b, .int kind, .long x] (wM D b r cJ cZ β n q fa rd gd) (xA2 b r) (xMi (sp_putNumber (β, n, q) kind x) D b r cZ) (fun _ _ _ => False) := by
  refine xM.of (by decide) ?_
  intro p e s m args below meth c hav E hr hk hh hnm hwM
  subst hav
  obtain ⟨hP, hK⟩ := hwM
  have hS : va_S (xA2 b r) s.heap s.heap [] := va_S.rf
  have hb1 := nb_1 kind x
  have hb8 := nb_8 kind x
  have ht1 := xt_1 kind
  have hwb := xnw_b kind x
  refine xl_entry _ (Nat.le_of_ble_eq_true rfl) (fun ls hl => ?_)
  have hl : lv_has ls 7 [(0, .ref b), (1, .int kind), (2, .long x)] := hl
  refine lv_aload_n E.1 E.2.1 d_M_putNumber_0 rfl (lv_at hl 0 rfl) ?_
  refine lv_iconst (v := 0) E.1 E.2.1 d_M_putNumber_1 (by decide) ?_
  refine sm_failed E hK hP hne hS d_M_putNumber_2 (fun H1 locs1 hP1 hS1 => ?_)
  clear hP hS
  have hP := hP1
  refine xl_join (fun _ : Unit => kind < 0 ∨ 2 < kind) (fun _ => F0 m 14 ls []) (fun _ hkk => ?_) (fun hj14 => ?_)
  · skip
    have hsp : sp_putNumber (β, n, q) kind x = (1, 0, (β, n, q)) := by
      unfold sp_putNumber
      rw [if_pos hkk]
    refine lv_aload_n E.1 E.2.1 d_M_putNumber_14 rfl (lv_at hl 0 rfl) ?_
    refine lv_iconst (v := 1) E.1 E.2.1 d_M_putNumber_15 (by decide) ?_
    refine xg_goes (xc_V E xGT (m_fail l D b r cJ cZ β n q 0 rd gd hne 1) vw_M_fail (by decide) (wM.call hP hK) (PM.recv hP hK) rfl hl.1 rfl (Nat.le_of_ble_eq_true rfl) d_M_putNumber_16) hS1 (fun q _ h => h) (fun q h => h) (fun v st t locs1 h0 hal hrt hS2 hz hkp => ?_) (fun x st t locs1 h0 hal hth => hth.elim)
    obtain ⟨rfl, hP2⟩ := hrt
    refine W.eq (g2 := F0 m 19 ls [.int 0]) rfl ?_
    generalize t.heap = H2 at hP2 hS2 hz hkp ⊢
    exact xr_iret E hr hk hS2 (fun t ht _ => xMi.mk hsp (fun z => absurd z (by decide)) (by rw [ht]; exact hP2)) d_M_putNumber_19
  · skip
    refine lv_iload_n E.1 E.2.1 d_M_putNumber_5 rfl (lv_at hl 1 rfl) ?_
    refine lv_if_lt (tgt := 14) E.1 E.2.1 d_M_putNumber_6 (by decide) (fun h1 => ?_) (fun h1 => ?_)
    · skip
      exact hj14 () (Or.inl h1)
    · skip
      refine lv_iload_n E.1 E.2.1 d_M_putNumber_9 rfl (lv_at hl 1 rfl) ?_
      refine lv_iconst (v := 2) E.1 E.2.1 d_M_putNumber_10 (by decide) ?_
      refine lv_icmp_le (tgt := 20) E.1 E.2.1 d_M_putNumber_11 (by decide) (fun h2 => ?_) (fun h2 => ?_)
      · skip
        have hkk : ¬ (kind < 0 ∨ 2 < kind) := fun z => z.elim h1 (xi_nlt.mpr h2)
        refine xl_join (fun z : Int32 => z = if kind = 2 ∧ (0 ≤ x ∧ x < 64) then 1 else 0) (fun z => F0 m 44 ls [.int z]) (fun z hz => ?_) (fun hj44 => ?_)
        · subst hz
          refine lv_istore E.1 E.2.1 d_M_putNumber_44 hl (by decide) rfl (fun ls hl => ?_)
          have hl : lv_has ls 7 [(4, .int (if kind = 2 ∧ (0 ≤ x ∧ x < 64) then 1 else 0)), (0, .ref b), (1, .int kind), (2, .long x)] := hl
          refine lv_iload_n E.1 E.2.1 d_M_putNumber_46 rfl (lv_at hl 2 rfl) ?_
          refine lv_iconst (v := 1) E.1 E.2.1 d_M_putNumber_47 (by decide) ?_
          refine xl_join (fun z : Int32 => z = nI (nb kind x)) (fun z => F0 m 64 ls [.int z]) (fun z hz => ?_) (fun hj64 => ?_)
          · subst hz
            refine lv_istore E.1 E.2.1 d_M_putNumber_64 hl (by decide) rfl (fun ls hl => ?_)
            have hl : lv_has ls 7 [(5, .int (nI (nb kind x))), (4, .int (if kind = 2 ∧ (0 ≤ x ∧ x < 64) then 1 else 0)), (0, .ref b), (1, .int kind), (2, .long x)] := hl
            refine lv_iload E.1 E.2.1 d_M_putNumber_66 (lv_at hl 1 rfl) ?_
            refine xl_join (fun z : Int32 => z = nI (xnw kind x)) (fun z => F0 m 95 ls [.int z]) (fun z hz => ?_) (fun hj95 => ?_)
            · subst hz
              refine lv_istore E.1 E.2.1 d_M_putNumber_95 hl (by decide) rfl (fun ls hl => ?_)
              have hl : lv_has ls 7 [(6, .int (nI (xnw kind x))), (5, .int (nI (nb kind x))), (4, .int (if kind = 2 ∧ (0 ≤ x ∧ x < 64) then 1 else 0)), (0, .ref b), (1, .int kind), (2, .long x)] := hl
              refine lv_aload_n E.1 E.2.1 d_M_putNumber_97 rfl (lv_at hl 3 rfl) ?_
              refine gm_size E hK hP d_M_putNumber_98 ?_
              refine lv_iload E.1 E.2.1 d_M_putNumber_101 (lv_at hl 0 rfl) ?_
              refine lv_iadd E.1 E.2.1 d_M_putNumber_103 ?_
              refine xl_ti (y := (nI (n + xnw kind x))) (nI_add _ _) ?_
              refine lv_ldc (v := 65536) E.1 E.2.1 E.2.2.2.1 (E.2.2.2.2 _ co_M_7) d_M_putNumber_104 ?_
              refine lv_icmp_le (tgt := 115) E.1 E.2.1 d_M_putNumber_106 (by decide) (fun h3 => ?_) (fun h3 => ?_)
              · skip
                have h3 : n + xnw kind x ≤ 65536 := (nI_leI (b := 65536) (by omega) (by decide)).mp h3
                refine lv_iload E.1 E.2.1 d_M_putNumber_115 (lv_at hl 2 rfl) ?_
                refine lv_if_eq (tgt := 130) E.1 E.2.1 d_M_putNumber_117 (by decide) (fun h4 => ?_) (fun h4 => ?_)
                · skip
                  have hns : ¬ (kind = 2 ∧ (0 ≤ x ∧ x < 64)) := fun z => by
                    rw [if_pos z] at h4
                    exact absurd h4 (by decide)
                  have hnw : xnw kind x = xt kind + 8 + 8 * nb kind x := by
                    unfold xnw
                    rw [if_neg hns]
                  rw [hnw] at h3
                  have hsp : sp_putNumber (β, n, q) kind x = (0, lN (n + (xt kind + 8 + 8 * nb kind x)), (xnum β n kind x, n + (xt kind + 8 + 8 * nb kind x), q)) := by
                    unfold sp_putNumber
                    rw [if_neg hkk, if_neg hns, if_neg (Nat.not_lt.mpr h3)]
                  have tail : ∀ (H : Heap) (locs : List Loc), PM D b r cZ (xa β n 1 (xt kind)) (n + xt kind) q 0 rd gd H → va_S (xA2 b r) s.heap H locs →
                      W p l e (xrm 2) s m [Value.ref b, .int kind, .long x].toArray below meth c H locs 0 0 (xl_MQ below (xl_Q (xA2 b r) (xMi (sp_putNumber (β, n, q) kind x) D b r cZ) (fun _ _ _ => False)) [Value.ref b, .int kind, .long x].toArray s (xl_k 0 1) (xl_k 0 6) (xA2 b r)) (F0 m 141 ls []) := by
                    intro H locs hP hS
                    have hl := lv_sub hl (l' := [(5, .int (nI (nb kind x))), (0, .ref b), (1, .int kind), (2, .long x)]) [1, 3, 4, 5] rfl
                    refine lv_aload_n E.1 E.2.1 d_M_putNumber_141 rfl (lv_at hl 1 rfl) ?_
                    refine lv_iload E.1 E.2.1 d_M_putNumber_142 (lv_at hl 0 rfl) ?_
                    refine lv_i2l (v := (nI (nb kind x)).toInt64) E.1 E.2.1 d_M_putNumber_144 rfl ?_
                    refine xl_tl (y := (lN (nb kind x))) (nI_l (by omega)) ?_
                    refine lv_bipush (v := 8) E.1 E.2.1 d_M_putNumber_145 (by decide) ?_
                    refine xg_goes (xc_V E xGT (m_append l D b r cJ cZ (xa β n 1 (xt kind)) (n + xt kind) q 0 rd gd 8 (lN (nb kind x)) (by omega) (by decide) hne) vw_M_append (by decide) (wM.call hP hK) (PM.recv hP hK) rfl hl.1 rfl (Nat.le_of_ble_eq_true rfl) d_M_putNumber_147) hS (fun q _ h => h) (fun q h => h) (fun v st t locs1 h0 hal hrt hS2 hz hkp => ?_) (fun x st t locs1 h0 hal hth => hth.elim)
                    obtain ⟨rfl, hP2⟩ := hrt
                    refine W.eq (g2 := F0 m 150 ls []) rfl ?_
                    generalize t.heap = H2 at hP2 hS2 hz hkp ⊢
                    refine lv_aload_n E.1 E.2.1 d_M_putNumber_150 rfl (lv_at hl 1 rfl) ?_
                    refine lv_lload_n E.1 E.2.1 d_M_putNumber_151 rfl (lv_at hl 3 rfl) ?_
                    refine lv_bipush (v := 8) E.1 E.2.1 d_M_putNumber_152 (by decide) ?_
                    refine lv_iload E.1 E.2.1 d_M_putNumber_154 (lv_at hl 0 rfl) ?_
                    refine lv_imul E.1 E.2.1 d_M_putNumber_156 ?_
                    refine xl_ti (y := (nI (8 * nb kind x))) (pk_mul 8 _) ?_
                    refine xg_goes (xc_V E xGT (m_append l D b r cJ cZ (xa (xa β n 1 (xt kind)) (n + xt kind) (lN (nb kind x)) 8) (n + xt kind + 8) q 0 rd gd (8 * nb kind x) x (by omega) (by omega) hne) vw_M_append (by decide) (wM.call hP2 hK) (PM.recv hP2 hK) rfl hl.1 rfl (Nat.le_of_ble_eq_true rfl) d_M_putNumber_157) hS2 (fun q _ h => h) (fun q h => h) (fun v st t locs1 h0 hal hrt hS3 hz hkp => ?_) (fun x st t locs1 h0 hal hth => hth.elim)
                    obtain ⟨rfl, hP3⟩ := hrt
                    refine W.eq (g2 := F0 m 160 ls []) rfl ?_
                    generalize t.heap = H3 at hP3 hS3 hz hkp ⊢
                    rw [show n + xt kind + 8 + 8 * nb kind x = n + (xt kind + 8 + 8 * nb kind x) by omega] at hP3
                    clear hP hP2
                    have hP := hP3
                    refine lv_aload_n E.1 E.2.1 d_M_putNumber_160 rfl (lv_at hl 1 rfl) ?_
                    refine gm_size E hK hP d_M_putNumber_161 ?_
                    exact xr_iret E hr hk hS3 (fun t ht _ => xMi.mk hsp (fun _ => nI_l (by omega)) (by rw [ht]; exact hP3)) d_M_putNumber_164
                  refine lv_iload_n E.1 E.2.1 d_M_putNumber_130 rfl (lv_at hl 4 rfl) ?_
                  refine lv_iconst (v := 2) E.1 E.2.1 d_M_putNumber_131 (by decide) ?_
                  refine lv_icmp_ne (tgt := 141) E.1 E.2.1 d_M_putNumber_132 (by decide) (fun h5 => ?_) (fun h5 => ?_)
                  · skip
                    have e : xt kind = 0 := by
                      unfold xt
                      rw [if_neg h5]
                    exact tail H1 _ (by rw [e, xa_0]; exact hP) hS1
                  · skip
                    have e : xt kind = 1 := by
                      unfold xt
                      rw [if_pos h5]
                    refine lv_aload_n E.1 E.2.1 d_M_putNumber_135 rfl (lv_at hl 3 rfl) ?_
                    refine lv_lconst (v := 1) E.1 E.2.1 d_M_putNumber_136 (by decide) ?_
                    refine lv_iconst (v := 1) E.1 E.2.1 d_M_putNumber_137 (by decide) ?_
                    refine xg_goes (xc_V E xGT (m_append l D b r cJ cZ β n q 0 rd gd 1 1 (by omega) (by decide) hne) vw_M_append (by decide) (wM.call hP hK) (PM.recv hP hK) rfl hl.1 rfl (Nat.le_of_ble_eq_true rfl) d_M_putNumber_138) hS1 (fun q _ h => h) (fun q h => h) (fun v st t locs1 h0 hal hrt hS2 hz hkp => ?_) (fun x st t locs1 h0 hal hth => hth.elim)
                    obtain ⟨rfl, hP2⟩ := hrt
                    refine W.eq (g2 := F0 m 141 ls []) rfl ?_
                    generalize t.heap = H2 at hP2 hS2 hz hkp ⊢
                    exact tail H2 _ (by rw [e]; exact hP2) hS2
                · skip
                  have hns : kind = 2 ∧ (0 ≤ x ∧ x < 64) := Classical.byContradiction fun z => h4 (by rw [if_neg z])
                  have hnw : xnw kind x = 7 := by
                    unfold xnw
                    rw [if_pos hns]
                  rw [hnw] at h3
                  have hsp : sp_putNumber (β, n, q) kind x = (0, lN (n + 7), (xa β n x 7, n + 7, q)) := by
                    unfold sp_putNumber
                    rw [if_neg hkk, if_pos hns]
                    unfold sp_write
                    rw [if_neg (Nat.not_lt.mpr h3)]
                  refine lv_aload_n E.1 E.2.1 d_M_putNumber_120 rfl (lv_at hl 3 rfl) ?_
                  refine lv_lload_n E.1 E.2.1 d_M_putNumber_121 rfl (lv_at hl 5 rfl) ?_
                  refine lv_bipush (v := 7) E.1 E.2.1 d_M_putNumber_122 (by decide) ?_
                  refine xg_goes (xc_V E xGT (m_append l D b r cJ cZ β n q 0 rd gd 7 x h3 (by decide) hne) vw_M_append (by decide) (wM.call hP hK) (PM.recv hP hK) rfl hl.1 rfl (Nat.le_of_ble_eq_true rfl) d_M_putNumber_124) hS1 (fun q _ h => h) (fun q h => h) (fun v st t locs1 h0 hal hrt hS2 hz hkp => ?_) (fun x st t locs1 h0 hal hth => hth.elim)
                  obtain ⟨rfl, hP2⟩ := hrt
                  refine W.eq (g2 := F0 m 127 ls []) rfl ?_
                  generalize t.heap = H2 at hP2 hS2 hz hkp ⊢
                  clear hP
                  have hP := hP2
                  refine lv_goto (tgt := 160) E.1 E.2.1 d_M_putNumber_127 (by decide) ?_
                  refine lv_aload_n E.1 E.2.1 d_M_putNumber_160 rfl (lv_at hl 3 rfl) ?_
                  refine gm_size E hK hP d_M_putNumber_161 ?_
                  exact xr_iret E hr hk hS2 (fun t ht _ => xMi.mk hsp (fun _ => nI_l (by omega)) (by rw [ht]; exact hP2)) d_M_putNumber_164
              · skip
                have h3 : ¬ n + xnw kind x ≤ 65536 := fun z => h3 ((nI_leI (b := 65536) (by omega) (by decide)).mpr z)
                have hsp : sp_putNumber (β, n, q) kind x = (2, 0, (β, n, q)) := by
                  unfold sp_putNumber
                  rw [if_neg hkk]
                  unfold xnw at h3
                  by_cases hns : kind = 2 ∧ (0 ≤ x ∧ x < 64)
                  · rw [if_pos hns] at h3 ⊢
                    unfold sp_write
                    rw [if_pos (Nat.not_le.mp h3)]
                  · rw [if_neg hns] at h3 ⊢
                    rw [if_pos (Nat.not_le.mp h3)]
                refine lv_aload_n E.1 E.2.1 d_M_putNumber_109 rfl (lv_at hl 3 rfl) ?_
                refine lv_iconst (v := 2) E.1 E.2.1 d_M_putNumber_110 (by decide) ?_
                refine xg_goes (xc_V E xGT (m_fail l D b r cJ cZ β n q 0 rd gd hne 2) vw_M_fail (by decide) (wM.call hP hK) (PM.recv hP hK) rfl hl.1 rfl (Nat.le_of_ble_eq_true rfl) d_M_putNumber_111) hS1 (fun q _ h => h) (fun q h => h) (fun v st t locs1 h0 hal hrt hS2 hz hkp => ?_) (fun x st t locs1 h0 hal hth => hth.elim)
                obtain ⟨rfl, hP2⟩ := hrt
                refine W.eq (g2 := F0 m 114 ls [.int 0]) rfl ?_
                generalize t.heap = H2 at hP2 hS2 hz hkp ⊢
                exact xr_iret E hr hk hS2 (fun t ht _ => xMi.mk hsp (fun z => absurd z (by decide)) (by rw [ht]; exact hP2)) d_M_putNumber_114
            · skip
              refine lv_if_eq (tgt := 76) E.1 E.2.1 d_M_putNumber_68 (by decide) (fun h4 => ?_) (fun h4 => ?_)
              · skip
                have hns : ¬ (kind = 2 ∧ (0 ≤ x ∧ x < 64)) := fun z => by
                  rw [if_pos z] at h4
                  exact absurd h4 (by decide)
                have hnw : xnw kind x = xt kind + 8 + 8 * nb kind x := by
                  unfold xnw
                  rw [if_neg hns]
                refine lv_bipush (v := 8) E.1 E.2.1 d_M_putNumber_76 (by decide) ?_
                refine lv_bipush (v := 8) E.1 E.2.1 d_M_putNumber_78 (by decide) ?_
                refine lv_iload E.1 E.2.1 d_M_putNumber_80 (lv_at hl 0 rfl) ?_
                refine lv_imul E.1 E.2.1 d_M_putNumber_82 ?_
                refine xl_ti (y := (nI (8 * nb kind x))) (pk_mul 8 _) ?_
                refine lv_iadd E.1 E.2.1 d_M_putNumber_83 ?_
                refine xl_ti (y := (nI (8 + 8 * nb kind x))) (nI_add 8 _) ?_
                refine lv_iload_n E.1 E.2.1 d_M_putNumber_84 rfl (lv_at hl 3 rfl) ?_
                refine lv_iconst (v := 2) E.1 E.2.1 d_M_putNumber_85 (by decide) ?_
                refine lv_icmp_ne (tgt := 93) E.1 E.2.1 d_M_putNumber_86 (by decide) (fun h5 => ?_) (fun h5 => ?_)
                · skip
                  have e : xt kind = 0 := by
                    unfold xt
                    rw [if_neg h5]
                  refine lv_iconst (v := 0) E.1 E.2.1 d_M_putNumber_93 (by decide) ?_
                  refine lv_iadd E.1 E.2.1 d_M_putNumber_94 ?_
                  refine hj95 _ ?_
                  rw [hnw, e]
                  exact (nI_add _ 0).trans (congrArg nI (by omega))
                · skip
                  have e : xt kind = 1 := by
                    unfold xt
                    rw [if_pos h5]
                  refine lv_iconst (v := 1) E.1 E.2.1 d_M_putNumber_89 (by decide) ?_
                  refine lv_goto (tgt := 94) E.1 E.2.1 d_M_putNumber_90 (by decide) ?_
                  refine lv_iadd E.1 E.2.1 d_M_putNumber_94 ?_
                  refine hj95 _ ?_
                  rw [hnw, e]
                  exact (nI_add _ 1).trans (congrArg nI (by omega))
              · skip
                have hns : kind = 2 ∧ (0 ≤ x ∧ x < 64) := Classical.byContradiction fun z => h4 (by rw [if_neg z])
                refine lv_bipush (v := 7) E.1 E.2.1 d_M_putNumber_71 (by decide) ?_
                refine lv_goto (tgt := 95) E.1 E.2.1 d_M_putNumber_73 (by decide) ?_
                refine hj95 _ ?_
                unfold xnw
                rw [if_pos hns]
                rfl
          · skip
            refine lv_icmp_ne (tgt := 59) E.1 E.2.1 d_M_putNumber_48 (by decide) (fun h3 => ?_) (fun h3 => ?_)
            · skip
              have e : nb 0 x = nb kind x := by
                unfold nb
                rw [if_neg (by decide), if_neg h3]
              refine lv_aload_n E.1 E.2.1 d_M_putNumber_59 rfl (lv_at hl 1 rfl) ?_
              refine lv_lload_n E.1 E.2.1 d_M_putNumber_60 rfl (lv_at hl 3 rfl) ?_
              refine xg_looks (xc_V E xGT (m_bytesOf l D b r cJ cZ β n q 0 rd gd x) vw_M_bytesOf (by decide) (wM.call hP hK) (PM.recv hP hK) rfl hl.1 rfl (Nat.le_of_ble_eq_true rfl) d_M_putNumber_61) (fun v st t h => h.2) (fun v st t h0 hal hrt => ?_) (fun x st t h0 hal hth hz => hth.elim)
              obtain ⟨rfl, -⟩ := hrt
              rw [e]
              refine W.eq (g2 := F0 m 64 ls [.int (nI (nb kind x))]) rfl ?_
              exact hj64 _ rfl
            · skip
              refine lv_aload_n E.1 E.2.1 d_M_putNumber_51 rfl (lv_at hl 1 rfl) ?_
              refine lv_lload_n E.1 E.2.1 d_M_putNumber_52 rfl (lv_at hl 3 rfl) ?_
              refine xg_looks (xc_V E xGT (m_complement l b x) vw_M_complement (by decide) xNo (PM.recv hP hK) rfl hl.1 rfl (Nat.le_of_ble_eq_true rfl) d_M_putNumber_53) (fun v st t h => h.2) (fun v st t h0 hal hrt => ?_) (fun x st t h0 hal hth hz => hth.elim)
              obtain ⟨rfl, -⟩ := hrt
              rw [← h3]
              refine W.eq (g2 := F0 m 56 ls [.int (nI (nb kind x))]) rfl ?_
              refine lv_goto (tgt := 64) E.1 E.2.1 d_M_putNumber_56 (by decide) ?_
              exact hj64 _ rfl
        · skip
          refine lv_iload_n E.1 E.2.1 d_M_putNumber_20 rfl (lv_at hl 1 rfl) ?_
          refine lv_iconst (v := 2) E.1 E.2.1 d_M_putNumber_21 (by decide) ?_
          refine lv_icmp_ne (tgt := 43) E.1 E.2.1 d_M_putNumber_22 (by decide) (fun h3 => ?_) (fun h3 => ?_)
          · skip
            refine lv_iconst (v := 0) E.1 E.2.1 d_M_putNumber_43 (by decide) ?_
            exact hj44 _ (by rw [if_neg (fun z => h3 z.1)])
          · skip
            refine lv_lload_n E.1 E.2.1 d_M_putNumber_25 rfl (lv_at hl 2 rfl) ?_
            refine lv_lconst (v := 0) E.1 E.2.1 d_M_putNumber_26 (by decide) ?_
            refine xl_lc_lt (tgt := 43) E.1 E.2.1 d_M_putNumber_27 d_M_putNumber_28 (by decide) (fun h4 => ?_) (fun h4 => ?_)
            · skip
              refine lv_iconst (v := 0) E.1 E.2.1 d_M_putNumber_43 (by decide) ?_
              refine hj44 _ ?_
              rw [if_neg]
              intro z
              have z := z.2.1
              rw [Int64.lt_iff_toInt_lt] at h4
              rw [Int64.le_iff_toInt_le] at z
              omega
            · skip
              refine lv_lload_n E.1 E.2.1 d_M_putNumber_31 rfl (lv_at hl 2 rfl) ?_
              refine lv_ldc2 (v := 64) E.1 E.2.1 E.2.2.2.1 (E.2.2.2.2 _ co_M_49) d_M_putNumber_32 ?_
              refine xl_lc_ge (tgt := 43) E.1 E.2.1 d_M_putNumber_35 d_M_putNumber_36 (by decide) (fun h5 => ?_) (fun h5 => ?_)
              · skip
                refine lv_iconst (v := 0) E.1 E.2.1 d_M_putNumber_43 (by decide) ?_
                refine hj44 _ ?_
                rw [if_neg]
                intro z
                have z := z.2.2
                rw [Int64.le_iff_toInt_le] at h5
                rw [Int64.lt_iff_toInt_lt] at z
                omega
              · skip
                refine lv_iconst (v := 1) E.1 E.2.1 d_M_putNumber_39 (by decide) ?_
                refine lv_goto (tgt := 44) E.1 E.2.1 d_M_putNumber_40 (by decide) ?_
                refine hj44 _ ?_
                rw [if_pos]
                refine ⟨h3, ?_⟩
                rw [Int64.le_iff_toInt_le] at h5
                rw [Int64.lt_iff_toInt_lt] at h4
                rw [Int64.le_iff_toInt_le, Int64.lt_iff_toInt_lt]
                omega
      · skip
        exact hj14 () (Or.inr (xi_nle.mp h2))
end XL25

