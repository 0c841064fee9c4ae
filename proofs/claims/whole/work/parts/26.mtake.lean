/-! The reference: the calls that read. -/
section XL26
set_option maxHeartbeats 4000000 in
set_option maxRecDepth 100000 in
theorem m_take (l : Launch) (D : va_G) (b r : Nat) (cJ cZ : ClassId) (β : Nat → Bool) (n q : Nat) (fa : Int32) (rd : Nat) (gd : Bool) (hn : n ≤ 65536) (hq : q ≤ n) (hne : b ≠ r) (k : Int32) : xM l y_M_take w_M_take (xrm 2) [.ref b, .int k] (wM D b r cJ cZ β n q fa rd gd) (xA2 b r) (xMl (sp_take (β, n, q) k) D b r cZ) (fun _ _ _ => False) := by
  refine xM.of (by decide) ?_
  intro p e s m args below meth c hav E hr hk hh hnm hwM
  subst hav
  obtain ⟨hP, hK⟩ := hwM
  have hS : va_S (xA2 b r) s.heap s.heap [] := va_S.rf
  refine xl_entry _ (Nat.le_of_ble_eq_true rfl) (fun ls hl => ?_)
  have hl : lv_has ls 2 [(0, .ref b), (1, .int k)] := hl
  refine lv_aload_n E.1 E.2.1 d_M_take_0 rfl (lv_at hl 0 rfl) ?_
  refine xg_goes (xc_V E xGT (m_begin l D b r cJ cZ β n q fa rd gd hne) vw_M_begin (by decide) (wM.call hP hK) (PM.recv hP hK) rfl hl.1 rfl (Nat.le_of_ble_eq_true rfl) d_M_take_1) hS (fun q _ h => h) (fun q h => h) (fun v st t locs1 h0 hal hrt hS1 hz hkp => ?_) (fun x st t locs1 h0 hal hth => hth.elim)
  obtain ⟨rfl, hP1⟩ := hrt
  refine W.eq (g2 := F0 m 4 ls []) rfl ?_
  generalize t.heap = H1 at hP1 hS1 hz hkp ⊢
  refine xl_join (fun _ : Unit => k < 0 ∨ 64 < k) (fun _ => F0 m 14 ls []) (fun _ hkk => ?_) (fun hj => ?_)
  · skip
    have hsp : sp_take (β, n, q) k = (1, 0, (β, n, q)) := by
      unfold sp_take
      rw [if_pos hkk]
    refine lv_aload_n E.1 E.2.1 d_M_take_14 rfl (lv_at hl 0 rfl) ?_
    refine lv_iconst (v := 1) E.1 E.2.1 d_M_take_15 (by decide) ?_
    refine xg_goes (xc_V E xGT (m_fail l D b r cJ cZ β n q 0 q true hne 1) vw_M_fail (by decide) (wM.call hP1 hK) (PM.recv hP1 hK) rfl hl.1 rfl (Nat.le_of_ble_eq_true rfl) d_M_take_16) hS1 (fun q _ h => h) (fun q h => h) (fun v st t locs1 h0 hal hrt hS2 hz hkp => ?_) (fun x st t locs1 h0 hal hth => hth.elim)
    obtain ⟨rfl, hP2⟩ := hrt
    refine W.eq (g2 := F0 m 19 ls [.int 0]) rfl ?_
    generalize t.heap = H2 at hP2 hS2 hz hkp ⊢
    refine lv_i2l (v := (0 : Int32).toInt64) E.1 E.2.1 d_M_take_19 rfl ?_
    exact xr_lret E hr hk hS2 (fun t ht _ => xMl.mk hsp (fun z => absurd z (by decide)) (by rw [ht]; exact hP2)) d_M_take_20
  · skip
    refine lv_iload_n E.1 E.2.1 d_M_take_4 rfl (lv_at hl 1 rfl) ?_
    refine lv_if_lt (tgt := 14) E.1 E.2.1 d_M_take_5 (by decide) (fun h1 => ?_) (fun h1 => ?_)
    · skip
      exact hj () (Or.inl h1)
    · skip
      refine lv_iload_n E.1 E.2.1 d_M_take_8 rfl (lv_at hl 1 rfl) ?_
      refine lv_bipush (v := 64) E.1 E.2.1 d_M_take_9 (by decide) ?_
      refine lv_icmp_le (tgt := 21) E.1 E.2.1 d_M_take_11 (by decide) (fun h2 => ?_) (fun h2 => ?_)
      · skip
        obtain ⟨j, hjb, rfl⟩ := nI_of h1
        have hj64 : j ≤ 64 := (nI_leI (b := 64) hjb (by decide)).mp h2
        have hsp : sp_take (β, n, q) (nI j) = if n < q + j then (2, 0, (β, n, q)) else (0, lN (xv β q j), (β, n, q + j)) := by
          unfold sp_take
          rw [if_neg (fun z => z.elim h1 (xi_nlt.mpr h2)), nI_clamp hjb]
        refine lv_aload_n E.1 E.2.1 d_M_take_21 rfl (lv_at hl 0 rfl) ?_
        refine lv_aload_n E.1 E.2.1 d_M_take_22 rfl (lv_at hl 0 rfl) ?_
        refine lv_iload_n E.1 E.2.1 d_M_take_23 rfl (lv_at hl 1 rfl) ?_
        refine xg_goes (xc_V E xGT (m_get l D b r cJ cZ β n q 0 q true j hn (by omega) hj64 hne) vw_M_get (by decide) (wM.call hP1 hK) (PM.recv hP1 hK) rfl hl.1 rfl (Nat.le_of_ble_eq_true rfl) d_M_take_24) hS1 (fun q _ h => h) (fun q h => h) (fun v st t locs1 h0 hal hrt hS2 hz hkp => ?_) (fun x st t locs1 h0 hal hth => hth.elim)
        rcases hrt with ⟨-, g1, rfl, hP2⟩ | ⟨g1, rfl, hP2⟩
        · rw [if_neg (Nat.not_lt.mpr g1)] at hsp
          refine W.eq (g2 := F0 m 27 ls [.long (lN (xv β q j)), .ref b]) rfl ?_
          generalize t.heap = H2 at hP2 hS2 hz hkp ⊢
          refine lv_iconst (v := 2) E.1 E.2.1 d_M_take_27 (by decide) ?_
          refine xg_goes (xc_V E xGT (m_done l D b r cJ cZ β n q (q + j) true hne (lN (xv β q j)) 2) vw_M_done (by decide) (wM.call hP2 hK) (PM.recv hP2 hK) rfl hl.1 rfl (Nat.le_of_ble_eq_true rfl) d_M_take_28) hS2 (fun q _ h => h) (fun q h => h) (fun v st t locs1 h0 hal hrt hS3 hz hkp => ?_) (fun x st t locs1 h0 hal hth => hth.elim)
          rcases hrt with ⟨-, rfl, hP3⟩ | ⟨g2, -⟩
          · skip
            refine W.eq (g2 := F0 m 31 ls [.long (lN (xv β q j))]) rfl ?_
            generalize t.heap = H3 at hP3 hS3 hz hkp ⊢
            exact xr_lret E hr hk hS3 (fun t ht _ => xMl.mk hsp (fun _ => rfl) (by rw [ht]; exact hP3)) d_M_take_31
          · cases g2
        · rw [if_pos (Nat.not_le.mp (fun z => g1 ⟨rfl, z⟩))] at hsp
          refine W.eq (g2 := F0 m 27 ls [.long 0, .ref b]) rfl ?_
          generalize t.heap = H2 at hP2 hS2 hz hkp ⊢
          refine lv_iconst (v := 2) E.1 E.2.1 d_M_take_27 (by decide) ?_
          refine xg_goes (xc_V E xGT (m_done l D b r cJ cZ β n q q false hne 0 2) vw_M_done (by decide) (wM.call hP2 hK) (PM.recv hP2 hK) rfl hl.1 rfl (Nat.le_of_ble_eq_true rfl) d_M_take_28) hS2 (fun q _ h => h) (fun q h => h) (fun v st t locs1 h0 hal hrt hS3 hz hkp => ?_) (fun x st t locs1 h0 hal hth => hth.elim)
          rcases hrt with ⟨g2, -⟩ | ⟨-, rfl, hP3⟩
          · cases g2
          · skip
            refine W.eq (g2 := F0 m 31 ls [.long 0]) rfl ?_
            generalize t.heap = H3 at hP3 hS3 hz hkp ⊢
            exact xr_lret E hr hk hS3 (fun t ht _ => xMl.mk hsp (fun z => absurd z (by decide)) (by rw [ht]; exact hP3)) d_M_take_31
      · skip
        exact hj () (Or.inr (xi_nle.mp h2))
set_option maxHeartbeats 4000000 in
set_option maxRecDepth 100000 in
theorem m_takeRange (l : Launch) (D : va_G) (b r : Nat) (cJ cZ : ClassId) (β : Nat → Bool) (n q : Nat) (fa : Int32) (rd : Nat) (gd : Bool) (hn : n ≤ 65536) (hq : q ≤ n) (hne : b ≠ r) (lo hi : Int64) : xM l y_M_takeRange w_M_takeRange (xrm 2) [.ref b, .long lo, .long hi] (wM D b r cJ cZ β n q fa rd gd) (xA2 b r) (xMl (sp_takeRange (β, n, q) lo hi) D b r cZ) (fun _ _ _ => False) := by
  refine xM.of (by decide) ?_
  intro p e s m args below meth c hav E hr hk hh hnm hwM
  subst hav
  obtain ⟨hP, hK⟩ := hwM
  have hS : va_S (xA2 b r) s.heap s.heap [] := va_S.rf
  have hb := nbl_64 (hi - lo)
  refine xl_entry _ (Nat.le_of_ble_eq_true rfl) (fun ls hl => ?_)
  have hl : lv_has ls 9 [(0, .ref b), (1, .long lo), (3, .long hi)] := hl
  refine lv_aload_n E.1 E.2.1 d_M_takeRange_0 rfl (lv_at hl 0 rfl) ?_
  refine xg_goes (xc_V E xGT (m_begin l D b r cJ cZ β n q fa rd gd hne) vw_M_begin (by decide) (wM.call hP hK) (PM.recv hP hK) rfl hl.1 rfl (Nat.le_of_ble_eq_true rfl) d_M_takeRange_1) hS (fun q _ h => h) (fun q h => h) (fun v st t locs1 h0 hal hrt hS1 hz hkp => ?_) (fun x st t locs1 h0 hal hth => hth.elim)
  obtain ⟨rfl, hP1⟩ := hrt
  refine W.eq (g2 := F0 m 4 ls []) rfl ?_
  generalize t.heap = H1 at hP1 hS1 hz hkp ⊢
  refine lv_lload_n E.1 E.2.1 d_M_takeRange_4 rfl (lv_at hl 1 rfl) ?_
  refine lv_lload_n E.1 E.2.1 d_M_takeRange_5 rfl (lv_at hl 2 rfl) ?_
  refine xl_lc_le (tgt := 17) E.1 E.2.1 d_M_takeRange_6 d_M_takeRange_7 (by decide) (fun h1 => ?_) (fun h1 => ?_)
  · skip
    have h2 : ¬ hi < lo := by
      intro z
      rw [Int64.lt_iff_toInt_lt] at z
      rw [Int64.le_iff_toInt_le] at h1
      omega
    have hsp : sp_takeRange (β, n, q) lo hi = if n < q + nbl (uN (hi - lo)) ∨ uN (hi - lo) < xv β q (nbl (uN (hi - lo))) then (2, 0, (β, n, q)) else (0, lo + lN (xv β q (nbl (uN (hi - lo)))), (β, n, q + nbl (uN (hi - lo)))) := by
      unfold sp_takeRange
      rw [if_neg h2]
    have tail : ∀ (H : Heap) (locs : List Loc) (ls : Array Slot) (z : Int64) (u : Nat) (g : Bool), (g = true → sp_takeRange (β, n, q) lo hi = (0, lo + z, (β, n, u))) → (g = false → sp_takeRange (β, n, q) lo hi = (2, 0, (β, n, q))) → PM D b r cZ β n q 0 u g H → va_S (xA2 b r) s.heap H locs → lv_has ls 9 [(7, .long z), (5, .long (hi - lo)), (0, .ref b), (1, .long lo), (3, .long hi)] →
        W p l e (xrm 2) s m [Value.ref b, .long lo, .long hi].toArray below meth c H locs 0 0 (xl_MQ below (xl_Q (xA2 b r) (xMl (sp_takeRange (β, n, q) lo hi) D b r cZ) (fun _ _ _ => False)) [Value.ref b, .long lo, .long hi].toArray s (xl_k 0 1) (xl_k 0 6) (xA2 b r)) (F0 m 79 ls []) := by
      intro H locs ls z u g hg1 hg2 hP hS hl
      refine lv_aload_n E.1 E.2.1 d_M_takeRange_79 rfl (lv_at hl 2 rfl) ?_
      refine lv_lload_n E.1 E.2.1 d_M_takeRange_80 rfl (lv_at hl 3 rfl) ?_
      refine lv_lload E.1 E.2.1 d_M_takeRange_81 (lv_at hl 0 rfl) ?_
      refine lv_ladd E.1 E.2.1 d_M_takeRange_83 ?_
      refine lv_iconst (v := 2) E.1 E.2.1 d_M_takeRange_84 (by decide) ?_
      refine xg_goes (xc_V E xGT (m_done l D b r cJ cZ β n q u g hne (lo + z) 2) vw_M_done (by decide) (wM.call hP hK) (PM.recv hP hK) rfl hl.1 rfl (Nat.le_of_ble_eq_true rfl) d_M_takeRange_85) hS (fun q _ h => h) (fun q h => h) (fun v st t locs1 h0 hal hrt hS3 hz hkp => ?_) (fun x st t locs1 h0 hal hth => hth.elim)
      rcases hrt with ⟨g2, rfl, hP3⟩ | ⟨g2, rfl, hP3⟩
      · skip
        refine W.eq (g2 := F0 m 88 ls [.long (lo + z)]) rfl ?_
        generalize t.heap = H3 at hP3 hS3 hz hkp ⊢
        exact xr_lret E hr hk hS3 (fun t ht _ => xMl.mk (hg1 g2) (fun _ => rfl) (by rw [ht]; exact hP3)) d_M_takeRange_88
      · skip
        refine W.eq (g2 := F0 m 88 ls [.long 0]) rfl ?_
        generalize t.heap = H3 at hP3 hS3 hz hkp ⊢
        exact xr_lret E hr hk hS3 (fun t ht _ => xMl.mk (hg2 g2) (fun z => absurd z (by decide)) (by rw [ht]; exact hP3)) d_M_takeRange_88
    have cmp : ∀ (H : Heap) (locs : List Loc) (ls : Array Slot) (z : Int64) (u : Nat) (g : Bool), (g = true → ¬ uN (hi - lo) < uN z → sp_takeRange (β, n, q) lo hi = (0, lo + z, (β, n, u))) → (g = false ∨ uN (hi - lo) < uN z → sp_takeRange (β, n, q) lo hi = (2, 0, (β, n, q))) → PM D b r cZ β n q 0 u g H → va_S (xA2 b r) s.heap H locs → lv_has ls 9 [(7, .long z), (5, .long (hi - lo)), (0, .ref b), (1, .long lo), (3, .long hi)] →
        W p l e (xrm 2) s m [Value.ref b, .long lo, .long hi].toArray below meth c H locs 0 0 (xl_MQ below (xl_Q (xA2 b r) (xMl (sp_takeRange (β, n, q) lo hi) D b r cZ) (fun _ _ _ => False)) [Value.ref b, .long lo, .long hi].toArray s (xl_k 0 1) (xl_k 0 6) (xA2 b r)) (F0 m 34 ls []) := by
      intro H locs ls z u g hg1 hg2 hP hS hl
      have hz := uN_lt z
      have hm := uN_lt (hi - lo)
      have iz := uN_int z
      have im := uN_int (hi - lo)
      refine xl_join (fun _ : Unit => uN (hi - lo) < uN z) (fun _ => F0 m 74 ls []) (fun _ hlt => ?_) (fun hj74 => ?_)
      · skip
        refine lv_aload_n E.1 E.2.1 d_M_takeRange_74 rfl (lv_at hl 2 rfl) ?_
        refine lv_iconst (v := 0) E.1 E.2.1 d_M_takeRange_75 (by decide) ?_
        refine sm_good (g := false) E hK hP hne hS d_M_takeRange_76 (fun H2 locs2 hP2 hS2 => ?_)
        exact tail H2 locs2 ls z u false (fun z => by cases z) (fun _ => hg2 (Or.inr hlt)) hP2 hS2 hl
      · have hok : ¬ uN (hi - lo) < uN z → W p l e (xrm 2) s m [Value.ref b, .long lo, .long hi].toArray below meth c H locs 0 0 (xl_MQ below (xl_Q (xA2 b r) (xMl (sp_takeRange (β, n, q) lo hi) D b r cZ) (fun _ _ _ => False)) [Value.ref b, .long lo, .long hi].toArray s (xl_k 0 1) (xl_k 0 6) (xA2 b r)) (F0 m 79 ls []) := fun hlt => tail H locs ls z u g (fun a => hg1 a hlt) (fun a => hg2 (Or.inl a)) hP hS hl
        refine lv_lload E.1 E.2.1 d_M_takeRange_34 (lv_at hl 0 rfl) ?_
        refine lv_lconst (v := 0) E.1 E.2.1 d_M_takeRange_36 (by decide) ?_
        refine xl_lc_ge (tgt := 59) E.1 E.2.1 d_M_takeRange_37 d_M_takeRange_38 (by decide) (fun c1 => ?_) (fun c1 => ?_)
        · skip
          rw [Int64.le_iff_toInt_le, Int64.toInt_zero] at c1
          refine lv_lload E.1 E.2.1 d_M_takeRange_59 (lv_at hl 1 rfl) ?_
          refine lv_lconst (v := 0) E.1 E.2.1 d_M_takeRange_61 (by decide) ?_
          refine xl_lc_lt (tgt := 79) E.1 E.2.1 d_M_takeRange_62 d_M_takeRange_63 (by decide) (fun c2 => ?_) (fun c2 => ?_)
          · skip
            rw [Int64.lt_iff_toInt_lt, Int64.toInt_zero] at c2
            exact hok (by omega)
          · skip
            rw [Int64.lt_iff_toInt_lt, Int64.toInt_zero] at c2
            refine lv_lload E.1 E.2.1 d_M_takeRange_66 (lv_at hl 0 rfl) ?_
            refine lv_lload E.1 E.2.1 d_M_takeRange_68 (lv_at hl 1 rfl) ?_
            refine xl_lc_le (tgt := 79) E.1 E.2.1 d_M_takeRange_70 d_M_takeRange_71 (by decide) (fun c3 => ?_) (fun c3 => ?_)
            · skip
              rw [Int64.le_iff_toInt_le] at c3
              exact hok (by omega)
            · skip
              rw [Int64.le_iff_toInt_le] at c3
              exact hj74 () (by omega)
        · skip
          rw [Int64.le_iff_toInt_le, Int64.toInt_zero] at c1
          refine lv_lload E.1 E.2.1 d_M_takeRange_41 (lv_at hl 1 rfl) ?_
          refine lv_lconst (v := 0) E.1 E.2.1 d_M_takeRange_43 (by decide) ?_
          refine xl_lc_ge (tgt := 74) E.1 E.2.1 d_M_takeRange_44 d_M_takeRange_45 (by decide) (fun c2 => ?_) (fun c2 => ?_)
          · skip
            rw [Int64.le_iff_toInt_le, Int64.toInt_zero] at c2
            exact hj74 () (by omega)
          · skip
            rw [Int64.le_iff_toInt_le, Int64.toInt_zero] at c2
            refine lv_lload E.1 E.2.1 d_M_takeRange_48 (lv_at hl 0 rfl) ?_
            refine lv_lload E.1 E.2.1 d_M_takeRange_50 (lv_at hl 1 rfl) ?_
            refine xl_lc_le (tgt := 79) E.1 E.2.1 d_M_takeRange_52 d_M_takeRange_53 (by decide) (fun c3 => ?_) (fun c3 => ?_)
            · skip
              rw [Int64.le_iff_toInt_le] at c3
              exact hok (by omega)
            · skip
              rw [Int64.le_iff_toInt_le] at c3
              refine lv_goto (tgt := 74) E.1 E.2.1 d_M_takeRange_56 (by decide) ?_
              exact hj74 () (by omega)
    refine lv_lload_n E.1 E.2.1 d_M_takeRange_17 rfl (lv_at hl 2 rfl) ?_
    refine lv_lload_n E.1 E.2.1 d_M_takeRange_18 rfl (lv_at hl 1 rfl) ?_
    refine lv_lsub E.1 E.2.1 d_M_takeRange_19 ?_
    refine lv_lstore E.1 E.2.1 d_M_takeRange_20 hl (by decide) rfl (fun ls hl => ?_)
    have hl : lv_has ls 9 [(5, .long (hi - lo)), (0, .ref b), (1, .long lo), (3, .long hi)] := hl
    refine lv_aload_n E.1 E.2.1 d_M_takeRange_22 rfl (lv_at hl 1 rfl) ?_
    refine lv_aload_n E.1 E.2.1 d_M_takeRange_23 rfl (lv_at hl 1 rfl) ?_
    refine lv_lload E.1 E.2.1 d_M_takeRange_24 (lv_at hl 0 rfl) ?_
    refine xg_looks (xc_V E xGT (m_width l b (hi - lo)) vw_M_width (by decide) xNo (PM.recv hP1 hK) rfl hl.1 rfl (Nat.le_of_ble_eq_true rfl) d_M_takeRange_26) (fun v st t h => h.2) (fun v st t h0 hal hrt => ?_) (fun x st t h0 hal hth hz => hth.elim)
    obtain ⟨rfl, -⟩ := hrt
    refine W.eq (g2 := F0 m 29 ls [.int (nI (nbl (uN (hi - lo)))), .ref b]) rfl ?_
    generalize hM : nbl (uN (hi - lo)) = w at hsp hb
    refine xg_goes (xc_V E xGT (m_get l D b r cJ cZ β n q 0 q true w hn (by omega) hb hne) vw_M_get (by decide) (wM.call hP1 hK) (PM.recv hP1 hK) rfl hl.1 rfl (Nat.le_of_ble_eq_true rfl) d_M_takeRange_29) hS1 (fun q _ h => h) (fun q h => h) (fun v st t locs1 h0 hal hrt hS2 hz hkp => ?_) (fun x st t locs1 h0 hal hth => hth.elim)
    rcases hrt with ⟨-, g1, rfl, hP2⟩ | ⟨g1, rfl, hP2⟩
    · have hv := xv_lt β q w
      have hv64 : xv β q w < 2 ^ 64 := Nat.lt_of_lt_of_le hv (Nat.pow_le_pow_right (by decide) hb)
      have hu := uN_lN hv64
      refine W.eq (g2 := F0 m 32 ls [.long (lN (xv β q w))]) rfl ?_
      generalize t.heap = H2 at hP2 hS2 hz hkp ⊢
      refine lv_lstore E.1 E.2.1 d_M_takeRange_32 hl (by decide) rfl (fun ls hl => ?_)
      have hl : lv_has ls 9 [(7, .long (lN (xv β q w))), (5, .long (hi - lo)), (0, .ref b), (1, .long lo), (3, .long hi)] := hl
      refine cmp H2 _ ls (lN (xv β q w)) (q + w) true (fun _ a => ?_) (fun a => ?_) hP2 hS2 hl
      · rw [hu] at a
        rw [hsp, if_neg (by omega)]
      · rcases a with a | a
        · cases a
        · rw [hu] at a
          rw [hsp, if_pos (Or.inr a)]
    · skip
      refine W.eq (g2 := F0 m 32 ls [.long 0]) rfl ?_
      generalize t.heap = H2 at hP2 hS2 hz hkp ⊢
      refine lv_lstore E.1 E.2.1 d_M_takeRange_32 hl (by decide) rfl (fun ls hl => ?_)
      have hl : lv_has ls 9 [(7, .long 0), (5, .long (hi - lo)), (0, .ref b), (1, .long lo), (3, .long hi)] := hl
      refine cmp H2 _ ls 0 q false (fun a => by cases a) (fun a => ?_) hP2 hS2 hl
      rw [hsp, if_pos (Or.inl (Nat.not_le.mp (fun z => g1 ⟨rfl, z⟩)))]
  · skip
    have h2 : hi < lo := by
      rw [Int64.lt_iff_toInt_lt]
      rw [Int64.le_iff_toInt_le] at h1
      omega
    have hsp : sp_takeRange (β, n, q) lo hi = (1, 0, (β, n, q)) := by
      unfold sp_takeRange
      rw [if_pos h2]
    refine lv_aload_n E.1 E.2.1 d_M_takeRange_10 rfl (lv_at hl 0 rfl) ?_
    refine lv_iconst (v := 1) E.1 E.2.1 d_M_takeRange_11 (by decide) ?_
    refine xg_goes (xc_V E xGT (m_fail l D b r cJ cZ β n q 0 q true hne 1) vw_M_fail (by decide) (wM.call hP1 hK) (PM.recv hP1 hK) rfl hl.1 rfl (Nat.le_of_ble_eq_true rfl) d_M_takeRange_12) hS1 (fun q _ h => h) (fun q h => h) (fun v st t locs1 h0 hal hrt hS2 hz hkp => ?_) (fun x st t locs1 h0 hal hth => hth.elim)
    obtain ⟨rfl, hP2⟩ := hrt
    refine W.eq (g2 := F0 m 15 ls [.int 0]) rfl ?_
    generalize t.heap = H2 at hP2 hS2 hz hkp ⊢
    refine lv_i2l (v := (0 : Int32).toInt64) E.1 E.2.1 d_M_takeRange_15 rfl ?_
    exact xr_lret E hr hk hS2 (fun t ht _ => xMl.mk hsp (fun z => absurd z (by decide)) (by rw [ht]; exact hP2)) d_M_takeRange_16
end XL26

