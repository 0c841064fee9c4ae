/-! The reference: what reads. -/
section XL23
set_option maxHeartbeats 4000000 in
set_option maxRecDepth 100000 in
theorem m_begin (l : Launch) (D : va_G) (b r : Nat) (cJ cZ : ClassId) (β : Nat → Bool) (n q : Nat) (fa : Int32) (rd : Nat) (gd : Bool) (hne : b ≠ r) : xM l y_M_begin w_M_begin (xrm 0) [.ref b] (wM D b r cJ cZ β n q fa rd gd) (xA2 b r) (fun v _ t => v = none ∧ PM D b r cZ β n q 0 q true t.heap) (fun _ _ _ => False) := by
  refine xM.of (by decide) ?_
  intro p e s m args below meth c hav E hr hk hh hnm hwM
  subst hav
  obtain ⟨hP, hK⟩ := hwM
  have hS : va_S (xA2 b r) s.heap s.heap [] := va_S.rf
  refine xl_entry _ (Nat.le_of_ble_eq_true rfl) (fun ls hl => ?_)
  have hl : lv_has ls 1 [(0, .ref b)] := hl
  refine lv_aload_n E.1 E.2.1 d_M_begin_0 rfl (lv_at hl 0 rfl) ?_
  refine lv_iconst (v := 0) E.1 E.2.1 d_M_begin_1 (by decide) ?_
  refine sm_failed E hK hP hne hS d_M_begin_2 (fun H1 locs1 hP1 hS1 => ?_)
  clear hP
  have hP := hP1
  refine lv_aload_n E.1 E.2.1 d_M_begin_5 rfl (lv_at hl 0 rfl) ?_
  refine lv_aload_n E.1 E.2.1 d_M_begin_6 rfl (lv_at hl 0 rfl) ?_
  refine gm_place E hK hP d_M_begin_7 ?_
  refine sm_reading E hK hP hne hS1 d_M_begin_10 (fun H2 locs2 hP2 hS2 => ?_)
  refine lv_aload_n E.1 E.2.1 d_M_begin_13 rfl (lv_at hl 0 rfl) ?_
  refine lv_iconst (v := 1) E.1 E.2.1 d_M_begin_14 (by decide) ?_
  refine sm_good (g := true) E hK hP2 hne hS2 d_M_begin_15 (fun H3 locs3 hP3 hS3 => ?_)
  exact xr_vret E hr hk hS3 (fun t ht _ => ⟨rfl, by rw [ht]; exact hP3⟩) d_M_begin_18
set_option maxHeartbeats 4000000 in
set_option maxRecDepth 100000 in
theorem m_done (l : Launch) (D : va_G) (b r : Nat) (cJ cZ : ClassId) (β : Nat → Bool) (n q : Nat) (rd : Nat) (gd : Bool) (hne : b ≠ r) (x : Int64) (cd : Nat) : xM l y_M_done w_M_done (xrm 1) [.ref b, .long x, .int (nI cd)] (wM D b r cJ cZ β n q 0 rd gd) (xA2 b r) (fun v _ t => (gd = true ∧ v = some (.long x) ∧ PM D b r cZ β n rd 0 rd gd t.heap) ∨ (gd = false ∧ v = some (.long 0) ∧ PM D b r cZ β n q (nI cd) rd gd t.heap)) (fun _ _ _ => False) := by
  refine xM.of (by decide) ?_
  intro p e s m args below meth c hav E hr hk hh hnm hwM
  subst hav
  obtain ⟨hP, hK⟩ := hwM
  have hS : va_S (xA2 b r) s.heap s.heap [] := va_S.rf
  refine xl_entry _ (Nat.le_of_ble_eq_true rfl) (fun ls hl => ?_)
  have hl : lv_has ls 4 [(0, .ref b), (1, .long x), (3, .int (nI cd))] := hl
  refine lv_aload_n E.1 E.2.1 d_M_done_0 rfl (lv_at hl 0 rfl) ?_
  refine gm_good E hK hP d_M_done_1 ?_
  refine lv_if_ne (tgt := 14) E.1 E.2.1 d_M_done_4 (by decide) (fun h1 => ?_) (fun h1 => ?_)
  · skip
    have h1 : gd = true := by
      cases gd
      · exact absurd rfl h1
      · rfl
    refine lv_aload_n E.1 E.2.1 d_M_done_14 rfl (lv_at hl 0 rfl) ?_
    refine lv_aload_n E.1 E.2.1 d_M_done_15 rfl (lv_at hl 0 rfl) ?_
    refine gm_reading E hK hP d_M_done_16 ?_
    refine sm_place E hK hP hne hS d_M_done_19 (fun H1 locs1 hP1 hS1 => ?_)
    refine lv_lload_n E.1 E.2.1 d_M_done_22 rfl (lv_at hl 1 rfl) ?_
    exact xr_lret E hr hk hS1 (fun t ht _ => Or.inl ⟨h1, rfl, by rw [ht]; exact hP1⟩) d_M_done_23
  · skip
    have h1 : gd = false := by
      cases gd
      · rfl
      · exact absurd h1 (by decide)
    refine lv_aload_n E.1 E.2.1 d_M_done_7 rfl (lv_at hl 0 rfl) ?_
    refine lv_iload_n E.1 E.2.1 d_M_done_8 rfl (lv_at hl 2 rfl) ?_
    refine xg_goes (xc_V E xGT (m_fail l D b r cJ cZ β n q 0 rd gd hne (nI cd)) vw_M_fail (by decide) (wM.call hP hK) (PM.recv hP hK) rfl hl.1 rfl (Nat.le_of_ble_eq_true rfl) d_M_done_9) hS (fun q _ h => h) (fun q h => h) (fun v st t locs1 h0 hal hrt hS1 hz hkp => ?_) (fun x st t locs1 h0 hal hth => hth.elim)
    obtain ⟨rfl, hP1⟩ := hrt
    refine W.eq (g2 := F0 m 12 ls [.int 0]) rfl ?_
    generalize t.heap = H1 at hP1 hS1 hz hkp ⊢
    refine lv_i2l (v := (0 : Int32).toInt64) E.1 E.2.1 d_M_done_12 rfl ?_
    exact xr_lret E hr hk hS1 (fun t ht _ => Or.inr ⟨h1, rfl, by rw [ht]; exact hP1⟩) d_M_done_13
set_option maxHeartbeats 4000000 in
set_option maxRecDepth 100000 in
theorem m_get (l : Launch) (D : va_G) (b r : Nat) (cJ cZ : ClassId) (β : Nat → Bool) (n q : Nat) (fa : Int32) (rd : Nat) (gd : Bool) (k : Nat) (hn : n ≤ 65536) (hrd : rd ≤ 65536) (hk64 : k ≤ 64) (hne : b ≠ r) : xM l y_M_get w_M_get (xrm 0) [.ref b, .int (nI k)] (wM D b r cJ cZ β n q fa rd gd) (xA2 b r) (fun v _ t => (gd = true ∧ rd + k ≤ n ∧ v = some (.long (lN (xv β rd k))) ∧ PM D b r cZ β n q fa (rd + k) true t.heap) ∨ (¬ (gd = true ∧ rd + k ≤ n) ∧ v = some (.long 0) ∧ PM D b r cZ β n q fa rd false t.heap)) (fun _ _ _ => False) := by
  refine xM.of (by decide) ?_
  intro p e s m args below meth c hav E hr hk hh hnm hwM
  subst hav
  obtain ⟨hP, hK⟩ := hwM
  have hS : va_S (xA2 b r) s.heap s.heap [] := va_S.rf
  have key : ∀ (d i : Nat) (H : Heap) (locs : List Loc) (ls : Array Slot), gd = true → rd + k ≤ n → i + d = k → PM D b r cZ β n q fa (rd + i) true H → va_S (xA2 b r) s.heap H locs → lv_has ls 5 [(4, .int (nI i)), (2, .long (lN (xv β rd i))), (0, .ref b), (1, .int (nI k))] →
      W p l e (xrm 0) s m [Value.ref b, .int (nI k)].toArray below meth c H locs 0 0 (xl_MQ below (xl_Q (xA2 b r) (fun v _ t => (gd = true ∧ rd + k ≤ n ∧ v = some (.long (lN (xv β rd k))) ∧ PM D b r cZ β n q fa (rd + k) true t.heap) ∨ (¬ (gd = true ∧ rd + k ≤ n) ∧ v = some (.long 0) ∧ PM D b r cZ β n q fa rd false t.heap)) (fun _ _ _ => False)) [Value.ref b, .int (nI k)].toArray s (xl_k 0 1) (xl_k 0 6) (xA2 b r)) (F0 m 23 ls []) := by
    intro d
    induction d with
    | zero =>
      intro i H locs ls hgd hrk hid hP hS hl
      have hik : i = k := hid
      subst hik
      refine lv_iload E.1 E.2.1 d_M_get_23 (lv_at hl 0 rfl) ?_
      refine lv_iload_n E.1 E.2.1 d_M_get_25 rfl (lv_at hl 3 rfl) ?_
      refine lv_icmp_ge (tgt := 74) E.1 E.2.1 d_M_get_26 (by decide) (fun h1 => ?_) (fun h1 => ?_)
      · skip
        refine lv_lload_n E.1 E.2.1 d_M_get_74 rfl (lv_at hl 1 rfl) ?_
        exact xr_lret E hr hk hS (fun t ht _ => Or.inl ⟨hgd, hrk, rfl, by rw [ht]; exact hP⟩) d_M_get_75
      · skip
        exact absurd (nI_le (Nat.le_refl _) (by omega)) h1
    | succ d ih =>
      intro i H locs ls hgd hrk hid hP hS hl
      refine lv_iload E.1 E.2.1 d_M_get_23 (lv_at hl 0 rfl) ?_
      refine lv_iload_n E.1 E.2.1 d_M_get_25 rfl (lv_at hl 3 rfl) ?_
      refine lv_icmp_ge (tgt := 74) E.1 E.2.1 d_M_get_26 (by decide) (fun h1 => ?_) (fun h1 => ?_)
      · skip
        exact absurd ((nI_leI (by omega) (by omega)).mp h1) (by omega)
      · skip
        refine lv_aload_n E.1 E.2.1 d_M_get_29 rfl (lv_at hl 2 rfl) ?_
        refine gm_good E hK hP d_M_get_30 ?_
        refine lv_if_eq (tgt := 74) E.1 E.2.1 d_M_get_33 (by decide) (fun h2 => ?_) (fun h2 => ?_)
        · skip
          exact absurd h2 (by decide)
        · skip
          refine lv_lload_n E.1 E.2.1 d_M_get_36 rfl (lv_at hl 1 rfl) ?_
          refine lv_iconst (v := 1) E.1 E.2.1 d_M_get_37 (by decide) ?_
          refine lv_lshl (v := xsl (lN (xv β rd i)) 1) E.1 E.2.1 d_M_get_38 rfl ?_
          refine lv_aload_n E.1 E.2.1 d_M_get_39 rfl (lv_at hl 2 rfl) ?_
          refine gm_row E hK hP d_M_get_40 ?_
          refine lv_aload_n E.1 E.2.1 d_M_get_43 rfl (lv_at hl 2 rfl) ?_
          refine gm_reading E hK hP d_M_get_44 ?_
          refine va_zald E.1 E.2.1 hK hP 1 1 rfl rfl (vp_in_nI (by omega) (by decide)) d_M_get_47 ?_
          refine xl_ti (y := (nI (β (rd + i)).toNat)) (by rw [nI_clamp (by omega)]; exact xz_n β (rd + i)) ?_
          refine xl_join (fun z : Int64 => z = lN (β (rd + i)).toNat) (fun z => F0 m 56 ls [.long z, .long (xsl (lN (xv β rd i)) 1)]) (fun z hz => ?_) (fun hj => ?_)
          · subst hz
            refine lv_lor E.1 E.2.1 d_M_get_56 ?_
            refine xl_tl (y := (lN (xv β rd (i + 1)))) (xv_step (by omega)) ?_
            refine lv_lstore_n E.1 E.2.1 d_M_get_57 rfl hl (by decide) rfl (fun ls hl => ?_)
            have hl : lv_has ls 5 [(2, .long (lN (xv β rd (i + 1)))), (4, .int (nI i)), (0, .ref b), (1, .int (nI k))] := hl
            refine lv_aload_n E.1 E.2.1 d_M_get_58 rfl (lv_at hl 2 rfl) ?_
            refine lv_dup E.1 E.2.1 d_M_get_59 rfl ?_
            refine gm_reading E hK hP d_M_get_60 ?_
            refine lv_iconst (v := 1) E.1 E.2.1 d_M_get_63 (by decide) ?_
            refine lv_iadd E.1 E.2.1 d_M_get_64 ?_
            refine xl_ti (y := (nI (rd + (i + 1)))) (nI_1 (rd + i)) ?_
            refine sm_reading E hK hP hne hS d_M_get_65 (fun H2 locs2 hP2 hS2 => ?_)
            refine lv_iinc (k := 1) (v := (nI i) + 1) E.1 E.2.1 d_M_get_68 hl rfl rfl (by decide) rfl (fun ls hl => ?_)
            have hl : lv_has ls 5 [(4, .int ((nI i) + 1)), (2, .long (lN (xv β rd (i + 1)))), (0, .ref b), (1, .int (nI k))] := hl
            refine lv_goto (tgt := 23) E.1 E.2.1 d_M_get_71 (by decide) ?_
            rw [nI_1] at hl
            exact ih (i + 1) H2 locs2 ls hgd hrk (by omega) hP2 hS2 hl
          · skip
            refine lv_if_eq (tgt := 55) E.1 E.2.1 d_M_get_48 (by decide) (fun h3 => ?_) (fun h3 => ?_)
            · skip
              refine lv_lconst (v := 0) E.1 E.2.1 d_M_get_55 (by decide) ?_
              refine hj _ ?_
              cases hb : β (rd + i)
              · rfl
              · rw [hb] at h3
                exact absurd h3 (by decide)
            · skip
              refine lv_lconst (v := 1) E.1 E.2.1 d_M_get_51 (by decide) ?_
              refine lv_goto (tgt := 56) E.1 E.2.1 d_M_get_52 (by decide) ?_
              refine hj _ ?_
              cases hb : β (rd + i)
              · rw [hb] at h3
                exact absurd rfl h3
              · rfl
  have bad : ∀ (H : Heap) (locs : List Loc) (ls : Array Slot), ¬ (gd = true ∧ rd + k ≤ n) → PM D b r cZ β n q fa rd false H → va_S (xA2 b r) s.heap H locs → lv_has ls 5 [(0, .ref b), (1, .int (nI k))] →
      W p l e (xrm 0) s m [Value.ref b, .int (nI k)].toArray below meth c H locs 0 0 (xl_MQ below (xl_Q (xA2 b r) (fun v _ t => (gd = true ∧ rd + k ≤ n ∧ v = some (.long (lN (xv β rd k))) ∧ PM D b r cZ β n q fa (rd + k) true t.heap) ∨ (¬ (gd = true ∧ rd + k ≤ n) ∧ v = some (.long 0) ∧ PM D b r cZ β n q fa rd false t.heap)) (fun _ _ _ => False)) [Value.ref b, .int (nI k)].toArray s (xl_k 0 1) (xl_k 0 6) (xA2 b r)) (F0 m 18 ls []) := by
    intro H locs ls hno hP hS hl
    refine lv_lconst (v := 0) E.1 E.2.1 d_M_get_18 (by decide) ?_
    refine lv_lstore_n E.1 E.2.1 d_M_get_19 rfl hl (by decide) rfl (fun ls hl => ?_)
    have hl : lv_has ls 5 [(2, .long 0), (0, .ref b), (1, .int (nI k))] := hl
    refine lv_iconst (v := 0) E.1 E.2.1 d_M_get_20 (by decide) ?_
    refine lv_istore E.1 E.2.1 d_M_get_21 hl (by decide) rfl (fun ls hl => ?_)
    have hl : lv_has ls 5 [(4, .int 0), (2, .long 0), (0, .ref b), (1, .int (nI k))] := hl
    refine lv_iload E.1 E.2.1 d_M_get_23 (lv_at hl 0 rfl) ?_
    refine lv_iload_n E.1 E.2.1 d_M_get_25 rfl (lv_at hl 3 rfl) ?_
    refine lv_icmp_ge (tgt := 74) E.1 E.2.1 d_M_get_26 (by decide) (fun h1 => ?_) (fun h1 => ?_)
    · skip
      refine lv_lload_n E.1 E.2.1 d_M_get_74 rfl (lv_at hl 1 rfl) ?_
      exact xr_lret E hr hk hS (fun t ht _ => Or.inr ⟨hno, rfl, by rw [ht]; exact hP⟩) d_M_get_75
    · skip
      refine lv_aload_n E.1 E.2.1 d_M_get_29 rfl (lv_at hl 2 rfl) ?_
      refine gm_good E hK hP d_M_get_30 ?_
      refine lv_if_eq (tgt := 74) E.1 E.2.1 d_M_get_33 (by decide) (fun h2 => ?_) (fun h2 => ?_)
      · skip
        refine lv_lload_n E.1 E.2.1 d_M_get_74 rfl (lv_at hl 1 rfl) ?_
        exact xr_lret E hr hk hS (fun t ht _ => Or.inr ⟨hno, rfl, by rw [ht]; exact hP⟩) d_M_get_75
      · skip
        exact absurd rfl h2
  refine xl_entry _ (Nat.le_of_ble_eq_true rfl) (fun ls hl => ?_)
  have hl : lv_has ls 5 [(0, .ref b), (1, .int (nI k))] := hl
  refine lv_aload_n E.1 E.2.1 d_M_get_0 rfl (lv_at hl 0 rfl) ?_
  refine gm_reading E hK hP d_M_get_1 ?_
  refine lv_iload_n E.1 E.2.1 d_M_get_4 rfl (lv_at hl 1 rfl) ?_
  refine lv_iadd E.1 E.2.1 d_M_get_5 ?_
  refine xl_ti (y := (nI (rd + k))) (nI_add rd k) ?_
  refine lv_aload_n E.1 E.2.1 d_M_get_6 rfl (lv_at hl 0 rfl) ?_
  refine gm_size E hK hP d_M_get_7 ?_
  refine lv_icmp_le (tgt := 18) E.1 E.2.1 d_M_get_10 (by decide) (fun h1 => ?_) (fun h1 => ?_)
  · skip
    have h1 : rd + k ≤ n := (nI_leI (by omega) (by omega)).mp h1
    by_cases hg : gd = true
    · subst hg
      refine lv_lconst (v := 0) E.1 E.2.1 d_M_get_18 (by decide) ?_
      refine lv_lstore_n E.1 E.2.1 d_M_get_19 rfl hl (by decide) rfl (fun ls hl => ?_)
      have hl : lv_has ls 5 [(2, .long 0), (0, .ref b), (1, .int (nI k))] := hl
      refine lv_iconst (v := 0) E.1 E.2.1 d_M_get_20 (by decide) ?_
      refine lv_istore E.1 E.2.1 d_M_get_21 hl (by decide) rfl (fun ls hl => ?_)
      have hl : lv_has ls 5 [(4, .int 0), (2, .long 0), (0, .ref b), (1, .int (nI k))] := hl
      exact key k 0 s.heap [] ls rfl h1 (Nat.zero_add k) hP hS hl
    · have hg : gd = false := by
        cases gd
        · rfl
        · exact absurd rfl hg
      subst hg
      exact bad s.heap [] ls (fun z => absurd z.1 (by decide)) hP hS hl
  · skip
    have h1 : ¬ rd + k ≤ n := fun z => h1 ((nI_leI (by omega) (by omega)).mpr z)
    refine lv_aload_n E.1 E.2.1 d_M_get_13 rfl (lv_at hl 0 rfl) ?_
    refine lv_iconst (v := 0) E.1 E.2.1 d_M_get_14 (by decide) ?_
    refine sm_good (g := false) E hK hP hne hS d_M_get_15 (fun H1 locs1 hP1 hS1 => ?_)
    exact bad H1 locs1 ls (fun z => h1 z.2) hP1 hS1 hl
end XL23

