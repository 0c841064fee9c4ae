/-! The reference: a length and a number read. -/
section XL27
def xLn (D : va_G) (b r : Nat) (cZ : ClassId) (β : Nat → Bool) (n q : Nat) (fa : Int32) (rd : Nat) : Option Value → State → State → Prop := fun v _ t => (∃ len wd, xlen β n rd = some (len, wd) ∧ v = some (.int (nI len)) ∧ PM D b r cZ β n q fa (rd + wd) true t.heap) ∨ (xlen β n rd = none ∧ ∃ (z : Int32) (u : Nat), v = some (.int z) ∧ PM D b r cZ β n q fa u false t.heap)
set_option maxHeartbeats 4000000 in
set_option maxRecDepth 100000 in
theorem m_length (l : Launch) (D : va_G) (b r : Nat) (cJ cZ : ClassId) (β : Nat → Bool) (n q : Nat) (fa : Int32) (rd : Nat) (hn : n ≤ 65536) (hrd : rd ≤ n) (hne : b ≠ r) : xM l y_M_length w_M_length (xrm 1) [.ref b] (wM D b r cJ cZ β n q fa rd true) (xA2 b r) (xLn D b r cZ β n q fa rd) (fun _ _ _ => False) := by
  refine xM.of (by decide) ?_
  intro p e s m args below meth c hav E hr hk hh hnm hwM
  subst hav
  obtain ⟨hP, hK⟩ := hwM
  have hS : va_S (xA2 b r) s.heap s.heap [] := va_S.rf
  have ret36 : ∀ (H : Heap) (locs : List Loc) (ls : Array Slot) (z wd : Nat) (g : Bool), z < 2 ^ 31 → (g = true → ¬ z < 128 → xlen β n rd = some (z, wd)) → (g = false ∨ z < 128 → xlen β n rd = none) → PM D b r cZ β n q fa (rd + wd) g H → va_S (xA2 b r) s.heap H locs → lv_has ls 2 [(1, .int (nI z)), (0, .ref b)] →
      W p l e (xrm 1) s m [Value.ref b].toArray below meth c H locs 0 0 (xl_MQ below (xl_Q (xA2 b r) (xLn D b r cZ β n q fa rd) (fun _ _ _ => False)) [Value.ref b].toArray s (xl_k 0 1) (xl_k 0 6) (xA2 b r)) (F0 m 36 ls []) := by
    intro H locs ls z wd g hz hA hB hP hS hl
    refine lv_iload_n E.1 E.2.1 d_M_length_36 rfl (lv_at hl 0 rfl) ?_
    refine lv_sipush (v := 128) E.1 E.2.1 d_M_length_37 (by decide) ?_
    refine lv_icmp_ge (tgt := 48) E.1 E.2.1 d_M_length_40 (by decide) (fun h1 => ?_) (fun h1 => ?_)
    · skip
      have h1 : 128 ≤ z := (nI_leI (a := 128) (by decide) hz).mp h1
      refine lv_iload_n E.1 E.2.1 d_M_length_48 rfl (lv_at hl 0 rfl) ?_
      refine xr_iret E hr hk hS (fun t ht _ => ?_) d_M_length_49
      cases g
      · exact Or.inr ⟨hB (Or.inl rfl), _, _, rfl, by rw [ht]; exact hP⟩
      · exact Or.inl ⟨_, _, hA rfl (by omega), rfl, by rw [ht]; exact hP⟩
    · skip
      have h1 : ¬ 128 ≤ z := fun a => h1 ((nI_leI (a := 128) (by decide) hz).mpr a)
      refine lv_aload_n E.1 E.2.1 d_M_length_43 rfl (lv_at hl 1 rfl) ?_
      refine lv_iconst (v := 0) E.1 E.2.1 d_M_length_44 (by decide) ?_
      refine sm_good (g := false) E hK hP hne hS d_M_length_45 (fun H2 locs2 hP2 hS2 => ?_)
      refine lv_iload_n E.1 E.2.1 d_M_length_48 rfl (lv_at hl 0 rfl) ?_
      exact xr_iret E hr hk hS2 (fun t ht _ => Or.inr ⟨hB (Or.inr (by omega)), _, _, rfl, by rw [ht]; exact hP2⟩) d_M_length_49
  have ret73 : ∀ (H : Heap) (locs : List Loc) (ls : Array Slot) (z wd : Nat) (g : Bool), z < 2 ^ 16 → (g = true → xlen β n rd = some (16384 * z, wd)) → (g = false → xlen β n rd = none) → PM D b r cZ β n q fa (rd + wd) g H → va_S (xA2 b r) s.heap H locs → lv_has ls 2 [(1, .int (nI z)), (0, .ref b)] →
      W p l e (xrm 1) s m [Value.ref b].toArray below meth c H locs 0 0 (xl_MQ below (xl_Q (xA2 b r) (xLn D b r cZ β n q fa rd) (fun _ _ _ => False)) [Value.ref b].toArray s (xl_k 0 1) (xl_k 0 6) (xA2 b r)) (F0 m 73 ls []) := by
    intro H locs ls z wd g hz hA hB hP hS hl
    refine lv_sipush (v := 16384) E.1 E.2.1 d_M_length_73 (by decide) ?_
    refine lv_iload_n E.1 E.2.1 d_M_length_76 rfl (lv_at hl 0 rfl) ?_
    refine lv_imul E.1 E.2.1 d_M_length_77 ?_
    refine xl_ti (y := (nI (16384 * z))) (pk_mul 16384 z) ?_
    refine xr_iret E hr hk hS (fun t ht _ => ?_) d_M_length_78
    cases g
    · exact Or.inr ⟨hB rfl, _, _, rfl, by rw [ht]; exact hP⟩
    · exact Or.inl ⟨_, _, hA rfl, rfl, by rw [ht]; exact hP⟩
  have ret58 : ∀ (H : Heap) (locs : List Loc) (ls : Array Slot) (z wd : Nat) (g : Bool), z < 2 ^ 16 → (g = true → ¬ (z < 1 ∨ 4 < z) → xlen β n rd = some (16384 * z, wd)) → (g = false ∨ (z < 1 ∨ 4 < z) → xlen β n rd = none) → PM D b r cZ β n q fa (rd + wd) g H → va_S (xA2 b r) s.heap H locs → lv_has ls 2 [(1, .int (nI z)), (0, .ref b)] →
      W p l e (xrm 1) s m [Value.ref b].toArray below meth c H locs 0 0 (xl_MQ below (xl_Q (xA2 b r) (xLn D b r cZ β n q fa rd) (fun _ _ _ => False)) [Value.ref b].toArray s (xl_k 0 1) (xl_k 0 6) (xA2 b r)) (F0 m 58 ls []) := by
    intro H locs ls z wd g hz hA hB hP hS hl
    refine xl_join (fun _ : Unit => z < 1 ∨ 4 < z) (fun _ => F0 m 68 ls []) (fun _ hlt => ?_) (fun hj => ?_)
    · skip
      refine lv_aload_n E.1 E.2.1 d_M_length_68 rfl (lv_at hl 1 rfl) ?_
      refine lv_iconst (v := 0) E.1 E.2.1 d_M_length_69 (by decide) ?_
      refine sm_good (g := false) E hK hP hne hS d_M_length_70 (fun H2 locs2 hP2 hS2 => ?_)
      exact ret73 H2 locs2 ls z wd false hz (fun a => by cases a) (fun _ => hB (Or.inr hlt)) hP2 hS2 hl
    · skip
      refine lv_iload_n E.1 E.2.1 d_M_length_58 rfl (lv_at hl 0 rfl) ?_
      refine lv_iconst (v := 1) E.1 E.2.1 d_M_length_59 (by decide) ?_
      refine lv_icmp_lt (tgt := 68) E.1 E.2.1 d_M_length_60 (by decide) (fun h1 => ?_) (fun h1 => ?_)
      · skip
        exact hj () (Or.inl ((nI_ltI (b := 1) (by omega) (by decide)).mp h1))
      · skip
        have h1 : ¬ z < 1 := fun a => h1 ((nI_ltI (b := 1) (by omega) (by decide)).mpr a)
        refine lv_iload_n E.1 E.2.1 d_M_length_63 rfl (lv_at hl 0 rfl) ?_
        refine lv_iconst (v := 4) E.1 E.2.1 d_M_length_64 (by decide) ?_
        refine lv_icmp_le (tgt := 73) E.1 E.2.1 d_M_length_65 (by decide) (fun h2 => ?_) (fun h2 => ?_)
        · skip
          have h2 : z ≤ 4 := (nI_leI (b := 4) (by omega) (by decide)).mp h2
          exact ret73 H locs ls z wd g hz (fun a => hA a (by omega)) (fun a => hB (Or.inl a)) hP hS hl
        · skip
          have h2 : ¬ z ≤ 4 := fun a => h2 ((nI_leI (b := 4) (by omega) (by decide)).mpr a)
          exact hj () (Or.inr (by omega))
  refine xl_entry _ (Nat.le_of_ble_eq_true rfl) (fun ls hl => ?_)
  have hl : lv_has ls 2 [(0, .ref b)] := hl
  refine lv_aload_n E.1 E.2.1 d_M_length_0 rfl (lv_at hl 0 rfl) ?_
  refine lv_iconst (v := 1) E.1 E.2.1 d_M_length_1 (by decide) ?_
  refine xg_goes (xc_V E xGT (m_get l D b r cJ cZ β n q fa rd true 1 hn (by omega) (by decide) hne) vw_M_get (by decide) (wM.call hP hK) (PM.recv hP hK) rfl hl.1 rfl (Nat.le_of_ble_eq_true rfl) d_M_length_2) hS (fun q _ h => h) (fun q h => h) (fun v st t locs1 h0 hal hrt hS1 hz hkp => ?_) (fun x st t locs1 h0 hal hth => hth.elim)
  rcases hrt with ⟨-, g1, rfl, hP1⟩ | ⟨g1, rfl, hP1⟩
  · skip
    refine W.eq (g2 := F0 m 5 ls [.long (lN (xv β rd 1))]) rfl ?_
    generalize t.heap = H1 at hP1 hS1 hz hkp ⊢
    refine lv_lconst (v := 0) E.1 E.2.1 d_M_length_5 (by decide) ?_
    refine xl_lc_ne (tgt := 18) E.1 E.2.1 d_M_length_6 d_M_length_7 (by decide) (fun h2 => ?_) (fun h2 => ?_)
    · skip
      have h2 : ¬ β rd = false := fun z => h2 (xv_10.mpr z)
      refine lv_aload_n E.1 E.2.1 d_M_length_18 rfl (lv_at hl 0 rfl) ?_
      refine lv_iconst (v := 1) E.1 E.2.1 d_M_length_19 (by decide) ?_
      refine xg_goes (xc_V E xGT (m_get l D b r cJ cZ β n q fa (rd + 1) true 1 hn (by omega) (by decide) hne) vw_M_get (by decide) (wM.call hP1 hK) (PM.recv hP1 hK) rfl hl.1 rfl (Nat.le_of_ble_eq_true rfl) d_M_length_20) hS1 (fun q _ h => h) (fun q h => h) (fun v st t locs1 h0 hal hrt hS2 hz hkp => ?_) (fun x st t locs1 h0 hal hth => hth.elim)
      rcases hrt with ⟨-, g3, rfl, hP2⟩ | ⟨g3, rfl, hP2⟩
      · skip
        refine W.eq (g2 := F0 m 23 ls [.long (lN (xv β (rd + 1) 1))]) rfl ?_
        generalize t.heap = H2 at hP2 hS2 hz hkp ⊢
        refine lv_lconst (v := 0) E.1 E.2.1 d_M_length_23 (by decide) ?_
        refine xl_lc_ne (tgt := 50) E.1 E.2.1 d_M_length_24 d_M_length_25 (by decide) (fun h4 => ?_) (fun h4 => ?_)
        · skip
          have h4 : ¬ β (rd + 1) = false := fun z => h4 (xv_10.mpr z)
          have hX : xlen β n rd = if n < rd + 8 then none else if xv β (rd + 2) 6 < 1 ∨ 4 < xv β (rd + 2) 6 then none else some (16384 * xv β (rd + 2) 6, 8) := by
            unfold xlen
            rw [if_neg (by omega), if_neg h2, if_neg (by omega), if_neg h4]
          have hv := xv_lt β (rd + 2) 6
          refine lv_aload_n E.1 E.2.1 d_M_length_50 rfl (lv_at hl 0 rfl) ?_
          refine lv_bipush (v := 6) E.1 E.2.1 d_M_length_51 (by decide) ?_
          refine xg_goes (xc_V E xGT (m_get l D b r cJ cZ β n q fa (rd + 2) true 6 hn (by omega) (by decide) hne) vw_M_get (by decide) (wM.call hP2 hK) (PM.recv hP2 hK) rfl hl.1 rfl (Nat.le_of_ble_eq_true rfl) d_M_length_53) hS2 (fun q _ h => h) (fun q h => h) (fun v st t locs1 h0 hal hrt hS3 hz hkp => ?_) (fun x st t locs1 h0 hal hth => hth.elim)
          rcases hrt with ⟨-, g5, rfl, hP3⟩ | ⟨g5, rfl, hP3⟩
          · skip
            refine W.eq (g2 := F0 m 56 ls [.long (lN (xv β (rd + 2) 6))]) rfl ?_
            generalize t.heap = H3 at hP3 hS3 hz hkp ⊢
            refine lv_l2i (v := (lN (xv β (rd + 2) 6)).toInt32) E.1 E.2.1 d_M_length_56 rfl ?_
            refine xl_ti (y := (nI (xv β (rd + 2) 6))) (lN_i _) ?_
            refine lv_istore_n E.1 E.2.1 d_M_length_57 rfl hl (by decide) rfl (fun ls hl => ?_)
            have hl : lv_has ls 2 [(1, .int (nI (xv β (rd + 2) 6))), (0, .ref b)] := hl
            exact ret58 H3 _ ls _ 8 true (by omega) (fun _ a => by rw [hX, if_neg (by omega), if_neg a]) (fun a => by rw [hX, if_neg (by omega), if_pos (a.elim (fun z => by cases z) id)]) hP3 hS3 hl
          · skip
            refine W.eq (g2 := F0 m 56 ls [.long 0]) rfl ?_
            generalize t.heap = H3 at hP3 hS3 hz hkp ⊢
            refine lv_l2i (v := (0 : Int64).toInt32) E.1 E.2.1 d_M_length_56 rfl ?_
            refine xl_ti (y := (nI 0)) (by decide) ?_
            refine lv_istore_n E.1 E.2.1 d_M_length_57 rfl hl (by decide) rfl (fun ls hl => ?_)
            have hl : lv_has ls 2 [(1, .int (nI 0)), (0, .ref b)] := hl
            exact ret58 H3 _ ls _ 2 false (by decide) (fun a => by cases a) (fun _ => by rw [hX, if_pos (Nat.not_le.mp (fun z => g5 ⟨rfl, by omega⟩))]) hP3 hS3 hl
        · skip
          have h4 : β (rd + 1) = false := xv_10.mp h4
          have hX : xlen β n rd = if n < rd + 16 then none else if xv β (rd + 2) 14 < 128 then none else some (xv β (rd + 2) 14, 16) := by
            unfold xlen
            rw [if_neg (by omega), if_neg h2, if_neg (by omega), if_pos h4]
          have hv := xv_lt β (rd + 2) 14
          refine lv_aload_n E.1 E.2.1 d_M_length_28 rfl (lv_at hl 0 rfl) ?_
          refine lv_bipush (v := 14) E.1 E.2.1 d_M_length_29 (by decide) ?_
          refine xg_goes (xc_V E xGT (m_get l D b r cJ cZ β n q fa (rd + 2) true 14 hn (by omega) (by decide) hne) vw_M_get (by decide) (wM.call hP2 hK) (PM.recv hP2 hK) rfl hl.1 rfl (Nat.le_of_ble_eq_true rfl) d_M_length_31) hS2 (fun q _ h => h) (fun q h => h) (fun v st t locs1 h0 hal hrt hS3 hz hkp => ?_) (fun x st t locs1 h0 hal hth => hth.elim)
          rcases hrt with ⟨-, g5, rfl, hP3⟩ | ⟨g5, rfl, hP3⟩
          · skip
            refine W.eq (g2 := F0 m 34 ls [.long (lN (xv β (rd + 2) 14))]) rfl ?_
            generalize t.heap = H3 at hP3 hS3 hz hkp ⊢
            refine lv_l2i (v := (lN (xv β (rd + 2) 14)).toInt32) E.1 E.2.1 d_M_length_34 rfl ?_
            refine xl_ti (y := (nI (xv β (rd + 2) 14))) (lN_i _) ?_
            refine lv_istore_n E.1 E.2.1 d_M_length_35 rfl hl (by decide) rfl (fun ls hl => ?_)
            have hl : lv_has ls 2 [(1, .int (nI (xv β (rd + 2) 14))), (0, .ref b)] := hl
            exact ret36 H3 _ ls _ 16 true (by omega) (fun _ a => by rw [hX, if_neg (by omega), if_neg a]) (fun a => by rw [hX, if_neg (by omega), if_pos (a.elim (fun z => by cases z) id)]) hP3 hS3 hl
          · skip
            refine W.eq (g2 := F0 m 34 ls [.long 0]) rfl ?_
            generalize t.heap = H3 at hP3 hS3 hz hkp ⊢
            refine lv_l2i (v := (0 : Int64).toInt32) E.1 E.2.1 d_M_length_34 rfl ?_
            refine xl_ti (y := (nI 0)) (by decide) ?_
            refine lv_istore_n E.1 E.2.1 d_M_length_35 rfl hl (by decide) rfl (fun ls hl => ?_)
            have hl : lv_has ls 2 [(1, .int (nI 0)), (0, .ref b)] := hl
            exact ret36 H3 _ ls _ 2 false (by decide) (fun a => by cases a) (fun _ => by rw [hX, if_pos (Nat.not_le.mp (fun z => g5 ⟨rfl, by omega⟩))]) hP3 hS3 hl
      · skip
        refine W.eq (g2 := F0 m 23 ls [.long 0]) rfl ?_
        generalize t.heap = H2 at hP2 hS2 hz hkp ⊢
        have hX : xlen β n rd = none := by
          unfold xlen
          rw [if_neg (by omega), if_neg h2, if_pos (Nat.not_le.mp (fun z => g3 ⟨rfl, by omega⟩))]
        refine lv_lconst (v := 0) E.1 E.2.1 d_M_length_23 (by decide) ?_
        refine xl_lc_ne (tgt := 50) E.1 E.2.1 d_M_length_24 d_M_length_25 (by decide) (fun h4 => ?_) (fun h4 => ?_)
        · skip
          exact absurd rfl h4
        · skip
          refine lv_aload_n E.1 E.2.1 d_M_length_28 rfl (lv_at hl 0 rfl) ?_
          refine lv_bipush (v := 14) E.1 E.2.1 d_M_length_29 (by decide) ?_
          refine xg_goes (xc_V E xGT (m_get l D b r cJ cZ β n q fa (rd + 1) false 14 hn (by omega) (by decide) hne) vw_M_get (by decide) (wM.call hP2 hK) (PM.recv hP2 hK) rfl hl.1 rfl (Nat.le_of_ble_eq_true rfl) d_M_length_31) hS2 (fun q _ h => h) (fun q h => h) (fun v st t locs1 h0 hal hrt hS3 hz hkp => ?_) (fun x st t locs1 h0 hal hth => hth.elim)
          rcases hrt with ⟨g5, -⟩ | ⟨-, rfl, hP3⟩
          · cases g5
          · skip
            refine W.eq (g2 := F0 m 34 ls [.long 0]) rfl ?_
            generalize t.heap = H3 at hP3 hS3 hz hkp ⊢
            refine lv_l2i (v := (0 : Int64).toInt32) E.1 E.2.1 d_M_length_34 rfl ?_
            refine xl_ti (y := (nI 0)) (by decide) ?_
            refine lv_istore_n E.1 E.2.1 d_M_length_35 rfl hl (by decide) rfl (fun ls hl => ?_)
            have hl : lv_has ls 2 [(1, .int (nI 0)), (0, .ref b)] := hl
            exact ret36 H3 _ ls _ 1 false (by decide) (fun a => by cases a) (fun _ => hX) hP3 hS3 hl
    · skip
      have h2 : β rd = false := xv_10.mp h2
      have hX : xlen β n rd = if n < rd + 8 then none else some (xv β (rd + 1) 7, 8) := by
        unfold xlen
        rw [if_neg (by omega), if_pos h2]
      refine lv_aload_n E.1 E.2.1 d_M_length_10 rfl (lv_at hl 0 rfl) ?_
      refine lv_bipush (v := 7) E.1 E.2.1 d_M_length_11 (by decide) ?_
      refine xg_goes (xc_V E xGT (m_get l D b r cJ cZ β n q fa (rd + 1) true 7 hn (by omega) (by decide) hne) vw_M_get (by decide) (wM.call hP1 hK) (PM.recv hP1 hK) rfl hl.1 rfl (Nat.le_of_ble_eq_true rfl) d_M_length_13) hS1 (fun q _ h => h) (fun q h => h) (fun v st t locs1 h0 hal hrt hS2 hz hkp => ?_) (fun x st t locs1 h0 hal hth => hth.elim)
      rcases hrt with ⟨-, g3, rfl, hP2⟩ | ⟨g3, rfl, hP2⟩
      · skip
        refine W.eq (g2 := F0 m 16 ls [.long (lN (xv β (rd + 1) 7))]) rfl ?_
        generalize t.heap = H2 at hP2 hS2 hz hkp ⊢
        refine lv_l2i (v := (lN (xv β (rd + 1) 7)).toInt32) E.1 E.2.1 d_M_length_16 rfl ?_
        refine xl_ti (y := (nI (xv β (rd + 1) 7))) (lN_i _) ?_
        exact xr_iret E hr hk hS2 (fun t ht _ => Or.inl ⟨_, 8, by rw [hX, if_neg (by omega)], rfl, by rw [ht]; exact hP2⟩) d_M_length_17
      · skip
        refine W.eq (g2 := F0 m 16 ls [.long 0]) rfl ?_
        generalize t.heap = H2 at hP2 hS2 hz hkp ⊢
        refine lv_l2i (v := (0 : Int64).toInt32) E.1 E.2.1 d_M_length_16 rfl ?_
        exact xr_iret E hr hk hS2 (fun t ht _ => Or.inr ⟨by rw [hX, if_pos (Nat.not_le.mp (fun z => g3 ⟨rfl, by omega⟩))], _, _, rfl, by rw [ht]; exact hP2⟩) d_M_length_17
  · skip
    refine W.eq (g2 := F0 m 5 ls [.long 0]) rfl ?_
    generalize t.heap = H1 at hP1 hS1 hz hkp ⊢
    have hX : xlen β n rd = none := by
      unfold xlen
      rw [if_pos (Nat.not_le.mp (fun z => g1 ⟨rfl, by omega⟩))]
    refine lv_lconst (v := 0) E.1 E.2.1 d_M_length_5 (by decide) ?_
    refine xl_lc_ne (tgt := 18) E.1 E.2.1 d_M_length_6 d_M_length_7 (by decide) (fun h2 => ?_) (fun h2 => ?_)
    · skip
      exact absurd rfl h2
    · skip
      refine lv_aload_n E.1 E.2.1 d_M_length_10 rfl (lv_at hl 0 rfl) ?_
      refine lv_bipush (v := 7) E.1 E.2.1 d_M_length_11 (by decide) ?_
      refine xg_goes (xc_V E xGT (m_get l D b r cJ cZ β n q fa rd false 7 hn (by omega) (by decide) hne) vw_M_get (by decide) (wM.call hP1 hK) (PM.recv hP1 hK) rfl hl.1 rfl (Nat.le_of_ble_eq_true rfl) d_M_length_13) hS1 (fun q _ h => h) (fun q h => h) (fun v st t locs1 h0 hal hrt hS2 hz hkp => ?_) (fun x st t locs1 h0 hal hth => hth.elim)
      rcases hrt with ⟨g5, -⟩ | ⟨-, rfl, hP2⟩
      · cases g5
      · skip
        refine W.eq (g2 := F0 m 16 ls [.long 0]) rfl ?_
        generalize t.heap = H2 at hP2 hS2 hz hkp ⊢
        refine lv_l2i (v := (0 : Int64).toInt32) E.1 E.2.1 d_M_length_16 rfl ?_
        exact xr_iret E hr hk hS2 (fun t ht _ => Or.inr ⟨hX, _, _, rfl, by rw [ht]; exact hP2⟩) d_M_length_17
set_option maxHeartbeats 4000000 in
set_option maxRecDepth 100000 in
theorem m_takeLength (l : Launch) (D : va_G) (b r : Nat) (cJ cZ : ClassId) (β : Nat → Bool) (n q : Nat) (fa : Int32) (rd : Nat) (gd : Bool) (hn : n ≤ 65536) (hq : q ≤ n) (hne : b ≠ r) : xM l y_M_takeLength w_M_takeLength (xrm 2) [.ref b] (wM D b r cJ cZ β n q fa rd gd) (xA2 b r) (xMi (sp_takeLength (β, n, q)) D b r cZ) (fun _ _ _ => False) := by
  refine xM.of (by decide) ?_
  intro p e s m args below meth c hav E hr hk hh hnm hwM
  subst hav
  obtain ⟨hP, hK⟩ := hwM
  have hS : va_S (xA2 b r) s.heap s.heap [] := va_S.rf
  refine xl_entry _ (Nat.le_of_ble_eq_true rfl) (fun ls hl => ?_)
  have hl : lv_has ls 1 [(0, .ref b)] := hl
  refine lv_aload_n E.1 E.2.1 d_M_takeLength_0 rfl (lv_at hl 0 rfl) ?_
  refine xg_goes (xc_V E xGT (m_begin l D b r cJ cZ β n q fa rd gd hne) vw_M_begin (by decide) (wM.call hP hK) (PM.recv hP hK) rfl hl.1 rfl (Nat.le_of_ble_eq_true rfl) d_M_takeLength_1) hS (fun q _ h => h) (fun q h => h) (fun v st t locs1 h0 hal hrt hS1 hz hkp => ?_) (fun x st t locs1 h0 hal hth => hth.elim)
  obtain ⟨rfl, hP1⟩ := hrt
  refine W.eq (g2 := F0 m 4 ls []) rfl ?_
  generalize t.heap = H1 at hP1 hS1 hz hkp ⊢
  refine lv_aload_n E.1 E.2.1 d_M_takeLength_4 rfl (lv_at hl 0 rfl) ?_
  refine lv_aload_n E.1 E.2.1 d_M_takeLength_5 rfl (lv_at hl 0 rfl) ?_
  refine xg_goes (xc_V E xGT (m_length l D b r cJ cZ β n q 0 q hn hq hne) vw_M_length (by decide) (wM.call hP1 hK) (PM.recv hP1 hK) rfl hl.1 rfl (Nat.le_of_ble_eq_true rfl) d_M_takeLength_6) hS1 (fun q _ h => h) (fun q h => h) (fun v st t locs1 h0 hal hrt hS2 hz hkp => ?_) (fun x st t locs1 h0 hal hth => hth.elim)
  rcases hrt with ⟨len, wd, hX, rfl, hP2⟩ | ⟨hX, z, u, rfl, hP2⟩
  · obtain ⟨hb, -, -⟩ := xlen_ok hX
    have hsp : sp_takeLength (β, n, q) = (0, lN len, (β, n, q + wd)) := by
      unfold sp_takeLength
      rw [hX]
    refine W.eq (g2 := F0 m 9 ls [.int (nI len), .ref b]) rfl ?_
    generalize t.heap = H2 at hP2 hS2 hz hkp ⊢
    refine lv_i2l (v := (nI len).toInt64) E.1 E.2.1 d_M_takeLength_9 rfl ?_
    refine xl_tl (y := (lN len)) (nI_l (by omega)) ?_
    refine lv_iconst (v := 1) E.1 E.2.1 d_M_takeLength_10 (by decide) ?_
    refine xg_goes (xc_V E xGT (m_done l D b r cJ cZ β n q (q + wd) true hne (lN len) 1) vw_M_done (by decide) (wM.call hP2 hK) (PM.recv hP2 hK) rfl hl.1 rfl (Nat.le_of_ble_eq_true rfl) d_M_takeLength_11) hS2 (fun q _ h => h) (fun q h => h) (fun v st t locs1 h0 hal hrt hS3 hz hkp => ?_) (fun x st t locs1 h0 hal hth => hth.elim)
    rcases hrt with ⟨-, rfl, hP3⟩ | ⟨g2, -⟩
    · skip
      refine W.eq (g2 := F0 m 14 ls [.long (lN len)]) rfl ?_
      generalize t.heap = H3 at hP3 hS3 hz hkp ⊢
      refine lv_l2i (v := (lN len).toInt32) E.1 E.2.1 d_M_takeLength_14 rfl ?_
      refine xl_ti (y := (nI len)) (lN_i _) ?_
      exact xr_iret E hr hk hS3 (fun t ht _ => xMi.mk hsp (fun _ => nI_l (by omega)) (by rw [ht]; exact hP3)) d_M_takeLength_15
    · cases g2
  · have hsp : sp_takeLength (β, n, q) = (1, 0, (β, n, q)) := by
      unfold sp_takeLength
      rw [hX]
    refine W.eq (g2 := F0 m 9 ls [.int z, .ref b]) rfl ?_
    generalize t.heap = H2 at hP2 hS2 hz hkp ⊢
    refine lv_i2l (v := z.toInt64) E.1 E.2.1 d_M_takeLength_9 rfl ?_
    refine lv_iconst (v := 1) E.1 E.2.1 d_M_takeLength_10 (by decide) ?_
    refine xg_goes (xc_V E xGT (m_done l D b r cJ cZ β n q u false hne z.toInt64 1) vw_M_done (by decide) (wM.call hP2 hK) (PM.recv hP2 hK) rfl hl.1 rfl (Nat.le_of_ble_eq_true rfl) d_M_takeLength_11) hS2 (fun q _ h => h) (fun q h => h) (fun v st t locs1 h0 hal hrt hS3 hz hkp => ?_) (fun x st t locs1 h0 hal hth => hth.elim)
    rcases hrt with ⟨g2, -⟩ | ⟨-, rfl, hP3⟩
    · cases g2
    · skip
      refine W.eq (g2 := F0 m 14 ls [.long 0]) rfl ?_
      generalize t.heap = H3 at hP3 hS3 hz hkp ⊢
      refine lv_l2i (v := (0 : Int64).toInt32) E.1 E.2.1 d_M_takeLength_14 rfl ?_
      exact xr_iret E hr hk hS3 (fun t ht _ => xMi.mk hsp (fun z => absurd z (by decide)) (by rw [ht]; exact hP3)) d_M_takeLength_15
end XL27

