/-! The class: what asks and refuses; a bit. -/
section XL10
theorem xi_nlt {a b : Int32} : ¬ a < b ↔ b ≤ a := by
  rw [Int32.lt_iff_toInt_lt, Int32.le_iff_toInt_le]
  omega
theorem xi_nle {a b : Int32} : ¬ a ≤ b ↔ b < a := by
  rw [Int32.lt_iff_toInt_lt, Int32.le_iff_toInt_le]
  omega
set_option maxHeartbeats 4000000 in
set_option maxRecDepth 100000 in
theorem c_requireWidth (l : Launch) (hL : l.stackTraces = false) (k : Int32) : xM l y_X_requireWidth w_X_requireWidth (xrm 0) [.int k] xq xNA (fun v st t => ¬ (k < 0 ∨ 64 < k) ∧ v = none ∧ t.heap = st.heap) (fun x st t => (k < 0 ∨ 64 < k) ∧ xl_T E_IA x st.heap t.heap t.vm) := by
  refine xM.of (by decide) ?_
  intro p e s m args below meth c hav E hr hk hh hnm hQ
  subst hav
  have hS : va_S xNA s.heap s.heap [] := va_S.rf
  refine xl_entry _ (Nat.le_of_ble_eq_true rfl) (fun ls hl => ?_)
  have hl : lv_has ls 1 [(0, .int k)] := hl
  refine lv_iload_n E.1 E.2.1 d_X_requireWidth_0 rfl (lv_at hl 0 rfl) ?_
  refine lv_if_lt (tgt := 10) E.1 E.2.1 d_X_requireWidth_1 (by decide) (fun h1 => ?_) (fun h1 => ?_)
  · skip
    exact xr_throw E hL hQ hh hk tw_IA_requireWidth hl.1 d_X_requireWidth_10 d_X_requireWidth_13 d_X_requireWidth_14 d_X_requireWidth_16 d_X_requireWidth_19 (by decide) (fun x t hT => ⟨Or.inl h1, hT⟩)
  · skip
    refine lv_iload_n E.1 E.2.1 d_X_requireWidth_4 rfl (lv_at hl 0 rfl) ?_
    refine lv_bipush (v := 64) E.1 E.2.1 d_X_requireWidth_5 (by decide) ?_
    refine lv_icmp_le (tgt := 20) E.1 E.2.1 d_X_requireWidth_7 (by decide) (fun h2 => ?_) (fun h2 => ?_)
    · skip
      exact xr_vret E hr hk hS (fun t ht _ => ⟨fun z => z.elim h1 (xi_nlt.mpr h2), rfl, ht⟩) d_X_requireWidth_20
    · skip
      exact xr_throw E hL hQ hh hk tw_IA_requireWidth hl.1 d_X_requireWidth_10 d_X_requireWidth_13 d_X_requireWidth_14 d_X_requireWidth_16 d_X_requireWidth_19 (by decide) (fun x t hT => ⟨Or.inr (xi_nle.mp h2), hT⟩)
set_option maxHeartbeats 4000000 in
set_option maxRecDepth 100000 in
theorem c_requireKind (l : Launch) (hL : l.stackTraces = false) (k : Int32) : xM l y_X_requireKind w_X_requireKind (xrm 0) [.int k] xq xNA (fun v st t => ¬ (k < 0 ∨ 2 < k) ∧ v = none ∧ t.heap = st.heap) (fun x st t => (k < 0 ∨ 2 < k) ∧ xl_T E_IA x st.heap t.heap t.vm) := by
  refine xM.of (by decide) ?_
  intro p e s m args below meth c hav E hr hk hh hnm hQ
  subst hav
  have hS : va_S xNA s.heap s.heap [] := va_S.rf
  refine xl_entry _ (Nat.le_of_ble_eq_true rfl) (fun ls hl => ?_)
  have hl : lv_has ls 1 [(0, .int k)] := hl
  refine lv_iload_n E.1 E.2.1 d_X_requireKind_0 rfl (lv_at hl 0 rfl) ?_
  refine lv_if_lt (tgt := 9) E.1 E.2.1 d_X_requireKind_1 (by decide) (fun h1 => ?_) (fun h1 => ?_)
  · skip
    exact xr_throw E hL hQ hh hk tw_IA_requireKind hl.1 d_X_requireKind_9 d_X_requireKind_12 d_X_requireKind_13 d_X_requireKind_15 d_X_requireKind_18 (by decide) (fun x t hT => ⟨Or.inl h1, hT⟩)
  · skip
    refine lv_iload_n E.1 E.2.1 d_X_requireKind_4 rfl (lv_at hl 0 rfl) ?_
    refine lv_iconst (v := 2) E.1 E.2.1 d_X_requireKind_5 (by decide) ?_
    refine lv_icmp_le (tgt := 19) E.1 E.2.1 d_X_requireKind_6 (by decide) (fun h2 => ?_) (fun h2 => ?_)
    · skip
      exact xr_vret E hr hk hS (fun t ht _ => ⟨fun z => z.elim h1 (xi_nlt.mpr h2), rfl, ht⟩) d_X_requireKind_19
    · skip
      exact xr_throw E hL hQ hh hk tw_IA_requireKind hl.1 d_X_requireKind_9 d_X_requireKind_12 d_X_requireKind_13 d_X_requireKind_15 d_X_requireKind_18 (by decide) (fun x t hT => ⟨Or.inr (xi_nle.mp h2), hT⟩)
set_option maxHeartbeats 4000000 in
set_option maxRecDepth 100000 in
theorem c_requireCut (l : Launch) (hL : l.stackTraces = false) (D : va_G) (a w : Nat) (cJ cZ : ClassId) (β : Nat → Bool) (n q : Nat) (k : Int32) : xM l y_X_requireCut w_X_requireCut (xrm 0) [.ref a, .int k] (wXt D a w cJ cZ β n q) xNA (fun v st t => ¬ (k < 0 ∨ nI n < k) ∧ v = none ∧ t.heap = st.heap) (fun x st t => (k < 0 ∨ nI n < k) ∧ xl_T E_IA x st.heap t.heap t.vm) := by
  refine xM.of (by decide) ?_
  intro p e s m args below meth c hav E hr hk hh hnm hwX
  subst hav
  obtain ⟨⟨hP, hK⟩, hQ⟩ := hwX
  have hS : va_S xNA s.heap s.heap [] := va_S.rf
  refine xl_entry _ (Nat.le_of_ble_eq_true rfl) (fun ls hl => ?_)
  have hl : lv_has ls 2 [(0, .ref a), (1, .int k)] := hl
  refine lv_iload_n E.1 E.2.1 d_X_requireCut_0 rfl (lv_at hl 1 rfl) ?_
  refine lv_if_lt (tgt := 12) E.1 E.2.1 d_X_requireCut_1 (by decide) (fun h1 => ?_) (fun h1 => ?_)
  · skip
    exact xr_throw E hL hQ hh hk tw_IA_requireCut hl.1 d_X_requireCut_12 d_X_requireCut_15 d_X_requireCut_16 d_X_requireCut_18 d_X_requireCut_21 (by decide) (fun x t hT => ⟨Or.inl h1, hT⟩)
  · skip
    refine lv_iload_n E.1 E.2.1 d_X_requireCut_4 rfl (lv_at hl 1 rfl) ?_
    refine lv_aload_n E.1 E.2.1 d_X_requireCut_5 rfl (lv_at hl 0 rfl) ?_
    refine gx_size E hK hP d_X_requireCut_6 ?_
    refine lv_icmp_le (tgt := 22) E.1 E.2.1 d_X_requireCut_9 (by decide) (fun h2 => ?_) (fun h2 => ?_)
    · skip
      exact xr_vret E hr hk hS (fun t ht _ => ⟨fun z => z.elim h1 (xi_nlt.mpr h2), rfl, ht⟩) d_X_requireCut_22
    · skip
      exact xr_throw E hL hQ hh hk tw_IA_requireCut hl.1 d_X_requireCut_12 d_X_requireCut_15 d_X_requireCut_16 d_X_requireCut_18 d_X_requireCut_21 (by decide) (fun x t hT => ⟨Or.inr (xi_nle.mp h2), hT⟩)
set_option maxHeartbeats 4000000 in
set_option maxRecDepth 100000 in
theorem c_requireRoom (l : Launch) (hL : l.stackTraces = false) (D : va_G) (a w : Nat) (cJ cZ : ClassId) (β : Nat → Bool) (n q k : Nat) (hn : n ≤ 65536) (hkb : k < 2 ^ 31) : xM l y_X_requireRoom w_X_requireRoom (xrm 0) [.ref a, .int (nI k)] (wXt D a w cJ cZ β n q) xNA (fun v st t => n + k ≤ 65536 ∧ v = none ∧ t.heap = st.heap) (fun x st t => 65536 < n + k ∧ xl_T E_IO x st.heap t.heap t.vm) := by
  refine xM.of (by decide) ?_
  intro p e s m args below meth c hav E hr hk hh hnm hwX
  subst hav
  obtain ⟨⟨hP, hK⟩, hQ⟩ := hwX
  have hS : va_S xNA s.heap s.heap [] := va_S.rf
  refine xl_entry _ (Nat.le_of_ble_eq_true rfl) (fun ls hl => ?_)
  have hl : lv_has ls 2 [(0, .ref a), (1, .int (nI k))] := hl
  refine lv_iload_n E.1 E.2.1 d_X_requireRoom_0 rfl (lv_at hl 1 rfl) ?_
  refine lv_ldc (v := 65536) E.1 E.2.1 E.2.2.2.1 (E.2.2.2.2 _ co_X_118) d_X_requireRoom_1 ?_
  refine lv_aload_n E.1 E.2.1 d_X_requireRoom_3 rfl (lv_at hl 0 rfl) ?_
  refine gx_size E hK hP d_X_requireRoom_4 ?_
  refine lv_isub E.1 E.2.1 d_X_requireRoom_7 ?_
  refine xl_ti (y := (nI (65536 - n))) (pk_sub hn) ?_
  refine lv_icmp_le (tgt := 21) E.1 E.2.1 d_X_requireRoom_8 (by decide) (fun h1 => ?_) (fun h1 => ?_)
  · skip
    have h2 : k ≤ 65536 - n := (nI_leI hkb (by omega)).mp h1
    exact xr_vret E hr hk hS (fun t ht _ => ⟨by omega, rfl, ht⟩) d_X_requireRoom_21
  · skip
    have h2 : ¬ k ≤ 65536 - n := fun z => h1 ((nI_leI hkb (by omega)).mpr z)
    exact xr_throw E hL hQ hh hk tw_IO_requireRoom hl.1 d_X_requireRoom_11 d_X_requireRoom_14 d_X_requireRoom_15 d_X_requireRoom_17 d_X_requireRoom_20 (by decide) (fun x t hT => ⟨by omega, hT⟩)
set_option maxHeartbeats 4000000 in
set_option maxRecDepth 100000 in
theorem c_isSmall (l : Launch) (x : Int64) : xM l y_X_isSmall w_X_isSmall (xrm 0) [.long x] (fun _ => True) xNA (fun v st t => v = some (.int (if 0 ≤ x ∧ x < 64 then 1 else 0)) ∧ t.heap = st.heap) (fun _ _ _ => False) := by
  refine xM.of (by decide) ?_
  intro p e s m args below meth c hav E hr hk hh hnm _
  subst hav
  have hS : va_S xNA s.heap s.heap [] := va_S.rf
  refine xl_entry _ (Nat.le_of_ble_eq_true rfl) (fun ls hl => ?_)
  have hl : lv_has ls 2 [(0, .long x)] := hl
  refine lv_lload_n E.1 E.2.1 d_X_isSmall_0 rfl (lv_at hl 0 rfl) ?_
  refine lv_lconst (v := 0) E.1 E.2.1 d_X_isSmall_1 (by decide) ?_
  refine xl_lc_lt (tgt := 18) E.1 E.2.1 d_X_isSmall_2 d_X_isSmall_3 (by decide) (fun h1 => ?_) (fun h1 => ?_)
  · skip
    refine lv_iconst (v := 0) E.1 E.2.1 d_X_isSmall_18 (by decide) ?_
    exact xr_zret E hr hk (by decide) hS (fun t ht _ => ⟨by rw [if_neg (fun z => by have := z.1; rw [Int64.le_iff_toInt_le] at this; rw [Int64.lt_iff_toInt_lt] at h1; omega)], ht⟩) d_X_isSmall_19
  · skip
    refine lv_lload_n E.1 E.2.1 d_X_isSmall_6 rfl (lv_at hl 0 rfl) ?_
    refine lv_ldc2 (v := 64) E.1 E.2.1 E.2.2.2.1 (E.2.2.2.2 _ co_X_147) d_X_isSmall_7 ?_
    refine xl_lc_ge (tgt := 18) E.1 E.2.1 d_X_isSmall_10 d_X_isSmall_11 (by decide) (fun h2 => ?_) (fun h2 => ?_)
    · skip
      refine lv_iconst (v := 0) E.1 E.2.1 d_X_isSmall_18 (by decide) ?_
      exact xr_zret E hr hk (by decide) hS (fun t ht _ => ⟨by rw [if_neg (fun z => by have := z.2; rw [Int64.lt_iff_toInt_lt] at this; rw [Int64.le_iff_toInt_le] at h2; omega)], ht⟩) d_X_isSmall_19
    · skip
      refine lv_iconst (v := 1) E.1 E.2.1 d_X_isSmall_14 (by decide) ?_
      refine lv_goto (tgt := 19) E.1 E.2.1 d_X_isSmall_15 (by decide) ?_
      exact xr_zret E hr hk (by decide) hS (fun t ht _ => ⟨by rw [if_pos ⟨by rw [Int64.le_iff_toInt_le]; rw [Int64.lt_iff_toInt_lt] at h1; omega, by rw [Int64.lt_iff_toInt_lt]; rw [Int64.le_iff_toInt_le] at h2; omega⟩], ht⟩) d_X_isSmall_19
set_option maxHeartbeats 4000000 in
set_option maxRecDepth 100000 in
theorem c_lengthWidth (l : Launch) (k : Nat) (hkb : k < 2 ^ 31) : xM l y_X_lengthWidth w_X_lengthWidth (xrm 0) [.int (nI k)] (fun _ => True) xNA (fun v st t => v = some (.int (nI (xlw k))) ∧ t.heap = st.heap) (fun _ _ _ => False) := by
  refine xM.of (by decide) ?_
  intro p e s m args below meth c hav E hr hk hh hnm _
  subst hav
  have hS : va_S xNA s.heap s.heap [] := va_S.rf
  refine xl_entry _ (Nat.le_of_ble_eq_true rfl) (fun ls hl => ?_)
  have hl : lv_has ls 1 [(0, .int (nI k))] := hl
  refine lv_iload_n E.1 E.2.1 d_X_lengthWidth_0 rfl (lv_at hl 0 rfl) ?_
  refine lv_sipush (v := 128) E.1 E.2.1 d_X_lengthWidth_1 (by decide) ?_
  refine lv_icmp_lt (tgt := 19) E.1 E.2.1 d_X_lengthWidth_4 (by decide) (fun h1 => ?_) (fun h1 => ?_)
  · skip
    have h1 : k < 128 := (nI_ltI hkb (by decide)).mp h1
    refine lv_bipush (v := 8) E.1 E.2.1 d_X_lengthWidth_19 (by decide) ?_
    exact xr_iret E hr hk hS (fun t ht _ => ⟨by unfold xlw; rw [if_neg (by omega)]; rfl, ht⟩) d_X_lengthWidth_21
  · skip
    have h1 : ¬ k < 128 := fun z => h1 ((nI_ltI hkb (by decide)).mpr z)
    refine lv_iload_n E.1 E.2.1 d_X_lengthWidth_7 rfl (lv_at hl 0 rfl) ?_
    refine lv_sipush (v := 16384) E.1 E.2.1 d_X_lengthWidth_8 (by decide) ?_
    refine lv_icmp_ge (tgt := 19) E.1 E.2.1 d_X_lengthWidth_11 (by decide) (fun h2 => ?_) (fun h2 => ?_)
    · skip
      have h2 : 16384 ≤ k := (nI_leI (by decide) hkb).mp h2
      refine lv_bipush (v := 8) E.1 E.2.1 d_X_lengthWidth_19 (by decide) ?_
      exact xr_iret E hr hk hS (fun t ht _ => ⟨by unfold xlw; rw [if_neg (by omega)]; rfl, ht⟩) d_X_lengthWidth_21
    · skip
      have h2 : ¬ 16384 ≤ k := fun z => h2 ((nI_leI (by decide) hkb).mpr z)
      refine lv_bipush (v := 16) E.1 E.2.1 d_X_lengthWidth_14 (by decide) ?_
      refine lv_goto (tgt := 21) E.1 E.2.1 d_X_lengthWidth_16 (by decide) ?_
      exact xr_iret E hr hk hS (fun t ht _ => ⟨by unfold xlw; rw [if_pos (by omega)]; rfl, ht⟩) d_X_lengthWidth_21
end XL10

