/-! The class: how wide a number is. (c_bitsToHold stands ahead.) -/
section XL12
def xnw (kind : Int32) (v : Int64) : Nat := if kind = 2 ∧ (0 ≤ v ∧ v < 64) then 7 else xt kind + 8 + 8 * nb kind v
theorem xt_1 (kind : Int32) : xt kind ≤ 1 := by
  unfold xt
  split <;> omega
theorem xnw_b (kind : Int32) (v : Int64) : xnw kind v ≤ 73 := by
  have h1 := nb_8 kind v
  have h2 := xt_1 kind
  unfold xnw
  split <;> omega
set_option maxHeartbeats 4000000 in
set_option maxRecDepth 100000 in
theorem c_bytesToHold (l : Launch) (kind : Int32) (v : Int64) : xM l y_X_bytesToHold w_X_bytesToHold (xrm 3) [.int kind, .long v] (fun _ => True) xNA (fun z st t => z = some (.int (nI (nb kind v))) ∧ t.heap = st.heap) (fun _ _ _ => False) := by
  refine xM.of (by decide) ?_
  intro p e s m args below meth c hav E hr hk hh hnm _
  subst hav
  have hS : va_S xNA s.heap s.heap [] := va_S.rf
  have hb1 := nbl_64 v
  have hb2 : nbl (uN (xav v)) ≤ 63 := nbl_le.mpr (xav_lt v)
  refine xl_entry _ (Nat.le_of_ble_eq_true rfl) (fun ls hl => ?_)
  have hl : lv_has ls 4 [(0, .int kind), (1, .long v)] := hl
  refine xl_join (fun z : Int32 => ∃ bt : Nat, bt ≤ 64 ∧ z = nI bt ∧ nb kind v = max 1 ((bt + 7) / 8)) (fun z => F0 m 32 ls [.int z]) (fun z hz => ?_) (fun hj => ?_)
  · obtain ⟨bt, hbt, rfl, hnb⟩ := hz
    refine lv_istore_n E.1 E.2.1 d_X_bytesToHold_32 rfl hl (by decide) rfl (fun ls hl => ?_)
    have hl : lv_has ls 4 [(3, .int (nI bt)), (0, .int kind), (1, .long v)] := hl
    refine lv_iconst (v := 1) E.1 E.2.1 d_X_bytesToHold_33 (by decide) ?_
    refine lv_iload_n E.1 E.2.1 d_X_bytesToHold_34 rfl (lv_at hl 0 rfl) ?_
    refine lv_bipush (v := 8) E.1 E.2.1 d_X_bytesToHold_35 (by decide) ?_
    refine lv_iadd E.1 E.2.1 d_X_bytesToHold_37 ?_
    refine xl_ti (y := (nI (bt + 8))) (nI_add bt 8) ?_
    refine lv_iconst (v := 1) E.1 E.2.1 d_X_bytesToHold_38 (by decide) ?_
    refine lv_isub E.1 E.2.1 d_X_bytesToHold_39 ?_
    refine xl_ti (y := (nI (bt + 7))) (nI_pred (bt + 7)) ?_
    refine lv_bipush (v := 8) E.1 E.2.1 d_X_bytesToHold_40 (by decide) ?_
    refine lv_idiv E.1 E.2.1 d_X_bytesToHold_42 (by decide) ?_
    refine xl_ti (y := (nI ((bt + 7) / 8))) (pk_div (by omega) (by decide) (by decide)) ?_
    refine va_mmax E.1 E.2.1 (by rw [E.2.2.1, hl.1]) E.2.2.2.1 (E.2.2.2.2 _ ml_X_max) (E.2.2.2.2 _ ml_max_static) (E.2.2.2.2 _ ml_Math_init) (E.2.2.2.2 _ ml_max_code) (by decide) (Nat.le_of_ble_eq_true rfl) (by decide) (by decide) d_X_bytesToHold_43 ?_
    refine xl_ti (y := nI (nb kind v)) ?_ ?_
    · rw [hnb]
      show (if nI 1 < nI ((bt + 7) / 8) then nI ((bt + 7) / 8) else nI 1) = nI (max 1 ((bt + 7) / 8))
      by_cases hc : 1 < (bt + 7) / 8
      · rw [if_pos ((nI_ltI (a := 1) (by decide) (by omega)).mpr hc), Nat.max_eq_right (by omega)]
      · rw [if_neg (fun z => hc ((nI_ltI (a := 1) (by decide) (by omega)).mp z)), Nat.max_eq_left (by omega)]
    · exact xr_iret E hr hk hS (fun t ht _ => ⟨rfl, ht⟩) d_X_bytesToHold_46
  · skip
    refine lv_iload_n E.1 E.2.1 d_X_bytesToHold_0 rfl (lv_at hl 0 rfl) ?_
    refine lv_iconst (v := 1) E.1 E.2.1 d_X_bytesToHold_1 (by decide) ?_
    refine lv_icmp_ne (tgt := 28) E.1 E.2.1 d_X_bytesToHold_2 (by decide) (fun h1 => ?_) (fun h1 => ?_)
    · skip
      refine lv_lload_n E.1 E.2.1 d_X_bytesToHold_28 rfl (lv_at hl 1 rfl) ?_
      refine xg_looks (xc_S E xGT (c_bitsToHold l v) sw_X_bitsToHold (by decide) xNo rfl hl.1 rfl (Nat.le_of_ble_eq_true rfl) d_X_bytesToHold_29) (fun v st t h => h.2) (fun v st t h0 hal hrt => ?_) (fun x st t h0 hal hth hz => hth.elim)
      obtain ⟨rfl, -⟩ := hrt
      refine W.eq (g2 := F0 m 32 ls [.int (nI (nbl (uN v)))]) rfl ?_
      exact hj _ ⟨_, hb1, rfl, by unfold nb; rw [if_neg h1]⟩
    · skip
      subst h1
      refine lv_iconst (v := 1) E.1 E.2.1 d_X_bytesToHold_5 (by decide) ?_
      refine lv_lload_n E.1 E.2.1 d_X_bytesToHold_6 rfl (lv_at hl 1 rfl) ?_
      refine lv_lconst (v := 0) E.1 E.2.1 d_X_bytesToHold_7 (by decide) ?_
      refine xl_lc_ge (tgt := 20) E.1 E.2.1 d_X_bytesToHold_8 d_X_bytesToHold_9 (by decide) (fun h2 => ?_) (fun h2 => ?_)
      · skip
        refine lv_lload_n E.1 E.2.1 d_X_bytesToHold_20 rfl (lv_at hl 1 rfl) ?_
        refine xg_looks (xc_S E xGT (c_bitsToHold l v) sw_X_bitsToHold (by decide) xNo rfl hl.1 rfl (Nat.le_of_ble_eq_true rfl) d_X_bytesToHold_21) (fun v st t h => h.2) (fun v st t h0 hal hrt => ?_) (fun x st t h0 hal hth hz => hth.elim)
        obtain ⟨rfl, -⟩ := hrt
        refine W.eq (g2 := F0 m 24 ls [.int (nI (nbl (uN v))), .int 1]) rfl ?_
        have hx : xav v = v := by
          unfold xav
          rw [if_neg]
          intro z
          rw [Int64.lt_iff_toInt_lt] at z
          rw [Int64.le_iff_toInt_le] at h2
          omega
        rw [hx] at hb2
        refine lv_iadd E.1 E.2.1 d_X_bytesToHold_24 ?_
        refine xl_ti (y := (nI (1 + nbl (uN v)))) (nI_add 1 _) ?_
        refine lv_goto (tgt := 32) E.1 E.2.1 d_X_bytesToHold_25 (by decide) ?_
        exact hj _ ⟨_, by omega, rfl, by unfold nb; rw [if_pos rfl, hx]⟩
      · skip
        refine lv_lload_n E.1 E.2.1 d_X_bytesToHold_12 rfl (lv_at hl 1 rfl) ?_
        refine lv_ldc2 (v := (-1)) E.1 E.2.1 E.2.2.2.1 (E.2.2.2.2 _ co_X_127) d_X_bytesToHold_13 ?_
        refine lv_lxor E.1 E.2.1 d_X_bytesToHold_16 ?_
        refine lv_goto (tgt := 21) E.1 E.2.1 d_X_bytesToHold_17 (by decide) ?_
        refine xg_looks (xc_S E xGT (c_bitsToHold l (v ^^^ (-1))) sw_X_bitsToHold (by decide) xNo rfl hl.1 rfl (Nat.le_of_ble_eq_true rfl) d_X_bytesToHold_21) (fun v st t h => h.2) (fun v st t h0 hal hrt => ?_) (fun x st t h0 hal hth hz => hth.elim)
        obtain ⟨rfl, -⟩ := hrt
        refine W.eq (g2 := F0 m 24 ls [.int (nI (nbl (uN (v ^^^ (-1))))), .int 1]) rfl ?_
        have hx : xav v = v ^^^ (-1) := by
          unfold xav
          rw [if_pos]
          rw [Int64.lt_iff_toInt_lt]
          rw [Int64.le_iff_toInt_le] at h2
          omega
        rw [hx] at hb2
        refine lv_iadd E.1 E.2.1 d_X_bytesToHold_24 ?_
        refine xl_ti (y := (nI (1 + nbl (uN (v ^^^ (-1)))))) (nI_add 1 _) ?_
        refine lv_goto (tgt := 32) E.1 E.2.1 d_X_bytesToHold_25 (by decide) ?_
        exact hj _ ⟨_, by omega, rfl, by unfold nb; rw [if_pos rfl, hx]⟩
set_option maxHeartbeats 4000000 in
set_option maxRecDepth 100000 in
theorem c_numberWidth (l : Launch) (kind : Int32) (v : Int64) : xM l y_X_numberWidth w_X_numberWidth (xrm 4) [.int kind, .long v] (fun _ => True) xNA (fun z st t => z = some (.int (nI (xnw kind v))) ∧ t.heap = st.heap) (fun _ _ _ => False) := by
  refine xM.of (by decide) ?_
  intro p e s m args below meth c hav E hr hk hh hnm _
  subst hav
  have hS : va_S xNA s.heap s.heap [] := va_S.rf
  have hb1 := nb_1 kind v
  have hb8 := nb_8 kind v
  refine xl_entry _ (Nat.le_of_ble_eq_true rfl) (fun ls hl => ?_)
  have hl : lv_has ls 4 [(0, .int kind), (1, .long v)] := hl
  refine xl_join (fun _ : Unit => ¬ (kind = 2 ∧ (0 ≤ v ∧ v < 64))) (fun _ => F0 m 15 ls []) (fun _ hns => ?_) (fun hj => ?_)
  · skip
    have hw : xnw kind v = xt kind + 8 + 8 * nb kind v := by
      unfold xnw
      rw [if_neg hns]
    have hl8 : xlw (nb kind v) = 8 := by
      unfold xlw
      rw [if_neg (by omega)]
    refine lv_iload_n E.1 E.2.1 d_X_numberWidth_15 rfl (lv_at hl 0 rfl) ?_
    refine lv_lload_n E.1 E.2.1 d_X_numberWidth_16 rfl (lv_at hl 1 rfl) ?_
    refine xg_looks (xc_S E xGT (c_bytesToHold l kind v) sw_X_bytesToHold (by decide) xNo rfl hl.1 rfl (Nat.le_of_ble_eq_true rfl) d_X_numberWidth_17) (fun v st t h => h.2) (fun v st t h0 hal hrt => ?_) (fun x st t h0 hal hth hz => hth.elim)
    obtain ⟨rfl, -⟩ := hrt
    refine W.eq (g2 := F0 m 20 ls [.int (nI (nb kind v))]) rfl ?_
    refine lv_istore_n E.1 E.2.1 d_X_numberWidth_20 rfl hl (by decide) rfl (fun ls hl => ?_)
    have hl : lv_has ls 4 [(3, .int (nI (nb kind v))), (0, .int kind), (1, .long v)] := hl
    refine lv_iload_n E.1 E.2.1 d_X_numberWidth_21 rfl (lv_at hl 1 rfl) ?_
    refine lv_iconst (v := 2) E.1 E.2.1 d_X_numberWidth_22 (by decide) ?_
    refine xl_join (fun z : Int32 => z = nI (xt kind)) (fun z => F0 m 31 ls [.int z]) (fun z hz => ?_) (fun hj2 => ?_)
    · subst hz
      refine lv_iload_n E.1 E.2.1 d_X_numberWidth_31 rfl (lv_at hl 0 rfl) ?_
      refine xg_looks (xc_S E xGT (c_lengthWidth l (nb kind v) (by omega)) sw_X_lengthWidth (by decide) xNo rfl hl.1 rfl (Nat.le_of_ble_eq_true rfl) d_X_numberWidth_32) (fun v st t h => h.2) (fun v st t h0 hal hrt => ?_) (fun x st t h0 hal hth hz => hth.elim)
      obtain ⟨rfl, -⟩ := hrt
      refine W.eq (g2 := F0 m 35 ls [.int (nI (xlw (nb kind v))), .int (nI (xt kind))]) rfl ?_
      refine lv_iadd E.1 E.2.1 d_X_numberWidth_35 ?_
      refine xl_ti (y := (nI (xt kind + xlw (nb kind v)))) (nI_add _ _) ?_
      refine lv_iload_n E.1 E.2.1 d_X_numberWidth_36 rfl (lv_at hl 0 rfl) ?_
      refine lv_bipush (v := 8) E.1 E.2.1 d_X_numberWidth_37 (by decide) ?_
      refine lv_imul E.1 E.2.1 d_X_numberWidth_39 ?_
      refine xl_ti (y := (nI (nb kind v * 8))) (pk_mul _ 8) ?_
      refine lv_iadd E.1 E.2.1 d_X_numberWidth_40 ?_
      refine xl_ti (y := (nI (xnw kind v))) (by rw [nI_add, hl8, hw, Nat.mul_comm (nb kind v) 8]) ?_
      exact xr_iret E hr hk hS (fun t ht _ => ⟨rfl, ht⟩) d_X_numberWidth_41
    · skip
      refine lv_icmp_ne (tgt := 30) E.1 E.2.1 d_X_numberWidth_23 (by decide) (fun h1 => ?_) (fun h1 => ?_)
      · skip
        refine lv_iconst (v := 0) E.1 E.2.1 d_X_numberWidth_30 (by decide) ?_
        exact hj2 _ (by unfold xt; rw [if_neg h1]; rfl)
      · skip
        refine lv_iconst (v := 1) E.1 E.2.1 d_X_numberWidth_26 (by decide) ?_
        refine lv_goto (tgt := 31) E.1 E.2.1 d_X_numberWidth_27 (by decide) ?_
        exact hj2 _ (by unfold xt; rw [if_pos h1]; rfl)
  · skip
    refine lv_iload_n E.1 E.2.1 d_X_numberWidth_0 rfl (lv_at hl 0 rfl) ?_
    refine lv_iconst (v := 2) E.1 E.2.1 d_X_numberWidth_1 (by decide) ?_
    refine lv_icmp_ne (tgt := 15) E.1 E.2.1 d_X_numberWidth_2 (by decide) (fun h1 => ?_) (fun h1 => ?_)
    · skip
      exact hj () (fun z => h1 z.1)
    · skip
      refine lv_lload_n E.1 E.2.1 d_X_numberWidth_5 rfl (lv_at hl 1 rfl) ?_
      refine xg_looks (xc_S E xGT (c_isSmall l v) sw_X_isSmall (by decide) xNo rfl hl.1 rfl (Nat.le_of_ble_eq_true rfl) d_X_numberWidth_6) (fun v st t h => h.2) (fun v st t h0 hal hrt => ?_) (fun x st t h0 hal hth hz => hth.elim)
      obtain ⟨rfl, -⟩ := hrt
      refine W.eq (g2 := F0 m 9 ls [.int (if 0 ≤ v ∧ v < 64 then 1 else 0)]) rfl ?_
      refine lv_if_eq (tgt := 15) E.1 E.2.1 d_X_numberWidth_9 (by decide) (fun h2 => ?_) (fun h2 => ?_)
      · skip
        refine hj () (fun z => ?_)
        rw [if_pos z.2] at h2
        exact absurd h2 (by decide)
      · skip
        have h3 : 0 ≤ v ∧ v < 64 := Classical.byContradiction fun z => h2 (by rw [if_neg z])
        refine lv_bipush (v := 7) E.1 E.2.1 d_X_numberWidth_12 (by decide) ?_
        exact xr_iret E hr hk hS (fun t ht _ => ⟨by unfold xnw; rw [if_pos ⟨h1, h3⟩]; rfl, ht⟩) d_X_numberWidth_14
end XL12

