/-! The JDK's own: leading zeros, comparison without sign. -/
section XL11b
def xus (x k : Int32) : Int32 := (x.toUInt32 >>> (k.toUInt32 &&& Int32.toUInt32 31)).toInt32
theorem nI_int {k : Nat} (h : k < 2 ^ 32) : (nI k).toInt = if 2 * k < 4294967296 then (k : Int) else (k : Int) - 4294967296 := by
  have := BitVec.toInt_eq_toNat_cond (nI k).toBitVec
  rw [pk_tn h] at this
  exact this
theorem nI_neg {m e : Nat} (h : e ≤ m) : nI m + (-nI e) = nI (m - e) := by
  rw [← Int32.sub_eq_add_neg]
  exact pk_sub h
set_option maxHeartbeats 4000000 in
set_option maxRecDepth 100000 in
theorem c_nlz32 (l : Launch) (k : Nat) (hkb : k < 2 ^ 32) : xM l y_I_numberOfLeadingZeros w_I_numberOfLeadingZeros (xrm 0) [.int (nI k)] (fun _ => True) xNA (fun v st t => v = some (.int (nI (32 - nbl k))) ∧ t.heap = st.heap) (fun _ _ _ => False) := by
  refine xM.of (by decide) ?_
  intro p e s m args below meth c hav E hr hk hh hnm _
  subst hav
  have hS : va_S xNA s.heap s.heap [] := va_S.rf
  have hki := nI_int hkb
  refine xl_entry _ (Nat.le_of_ble_eq_true rfl) (fun ls hl => ?_)
  have hl : lv_has ls 2 [(0, .int (nI k))] := hl
  refine lv_iload_n E.1 E.2.1 d_I_numberOfLeadingZeros_0 rfl (lv_at hl 0 rfl) ?_
  refine lv_if_gt (tgt := 15) E.1 E.2.1 d_I_numberOfLeadingZeros_1 (by decide) (fun h1 => ?_) (fun h1 => ?_)
  · skip
    have h2 : 0 < k ∧ k < 2147483648 := by
      rw [Int32.lt_iff_toInt_lt, hki, Int32.toInt_zero] at h1
      split at h1 <;> omega
    have hk31 : nbl k ≤ 31 := nbl_le.mpr (by omega)
    refine xl_join (fun ls : Array Slot => ∃ k1 m1 : Nat, 0 < k1 ∧ k1 < 4 ∧ nbl k + m1 = nbl k1 + 31 ∧ m1 ≤ 31 ∧ lv_has ls 2 [(0, .int (nI k1)), (1, .int (nI m1))]) (fun ls => F0 m 73 ls []) (fun ls hz => ?_) (fun j73 => ?_)
    · obtain ⟨k1, m1, g1, g2, g3, g4, hl⟩ := hz
      refine lv_iload_n E.1 E.2.1 d_I_numberOfLeadingZeros_73 rfl (lv_at hl 1 rfl) ?_
      refine lv_iload_n E.1 E.2.1 d_I_numberOfLeadingZeros_74 rfl (lv_at hl 0 rfl) ?_
      refine lv_iconst (v := 1) E.1 E.2.1 d_I_numberOfLeadingZeros_75 (by decide) ?_
      refine lv_iushr (v := xus (nI k1) 1) E.1 E.2.1 d_I_numberOfLeadingZeros_76 rfl ?_
      refine xl_ti (y := (nI (k1 / 2))) (pk_ushrN (by omega) 1 1 (by decide)) ?_
      refine lv_isub E.1 E.2.1 d_I_numberOfLeadingZeros_77 ?_
      have g5 : nbl k1 = 1 + k1 / 2 := by
        rcases (show k1 = 1 ∨ k1 = 2 ∨ k1 = 3 by omega) with rfl | rfl | rfl <;> decide
      refine xl_ti (y := (nI (32 - nbl k))) (by rw [pk_sub (by omega)]; congr 1; omega) ?_
      exact xr_iret E hr hk hS (fun t ht _ => ⟨rfl, ht⟩) d_I_numberOfLeadingZeros_78
    refine xl_join (fun ls : Array Slot => ∃ k1 m1 : Nat, 0 < k1 ∧ k1 < 16 ∧ nbl k + m1 = nbl k1 + 31 ∧ m1 ≤ 31 ∧ lv_has ls 2 [(0, .int (nI k1)), (1, .int (nI m1))]) (fun ls => F0 m 61 ls []) (fun ls hz => ?_) (fun j61 => ?_)
    · obtain ⟨k1, m1, g1, g2, g3, g4, hl⟩ := hz
      refine lv_iload_n E.1 E.2.1 d_I_numberOfLeadingZeros_61 rfl (lv_at hl 0 rfl) ?_
      refine lv_iconst (v := 4) E.1 E.2.1 d_I_numberOfLeadingZeros_62 (by decide) ?_
      refine lv_icmp_lt (tgt := 73) E.1 E.2.1 d_I_numberOfLeadingZeros_63 (by decide) (fun h3 => ?_) (fun h3 => ?_)
      · skip
        exact j73 ls ⟨k1, m1, g1, (nI_ltI (b := 4) (by omega) (by decide)).mp h3, g3, g4, hl⟩
      · skip
        have h3 : 2 ^ 2 ≤ k1 := Nat.not_lt.mp (fun z => h3 ((nI_ltI (b := 4) (by omega) (by decide)).mpr z))
        have g5 := nbl_div h3
        refine lv_iinc (k := 1) (v := (nI m1) + (-2)) E.1 E.2.1 d_I_numberOfLeadingZeros_66 hl rfl rfl (by decide) rfl (fun ls hl => ?_)
        have hl : lv_has ls 2 [(1, .int ((nI m1) + (-2))), (0, .int (nI k1))] := hl
        refine lv_iload_n E.1 E.2.1 d_I_numberOfLeadingZeros_69 rfl (lv_at hl 1 rfl) ?_
        refine lv_iconst (v := 2) E.1 E.2.1 d_I_numberOfLeadingZeros_70 (by decide) ?_
        refine lv_iushr (v := xus (nI k1) 2) E.1 E.2.1 d_I_numberOfLeadingZeros_71 rfl ?_
        refine xl_ti (y := (nI (k1 / 2 ^ 2))) (pk_ushrN (by omega) 2 2 (by decide)) ?_
        refine lv_istore_n E.1 E.2.1 d_I_numberOfLeadingZeros_72 rfl hl (by decide) rfl (fun ls hl => ?_)
        have hl : lv_has ls 2 [(0, .int (nI (k1 / 2 ^ 2))), (1, .int ((nI m1) + (-2)))] := hl
        have g6 : 0 < nbl (k1 / 2 ^ 2) := by rw [Nat.pos_iff_ne_zero]; intro z; rw [nbl_0] at z; omega
        rw [show nI m1 + (-2) = nI (m1 - 2) from nI_neg (e := 2) (by omega)] at hl
        exact j73 ls ⟨_, _, by omega, by omega, by omega, by omega, hl⟩
    refine xl_join (fun ls : Array Slot => ∃ k1 m1 : Nat, 0 < k1 ∧ k1 < 256 ∧ nbl k + m1 = nbl k1 + 31 ∧ m1 ≤ 31 ∧ lv_has ls 2 [(0, .int (nI k1)), (1, .int (nI m1))]) (fun ls => F0 m 48 ls []) (fun ls hz => ?_) (fun j48 => ?_)
    · obtain ⟨k1, m1, g1, g2, g3, g4, hl⟩ := hz
      refine lv_iload_n E.1 E.2.1 d_I_numberOfLeadingZeros_48 rfl (lv_at hl 0 rfl) ?_
      refine lv_bipush (v := 16) E.1 E.2.1 d_I_numberOfLeadingZeros_49 (by decide) ?_
      refine lv_icmp_lt (tgt := 61) E.1 E.2.1 d_I_numberOfLeadingZeros_51 (by decide) (fun h3 => ?_) (fun h3 => ?_)
      · skip
        exact j61 ls ⟨k1, m1, g1, (nI_ltI (b := 16) (by omega) (by decide)).mp h3, g3, g4, hl⟩
      · skip
        have h3 : 2 ^ 4 ≤ k1 := Nat.not_lt.mp (fun z => h3 ((nI_ltI (b := 16) (by omega) (by decide)).mpr z))
        have g5 := nbl_div h3
        refine lv_iinc (k := 1) (v := (nI m1) + (-4)) E.1 E.2.1 d_I_numberOfLeadingZeros_54 hl rfl rfl (by decide) rfl (fun ls hl => ?_)
        have hl : lv_has ls 2 [(1, .int ((nI m1) + (-4))), (0, .int (nI k1))] := hl
        refine lv_iload_n E.1 E.2.1 d_I_numberOfLeadingZeros_57 rfl (lv_at hl 1 rfl) ?_
        refine lv_iconst (v := 4) E.1 E.2.1 d_I_numberOfLeadingZeros_58 (by decide) ?_
        refine lv_iushr (v := xus (nI k1) 4) E.1 E.2.1 d_I_numberOfLeadingZeros_59 rfl ?_
        refine xl_ti (y := (nI (k1 / 2 ^ 4))) (pk_ushrN (by omega) 4 4 (by decide)) ?_
        refine lv_istore_n E.1 E.2.1 d_I_numberOfLeadingZeros_60 rfl hl (by decide) rfl (fun ls hl => ?_)
        have hl : lv_has ls 2 [(0, .int (nI (k1 / 2 ^ 4))), (1, .int ((nI m1) + (-4)))] := hl
        have g6 : 0 < nbl (k1 / 2 ^ 4) := by rw [Nat.pos_iff_ne_zero]; intro z; rw [nbl_0] at z; omega
        rw [show nI m1 + (-4) = nI (m1 - 4) from nI_neg (e := 4) (by omega)] at hl
        exact j61 ls ⟨_, _, by omega, by omega, by omega, by omega, hl⟩
    refine xl_join (fun ls : Array Slot => ∃ k1 m1 : Nat, 0 < k1 ∧ k1 < 65536 ∧ nbl k + m1 = nbl k1 + 31 ∧ m1 ≤ 31 ∧ lv_has ls 2 [(0, .int (nI k1)), (1, .int (nI m1))]) (fun ls => F0 m 33 ls []) (fun ls hz => ?_) (fun j33 => ?_)
    · obtain ⟨k1, m1, g1, g2, g3, g4, hl⟩ := hz
      refine lv_iload_n E.1 E.2.1 d_I_numberOfLeadingZeros_33 rfl (lv_at hl 0 rfl) ?_
      refine lv_sipush (v := 256) E.1 E.2.1 d_I_numberOfLeadingZeros_34 (by decide) ?_
      refine lv_icmp_lt (tgt := 48) E.1 E.2.1 d_I_numberOfLeadingZeros_37 (by decide) (fun h3 => ?_) (fun h3 => ?_)
      · skip
        exact j48 ls ⟨k1, m1, g1, (nI_ltI (b := 256) (by omega) (by decide)).mp h3, g3, g4, hl⟩
      · skip
        have h3 : 2 ^ 8 ≤ k1 := Nat.not_lt.mp (fun z => h3 ((nI_ltI (b := 256) (by omega) (by decide)).mpr z))
        have g5 := nbl_div h3
        refine lv_iinc (k := 1) (v := (nI m1) + (-8)) E.1 E.2.1 d_I_numberOfLeadingZeros_40 hl rfl rfl (by decide) rfl (fun ls hl => ?_)
        have hl : lv_has ls 2 [(1, .int ((nI m1) + (-8))), (0, .int (nI k1))] := hl
        refine lv_iload_n E.1 E.2.1 d_I_numberOfLeadingZeros_43 rfl (lv_at hl 1 rfl) ?_
        refine lv_bipush (v := 8) E.1 E.2.1 d_I_numberOfLeadingZeros_44 (by decide) ?_
        refine lv_iushr (v := xus (nI k1) 8) E.1 E.2.1 d_I_numberOfLeadingZeros_46 rfl ?_
        refine xl_ti (y := (nI (k1 / 2 ^ 8))) (pk_ushrN (by omega) 8 8 (by decide)) ?_
        refine lv_istore_n E.1 E.2.1 d_I_numberOfLeadingZeros_47 rfl hl (by decide) rfl (fun ls hl => ?_)
        have hl : lv_has ls 2 [(0, .int (nI (k1 / 2 ^ 8))), (1, .int ((nI m1) + (-8)))] := hl
        have g6 : 0 < nbl (k1 / 2 ^ 8) := by rw [Nat.pos_iff_ne_zero]; intro z; rw [nbl_0] at z; omega
        rw [show nI m1 + (-8) = nI (m1 - 8) from nI_neg (e := 8) (by omega)] at hl
        exact j48 ls ⟨_, _, by omega, by omega, by omega, by omega, hl⟩
    refine lv_bipush (v := 31) E.1 E.2.1 d_I_numberOfLeadingZeros_15 (by decide) ?_
    refine lv_istore_n E.1 E.2.1 d_I_numberOfLeadingZeros_17 rfl hl (by decide) rfl (fun ls hl => ?_)
    have hl : lv_has ls 2 [(1, .int 31), (0, .int (nI k))] := hl
    refine lv_iload_n E.1 E.2.1 d_I_numberOfLeadingZeros_18 rfl (lv_at hl 1 rfl) ?_
    refine lv_ldcw (v := 65536) E.1 E.2.1 E.2.2.2.1 (E.2.2.2.2 _ co_I_264) d_I_numberOfLeadingZeros_19 ?_
    refine lv_icmp_lt (tgt := 33) E.1 E.2.1 d_I_numberOfLeadingZeros_22 (by decide) (fun h3 => ?_) (fun h3 => ?_)
    · skip
      have hl := lv_sub hl (l' := [(0, .int (nI k)), (1, .int (nI 31))]) [1, 0] rfl
      exact j33 ls ⟨k, 31, h2.1, (nI_ltI (b := 65536) (by omega) (by decide)).mp h3, rfl, by decide, hl⟩
    · skip
      have h3 : 2 ^ 16 ≤ k := Nat.not_lt.mp (fun z => h3 ((nI_ltI (b := 65536) (by omega) (by decide)).mpr z))
      have g5 := nbl_div h3
      refine lv_iinc (k := 0) (v := 31 + (-16)) E.1 E.2.1 d_I_numberOfLeadingZeros_25 hl rfl rfl (by decide) rfl (fun ls hl => ?_)
      have hl : lv_has ls 2 [(1, .int (31 + (-16))), (0, .int (nI k))] := hl
      refine lv_iload_n E.1 E.2.1 d_I_numberOfLeadingZeros_28 rfl (lv_at hl 1 rfl) ?_
      refine lv_bipush (v := 16) E.1 E.2.1 d_I_numberOfLeadingZeros_29 (by decide) ?_
      refine lv_iushr (v := xus (nI k) 16) E.1 E.2.1 d_I_numberOfLeadingZeros_31 rfl ?_
      refine xl_ti (y := (nI (k / 2 ^ 16))) (pk_ushrN (by omega) 16 16 (by decide)) ?_
      refine lv_istore_n E.1 E.2.1 d_I_numberOfLeadingZeros_32 rfl hl (by decide) rfl (fun ls hl => ?_)
      have hl : lv_has ls 2 [(0, .int (nI (k / 2 ^ 16))), (1, .int (31 + (-16)))] := hl
      have g6 : 0 < nbl (k / 2 ^ 16) := by rw [Nat.pos_iff_ne_zero]; intro z; rw [nbl_0] at z; omega
      rw [show (31 : Int32) + (-16) = nI 15 by decide] at hl
      exact j33 ls ⟨_, 15, by omega, by omega, by omega, by decide, hl⟩
  · skip
    refine lv_iload_n E.1 E.2.1 d_I_numberOfLeadingZeros_4 rfl (lv_at hl 0 rfl) ?_
    refine lv_if_ne (tgt := 13) E.1 E.2.1 d_I_numberOfLeadingZeros_5 (by decide) (fun h2 => ?_) (fun h2 => ?_)
    · skip
      have h3 : 2147483648 ≤ k := by
        have h4 : ¬ k = 0 := fun z => h2 (by rw [z]; rfl)
        rw [Int32.lt_iff_toInt_lt, hki, Int32.toInt_zero] at h1
        split at h1 <;> omega
      have h5 : nbl k = 32 := nbl_eq hkb (fun _ => h3)
      refine lv_iconst (v := 0) E.1 E.2.1 d_I_numberOfLeadingZeros_13 (by decide) ?_
      exact xr_iret E hr hk hS (fun t ht _ => ⟨by rw [h5]; rfl, ht⟩) d_I_numberOfLeadingZeros_14
    · skip
      have h3 : k = 0 := by
        rw [← Int32.toInt_inj, hki, Int32.toInt_zero] at h2
        split at h2 <;> omega
      subst h3
      refine lv_bipush (v := 32) E.1 E.2.1 d_I_numberOfLeadingZeros_8 (by decide) ?_
      refine lv_goto (tgt := 14) E.1 E.2.1 d_I_numberOfLeadingZeros_10 (by decide) ?_
      exact xr_iret E hr hk hS (fun t ht _ => ⟨rfl, ht⟩) d_I_numberOfLeadingZeros_14
set_option maxHeartbeats 4000000 in
set_option maxRecDepth 100000 in
theorem c_nlz64 (l : Launch) (x : Int64) : xM l y_J_numberOfLeadingZeros w_J_numberOfLeadingZeros (xrm 1) [.long x] (fun _ => True) xNA (fun v st t => v = some (.int (nI (64 - nbl (uN x)))) ∧ t.heap = st.heap) (fun _ _ _ => False) := by
  refine xM.of (by decide) ?_
  intro p e s m args below meth c hav E hr hk hh hnm _
  subst hav
  have hS : va_S xNA s.heap s.heap [] := va_S.rf
  have hX := uN_lt x
  have hhi : (xsh x 32).toInt32 = nI (uN x / 2 ^ 32) := by
    have h : xsh x (nI 32) = lN (uN x / 2 ^ 32) := uN_inj (by rw [uN_lN (by omega)]; exact uN_sk x (by decide))
    rw [← lN_i, ← h]
    rfl
  have hlo : x.toInt32 = nI (uN x) := by
    rw [← lN_i, ← xN x]
  refine xl_entry _ (Nat.le_of_ble_eq_true rfl) (fun ls hl => ?_)
  have hl : lv_has ls 3 [(0, .long x)] := hl
  refine lv_lload_n E.1 E.2.1 d_J_numberOfLeadingZeros_0 rfl (lv_at hl 0 rfl) ?_
  refine lv_bipush (v := 32) E.1 E.2.1 d_J_numberOfLeadingZeros_1 (by decide) ?_
  refine lv_lushr (v := xsh x 32) E.1 E.2.1 d_J_numberOfLeadingZeros_3 rfl ?_
  refine lv_l2i (v := (xsh x 32).toInt32) E.1 E.2.1 d_J_numberOfLeadingZeros_4 rfl ?_
  refine xl_ti (y := (nI (uN x / 2 ^ 32))) (hhi) ?_
  refine lv_istore_n E.1 E.2.1 d_J_numberOfLeadingZeros_5 rfl hl (by decide) rfl (fun ls hl => ?_)
  have hl : lv_has ls 3 [(2, .int (nI (uN x / 2 ^ 32))), (0, .long x)] := hl
  refine lv_iload_n E.1 E.2.1 d_J_numberOfLeadingZeros_6 rfl (lv_at hl 0 rfl) ?_
  refine lv_if_ne (tgt := 21) E.1 E.2.1 d_J_numberOfLeadingZeros_7 (by decide) (fun h1 => ?_) (fun h1 => ?_)
  · skip
    have h1 : ¬ uN x / 2 ^ 32 = 0 := fun z => h1 (by rw [z]; rfl)
    have h2 : nbl (uN x) = 32 + nbl (uN x / 2 ^ 32) := nbl_div (by omega)
    refine lv_iload_n E.1 E.2.1 d_J_numberOfLeadingZeros_21 rfl (lv_at hl 0 rfl) ?_
    refine xg_looks (xc_S E xGT (c_nlz32 l (uN x / 2 ^ 32) (by omega)) sw_J_I_numberOfLeadingZeros (by decide) xNo rfl hl.1 rfl (Nat.le_of_ble_eq_true rfl) d_J_numberOfLeadingZeros_22) (fun v st t h => h.2) (fun v st t h0 hal hrt => ?_) (fun x st t h0 hal hth hz => hth.elim)
    obtain ⟨rfl, -⟩ := hrt
    refine W.eq (g2 := F0 m 25 ls [.int (nI (32 - nbl (uN x / 2 ^ 32)))]) rfl ?_
    exact xr_iret E hr hk hS (fun t ht _ => ⟨by rw [h2]; congr 3; omega, ht⟩) d_J_numberOfLeadingZeros_25
  · skip
    have h1 : uN x / 2 ^ 32 = 0 := by
      have h3 := nI_int (k := uN x / 2 ^ 32) (by omega)
      rw [h1, Int32.toInt_zero] at h3
      split at h3 <;> omega
    have h2 : nbl (uN x) ≤ 32 := nbl_le.mpr (by omega)
    refine lv_bipush (v := 32) E.1 E.2.1 d_J_numberOfLeadingZeros_10 (by decide) ?_
    refine lv_lload_n E.1 E.2.1 d_J_numberOfLeadingZeros_12 rfl (lv_at hl 1 rfl) ?_
    refine lv_l2i (v := x.toInt32) E.1 E.2.1 d_J_numberOfLeadingZeros_13 rfl ?_
    refine xl_ti (y := (nI (uN x))) (hlo) ?_
    refine xg_looks (xc_S E xGT (c_nlz32 l (uN x) (by omega)) sw_J_I_numberOfLeadingZeros (by decide) xNo rfl hl.1 rfl (Nat.le_of_ble_eq_true rfl) d_J_numberOfLeadingZeros_14) (fun v st t h => h.2) (fun v st t h0 hal hrt => ?_) (fun x st t h0 hal hth hz => hth.elim)
    obtain ⟨rfl, -⟩ := hrt
    refine W.eq (g2 := F0 m 17 ls [.int (nI (32 - nbl (uN x))), .int 32]) rfl ?_
    refine lv_iadd E.1 E.2.1 d_J_numberOfLeadingZeros_17 ?_
    refine xl_ti (y := (nI (64 - nbl (uN x)))) (by rw [show (32 : Int32) + nI (32 - nbl (uN x)) = nI (32 + (32 - nbl (uN x))) from nI_add 32 _]; congr 1; omega) ?_
    refine lv_goto (tgt := 25) E.1 E.2.1 d_J_numberOfLeadingZeros_18 (by decide) ?_
    exact xr_iret E hr hk hS (fun t ht _ => ⟨rfl, ht⟩) d_J_numberOfLeadingZeros_25
set_option maxHeartbeats 4000000 in
set_option maxRecDepth 100000 in
theorem c_bitsToHold (l : Launch) (x : Int64) : xM l y_X_bitsToHold w_X_bitsToHold (xrm 2) [.long x] (fun _ => True) xNA (fun v st t => v = some (.int (nI (nbl (uN x)))) ∧ t.heap = st.heap) (fun _ _ _ => False) := by
  refine xM.of (by decide) ?_
  intro p e s m args below meth c hav E hr hk hh hnm _
  subst hav
  have hS : va_S xNA s.heap s.heap [] := va_S.rf
  have hb := nbl_64 x
  refine xl_entry _ (Nat.le_of_ble_eq_true rfl) (fun ls hl => ?_)
  have hl : lv_has ls 2 [(0, .long x)] := hl
  refine lv_bipush (v := 64) E.1 E.2.1 d_X_bitsToHold_0 (by decide) ?_
  refine lv_lload_n E.1 E.2.1 d_X_bitsToHold_2 rfl (lv_at hl 0 rfl) ?_
  refine xg_looks (xc_S E xGT (c_nlz64 l x) sw_X_J_numberOfLeadingZeros (by decide) xNo rfl hl.1 rfl (Nat.le_of_ble_eq_true rfl) d_X_bitsToHold_3) (fun v st t h => h.2) (fun v st t h0 hal hrt => ?_) (fun x st t h0 hal hth hz => hth.elim)
  obtain ⟨rfl, -⟩ := hrt
  refine W.eq (g2 := F0 m 6 ls [.int (nI (64 - nbl (uN x))), .int 64]) rfl ?_
  refine lv_isub E.1 E.2.1 d_X_bitsToHold_6 ?_
  refine xl_ti (y := (nI (nbl (uN x)))) (by rw [show (64 : Int32) - nI (64 - nbl (uN x)) = nI (64 - (64 - nbl (uN x))) from pk_sub (a := 64) (b := 64 - nbl (uN x)) (Nat.sub_le _ _)]; congr 1; omega) ?_
  exact xr_iret E hr hk hS (fun t ht _ => ⟨rfl, ht⟩) d_X_bitsToHold_7
set_option maxHeartbeats 4000000 in
set_option maxRecDepth 100000 in
theorem c_compare (l : Launch) (x y : Int64) : xM l y_J_compare w_J_compare (xrm 0) [.long x, .long y] (fun _ => True) xNA (fun v st t => (∃ z : Int32, v = some (.int z) ∧ (0 < z ↔ y < x)) ∧ t.heap = st.heap) (fun _ _ _ => False) := by
  refine xM.of (by decide) ?_
  intro p e s m args below meth c hav E hr hk hh hnm _
  subst hav
  have hS : va_S xNA s.heap s.heap [] := va_S.rf
  refine xl_entry _ (Nat.le_of_ble_eq_true rfl) (fun ls hl => ?_)
  have hl : lv_has ls 4 [(0, .long x), (2, .long y)] := hl
  refine lv_lload_n E.1 E.2.1 d_J_compare_0 rfl (lv_at hl 0 rfl) ?_
  refine lv_lload_n E.1 E.2.1 d_J_compare_1 rfl (lv_at hl 1 rfl) ?_
  refine xl_lc_ge (tgt := 10) E.1 E.2.1 d_J_compare_2 d_J_compare_3 (by decide) (fun h1 => ?_) (fun h1 => ?_)
  · skip
    refine lv_lload_n E.1 E.2.1 d_J_compare_10 rfl (lv_at hl 0 rfl) ?_
    refine lv_lload_n E.1 E.2.1 d_J_compare_11 rfl (lv_at hl 1 rfl) ?_
    refine xl_lc_ne (tgt := 20) E.1 E.2.1 d_J_compare_12 d_J_compare_13 (by decide) (fun h2 => ?_) (fun h2 => ?_)
    · skip
      refine lv_iconst (v := 1) E.1 E.2.1 d_J_compare_20 (by decide) ?_
      refine xr_iret E hr hk hS (fun t ht _ => ⟨⟨_, rfl, fun _ => ?_, fun _ => by decide⟩, ht⟩) d_J_compare_21
      rw [Int64.le_iff_toInt_le] at h1
      rw [← Int64.toInt_inj] at h2
      rw [Int64.lt_iff_toInt_lt]
      omega
    · skip
      subst h2
      refine lv_iconst (v := 0) E.1 E.2.1 d_J_compare_16 (by decide) ?_
      refine lv_goto (tgt := 21) E.1 E.2.1 d_J_compare_17 (by decide) ?_
      refine xr_iret E hr hk hS (fun t ht _ => ⟨⟨_, rfl, fun z => absurd z (by decide), fun z => ?_⟩, ht⟩) d_J_compare_21
      rw [Int64.lt_iff_toInt_lt] at z
      omega
  · skip
    refine lv_iconst (v := (-1)) E.1 E.2.1 d_J_compare_6 (by decide) ?_
    refine lv_goto (tgt := 21) E.1 E.2.1 d_J_compare_7 (by decide) ?_
    refine xr_iret E hr hk hS (fun t ht _ => ⟨⟨_, rfl, fun z => absurd z (by decide), fun z => absurd ?_ h1⟩, ht⟩) d_J_compare_21
    rw [Int64.lt_iff_toInt_lt] at z
    rw [Int64.le_iff_toInt_le]
    omega
theorem uN_flip (x y : Int64) : y + (-9223372036854775808) < x + (-9223372036854775808) ↔ uN y < uN x := by
  have hx := uN_lt x
  have hy := uN_lt y
  have e : uN (-9223372036854775808) = 9223372036854775808 := by decide
  rw [Int64.lt_iff_toInt_lt, uN_int, uN_int, uN_add, uN_add, e]
  omega
set_option maxHeartbeats 4000000 in
set_option maxRecDepth 100000 in
theorem c_compareUnsigned (l : Launch) (x y : Int64) : xM l y_J_compareUnsigned w_J_compareUnsigned (xrm 1) [.long x, .long y] (fun _ => True) xNA (fun v st t => (∃ z : Int32, v = some (.int z) ∧ (0 < z ↔ uN y < uN x)) ∧ t.heap = st.heap) (fun _ _ _ => False) := by
  refine xM.of (by decide) ?_
  intro p e s m args below meth c hav E hr hk hh hnm _
  subst hav
  have hS : va_S xNA s.heap s.heap [] := va_S.rf
  refine xl_entry _ (Nat.le_of_ble_eq_true rfl) (fun ls hl => ?_)
  have hl : lv_has ls 4 [(0, .long x), (2, .long y)] := hl
  refine lv_lload_n E.1 E.2.1 d_J_compareUnsigned_0 rfl (lv_at hl 0 rfl) ?_
  refine lv_ldc2 (v := (-9223372036854775808)) E.1 E.2.1 E.2.2.2.1 (E.2.2.2.2 _ co_J_168) d_J_compareUnsigned_1 ?_
  refine lv_ladd E.1 E.2.1 d_J_compareUnsigned_4 ?_
  refine lv_lload_n E.1 E.2.1 d_J_compareUnsigned_5 rfl (lv_at hl 1 rfl) ?_
  refine lv_ldc2 (v := (-9223372036854775808)) E.1 E.2.1 E.2.2.2.1 (E.2.2.2.2 _ co_J_168) d_J_compareUnsigned_6 ?_
  refine lv_ladd E.1 E.2.1 d_J_compareUnsigned_9 ?_
  refine xg_looks (xc_S E xGT (c_compare l (x + (-9223372036854775808)) (y + (-9223372036854775808))) sw_J_compare (by decide) xNo rfl hl.1 rfl (Nat.le_of_ble_eq_true rfl) d_J_compareUnsigned_10) (fun v st t h => h.2) (fun v st t h0 hal hrt => ?_) (fun x st t h0 hal hth hz => hth.elim)
  obtain ⟨⟨z, rfl, hz⟩, -⟩ := hrt
  rw [uN_flip] at hz
  refine W.eq (g2 := F0 m 13 ls [.int z]) rfl ?_
  exact xr_iret E hr hk hS (fun t ht _ => ⟨⟨z, rfl, hz⟩, ht⟩) d_J_compareUnsigned_13
end XL11b

