/-! The law's own thirteen methods. -/
section XL31
set_option maxHeartbeats 4000000 in
set_option maxRecDepth 100000 in
theorem l_put (l : Launch) (hL : l.stackTraces = false) (D : va_G) (a w o : Nat) (cJ cZ : ClassId) (β : Nat → Bool) (n q : Nat) (f : Nat → Int64) (hn : n ≤ 65536) (hq : q ≤ n) (hne : a ≠ w) (ho1 : o ≠ a) (ho2 : o ≠ w) (x : Int64) (k : Int32) : xWr l y_L_put w_L_put (xrm 7) [.ref a, .long x, .int k, .ref o] D a w o cJ cZ β n q f (sp_put (β, n, q) x k) := by
  refine xWr.of (by decide) ?_
  intro p e s m args below meth c hav E hr hk htab hwL
  subst hav
  obtain ⟨⟨⟨hP, hK⟩, hQ⟩, hO, hN⟩ := hwL
  have hS : va_S (xA3 a w o) s.heap s.heap [] := va_S.rf
  have hol := hO.lt
  have hsk := sk_put (β, n, q) x k
  refine xl_entry _ (Nat.le_of_ble_eq_true rfl) (fun ls hl => ?_)
  have hl : lv_has ls 6 [(0, .ref a), (1, .long x), (3, .int k), (4, .ref o)] := hl
  refine lv_aload E.1 E.2.1 d_L_put_0 (lv_at hl 3 rfl) ?_
  refine lv_iconst (v := 0) E.1 E.2.1 d_L_put_2 (by decide) ?_
  refine lv_aload_n E.1 E.2.1 d_L_put_3 rfl (lv_at hl 0 rfl) ?_
  refine lv_lload_n E.1 E.2.1 d_L_put_4 rfl (lv_at hl 1 rfl) ?_
  refine lv_iload_n E.1 E.2.1 d_L_put_5 rfl (lv_at hl 2 rfl) ?_
  refine xg_goes (xc_V E xGT (c_put l hL D a w cJ cZ β n q hn hne x k) vw_L_X_put (by decide) (wXt.call hP hK hQ) (PX.recv hP hK) rfl hl.1 rfl (Nat.le_of_ble_eq_true rfl) d_L_put_6) hS (fun q _ h => Or.inl h) (fun q h => Or.inl h) (fun v st t locs1 h0 hal hrt hS1 hz hkp => ?_) (fun xc st t locs1 h0 hal hth hS1 hz hkp => ?_)
  · obtain ⟨hr1, ⟨z, rfl, hzv⟩, hP1⟩ := hrt
    have hO1 : xOut D o cJ f t.heap := hO.kept (hkp o hol (fun z => z.elim ho1 ho2))
    generalize t.heap = H1 at hP1 hS1 hz hkp hO1 ⊢
    refine W.eq (g2 := F0 m 9 ls [.int z, .int 0, .ref o]) rfl ?_
    refine lv_i2l (v := z.toInt64) E.1 E.2.1 d_L_put_9 rfl ?_
    refine sl_out E hK hP1 hO1 hne ho1 ho2 hS1 d_L_put_10 (fun H2 locs2 f2 hf2 hP2 hO2 hS2 => ?_)
    refine lv_goto (tgt := 22) E.1 E.2.1 d_L_put_11 (by decide) ?_
    refine lv_iconst (v := 0) E.1 E.2.1 d_L_put_22 (by decide) ?_
    exact xw_ret E hr hk hS2 (by decide) (by decide) (fun t ht _ => ⟨by rw [hr1]; rfl, by rw [ht]; exact hP2, f2, by rw [ht]; exact hO2, fun _ => hf2.trans hzv⟩) d_L_put_23
  · skip
    generalize hsp : sp_put (β, n, q) x k = r at hth hsk ⊢
    rcases hth with ⟨hr1, hT⟩ | ⟨hr1, hT⟩
    · refine xw_catch (r := r) E hal h0 hT hP hO (hsk (by rw [hr1]; decide)) (by rw [hr1]; decide) [] ⟨0, 11, 14, 13⟩ [⟨0, 11, 18, 15⟩] htab (fun y hy => by cases hy) (by decide) (by decide) cl_L_IA ca_IA (fun hfin => ?_)
      refine lv_astore E.1 E.2.1 d_L_put_14 hl (by decide) rfl (fun ls hl => ?_)
      have hl : lv_has ls 6 [(5, .ref xc), (0, .ref a), (1, .long x), (3, .int k), (4, .ref o)] := hl
      refine lv_iconst (v := 1) E.1 E.2.1 d_L_put_16 (by decide) ?_
      exact xw_ret E hr hk hS1 (by decide) (by decide) (fun t ht _ => hfin t ht _ (by rw [hr1]; rfl)) d_L_put_17
    · refine xw_catch (r := r) E hal h0 hT hP hO (hsk (by rw [hr1]; decide)) (by rw [hr1]; decide) [⟨0, 11, 14, 13⟩] ⟨0, 11, 18, 15⟩ [] htab (fun y hy => by cases List.mem_singleton.mp hy; exact Or.inr ⟨by decide, E_IA, E.2.2.2.2 _ cl_L_IA, hN.1⟩) (by decide) (by decide) cl_L_IO ca_IO (fun hfin => ?_)
      refine lv_astore E.1 E.2.1 d_L_put_18 hl (by decide) rfl (fun ls hl => ?_)
      have hl : lv_has ls 6 [(5, .ref xc), (0, .ref a), (1, .long x), (3, .int k), (4, .ref o)] := hl
      refine lv_iconst (v := 2) E.1 E.2.1 d_L_put_20 (by decide) ?_
      exact xw_ret E hr hk hS1 (by decide) (by decide) (fun t ht _ => hfin t ht _ (by rw [hr1]; rfl)) d_L_put_21
set_option maxHeartbeats 4000000 in
set_option maxRecDepth 100000 in
theorem l_putRange (l : Launch) (hL : l.stackTraces = false) (D : va_G) (a w o : Nat) (cJ cZ : ClassId) (β : Nat → Bool) (n q : Nat) (f : Nat → Int64) (hn : n ≤ 65536) (hq : q ≤ n) (hne : a ≠ w) (ho1 : o ≠ a) (ho2 : o ≠ w) (lo : Int64) (hi : Int64) (x : Int64) : xWr l y_L_putRange w_L_putRange (xrm 7) [.ref a, .long lo, .long hi, .long x, .ref o] D a w o cJ cZ β n q f (sp_putRange (β, n, q) lo hi x) := by
  refine xWr.of (by decide) ?_
  intro p e s m args below meth c hav E hr hk htab hwL
  subst hav
  obtain ⟨⟨⟨hP, hK⟩, hQ⟩, hO, hN⟩ := hwL
  have hS : va_S (xA3 a w o) s.heap s.heap [] := va_S.rf
  have hol := hO.lt
  have hsk := sk_putRange (β, n, q) lo hi x
  refine xl_entry _ (Nat.le_of_ble_eq_true rfl) (fun ls hl => ?_)
  have hl : lv_has ls 9 [(0, .ref a), (1, .long lo), (3, .long hi), (5, .long x), (7, .ref o)] := hl
  refine lv_aload E.1 E.2.1 d_L_putRange_0 (lv_at hl 4 rfl) ?_
  refine lv_iconst (v := 0) E.1 E.2.1 d_L_putRange_2 (by decide) ?_
  refine lv_aload_n E.1 E.2.1 d_L_putRange_3 rfl (lv_at hl 0 rfl) ?_
  refine lv_lload_n E.1 E.2.1 d_L_putRange_4 rfl (lv_at hl 1 rfl) ?_
  refine lv_lload_n E.1 E.2.1 d_L_putRange_5 rfl (lv_at hl 2 rfl) ?_
  refine lv_lload E.1 E.2.1 d_L_putRange_6 (lv_at hl 3 rfl) ?_
  refine xg_goes (xc_V E xGT (c_putRange l hL D a w cJ cZ β n q hn hne lo hi x) vw_L_X_putRange (by decide) (wXt.call hP hK hQ) (PX.recv hP hK) rfl hl.1 rfl (Nat.le_of_ble_eq_true rfl) d_L_putRange_8) hS (fun q _ h => Or.inl h) (fun q h => Or.inl h) (fun v st t locs1 h0 hal hrt hS1 hz hkp => ?_) (fun xc st t locs1 h0 hal hth hS1 hz hkp => ?_)
  · obtain ⟨hr1, ⟨z, rfl, hzv⟩, hP1⟩ := hrt
    have hO1 : xOut D o cJ f t.heap := hO.kept (hkp o hol (fun z => z.elim ho1 ho2))
    generalize t.heap = H1 at hP1 hS1 hz hkp hO1 ⊢
    refine W.eq (g2 := F0 m 11 ls [.int z, .int 0, .ref o]) rfl ?_
    refine lv_i2l (v := z.toInt64) E.1 E.2.1 d_L_putRange_11 rfl ?_
    refine sl_out E hK hP1 hO1 hne ho1 ho2 hS1 d_L_putRange_12 (fun H2 locs2 f2 hf2 hP2 hO2 hS2 => ?_)
    refine lv_goto (tgt := 24) E.1 E.2.1 d_L_putRange_13 (by decide) ?_
    refine lv_iconst (v := 0) E.1 E.2.1 d_L_putRange_24 (by decide) ?_
    exact xw_ret E hr hk hS2 (by decide) (by decide) (fun t ht _ => ⟨by rw [hr1]; rfl, by rw [ht]; exact hP2, f2, by rw [ht]; exact hO2, fun _ => hf2.trans hzv⟩) d_L_putRange_25
  · skip
    generalize hsp : sp_putRange (β, n, q) lo hi x = r at hth hsk ⊢
    rcases hth with ⟨hr1, hT⟩ | ⟨hr1, hT⟩
    · refine xw_catch (r := r) E hal h0 hT hP hO (hsk (by rw [hr1]; decide)) (by rw [hr1]; decide) [] ⟨0, 13, 16, 13⟩ [⟨0, 13, 20, 15⟩] htab (fun y hy => by cases hy) (by decide) (by decide) cl_L_IA ca_IA (fun hfin => ?_)
      refine lv_astore E.1 E.2.1 d_L_putRange_16 hl (by decide) rfl (fun ls hl => ?_)
      have hl : lv_has ls 9 [(8, .ref xc), (0, .ref a), (1, .long lo), (3, .long hi), (5, .long x), (7, .ref o)] := hl
      refine lv_iconst (v := 1) E.1 E.2.1 d_L_putRange_18 (by decide) ?_
      exact xw_ret E hr hk hS1 (by decide) (by decide) (fun t ht _ => hfin t ht _ (by rw [hr1]; rfl)) d_L_putRange_19
    · refine xw_catch (r := r) E hal h0 hT hP hO (hsk (by rw [hr1]; decide)) (by rw [hr1]; decide) [⟨0, 13, 16, 13⟩] ⟨0, 13, 20, 15⟩ [] htab (fun y hy => by cases List.mem_singleton.mp hy; exact Or.inr ⟨by decide, E_IA, E.2.2.2.2 _ cl_L_IA, hN.1⟩) (by decide) (by decide) cl_L_IO ca_IO (fun hfin => ?_)
      refine lv_astore E.1 E.2.1 d_L_putRange_20 hl (by decide) rfl (fun ls hl => ?_)
      have hl : lv_has ls 9 [(8, .ref xc), (0, .ref a), (1, .long lo), (3, .long hi), (5, .long x), (7, .ref o)] := hl
      refine lv_iconst (v := 2) E.1 E.2.1 d_L_putRange_22 (by decide) ?_
      exact xw_ret E hr hk hS1 (by decide) (by decide) (fun t ht _ => hfin t ht _ (by rw [hr1]; rfl)) d_L_putRange_23
set_option maxHeartbeats 4000000 in
set_option maxRecDepth 100000 in
theorem l_putLength (l : Launch) (hL : l.stackTraces = false) (D : va_G) (a w o : Nat) (cJ cZ : ClassId) (β : Nat → Bool) (n q : Nat) (f : Nat → Int64) (hn : n ≤ 65536) (hq : q ≤ n) (hne : a ≠ w) (ho1 : o ≠ a) (ho2 : o ≠ w) (k : Int32) : xWr l y_L_putLength w_L_putLength (xrm 7) [.ref a, .int k, .ref o] D a w o cJ cZ β n q f (sp_putLength (β, n, q) k) := by
  refine xWr.of (by decide) ?_
  intro p e s m args below meth c hav E hr hk htab hwL
  subst hav
  obtain ⟨⟨⟨hP, hK⟩, hQ⟩, hO, hN⟩ := hwL
  have hS : va_S (xA3 a w o) s.heap s.heap [] := va_S.rf
  have hol := hO.lt
  have hsk := sk_putLength (β, n, q) k
  refine xl_entry _ (Nat.le_of_ble_eq_true rfl) (fun ls hl => ?_)
  have hl : lv_has ls 4 [(0, .ref a), (1, .int k), (2, .ref o)] := hl
  refine lv_aload_n E.1 E.2.1 d_L_putLength_0 rfl (lv_at hl 2 rfl) ?_
  refine lv_iconst (v := 0) E.1 E.2.1 d_L_putLength_1 (by decide) ?_
  refine lv_aload_n E.1 E.2.1 d_L_putLength_2 rfl (lv_at hl 0 rfl) ?_
  refine lv_iload_n E.1 E.2.1 d_L_putLength_3 rfl (lv_at hl 1 rfl) ?_
  refine xg_goes (xc_V E xGT (c_putLength l hL D a w cJ cZ β n q hn hne k) vw_L_X_putLength (by decide) (wXt.call hP hK hQ) (PX.recv hP hK) rfl hl.1 rfl (Nat.le_of_ble_eq_true rfl) d_L_putLength_4) hS (fun q _ h => Or.inl h) (fun q h => Or.inl h) (fun v st t locs1 h0 hal hrt hS1 hz hkp => ?_) (fun xc st t locs1 h0 hal hth hS1 hz hkp => ?_)
  · obtain ⟨hr1, ⟨z, rfl, hzv⟩, hP1⟩ := hrt
    have hO1 : xOut D o cJ f t.heap := hO.kept (hkp o hol (fun z => z.elim ho1 ho2))
    generalize t.heap = H1 at hP1 hS1 hz hkp hO1 ⊢
    refine W.eq (g2 := F0 m 7 ls [.int z, .int 0, .ref o]) rfl ?_
    refine lv_i2l (v := z.toInt64) E.1 E.2.1 d_L_putLength_7 rfl ?_
    refine sl_out E hK hP1 hO1 hne ho1 ho2 hS1 d_L_putLength_8 (fun H2 locs2 f2 hf2 hP2 hO2 hS2 => ?_)
    refine lv_goto (tgt := 18) E.1 E.2.1 d_L_putLength_9 (by decide) ?_
    refine lv_iconst (v := 0) E.1 E.2.1 d_L_putLength_18 (by decide) ?_
    exact xw_ret E hr hk hS2 (by decide) (by decide) (fun t ht _ => ⟨by rw [hr1]; rfl, by rw [ht]; exact hP2, f2, by rw [ht]; exact hO2, fun _ => hf2.trans hzv⟩) d_L_putLength_19
  · skip
    generalize hsp : sp_putLength (β, n, q) k = r at hth hsk ⊢
    rcases hth with ⟨hr1, hT⟩ | ⟨hr1, hT⟩
    · refine xw_catch (r := r) E hal h0 hT hP hO (hsk (by rw [hr1]; decide)) (by rw [hr1]; decide) [] ⟨0, 9, 12, 13⟩ [⟨0, 9, 15, 15⟩] htab (fun y hy => by cases hy) (by decide) (by decide) cl_L_IA ca_IA (fun hfin => ?_)
      refine lv_astore_n E.1 E.2.1 d_L_putLength_12 rfl hl (by decide) rfl (fun ls hl => ?_)
      have hl : lv_has ls 4 [(3, .ref xc), (0, .ref a), (1, .int k), (2, .ref o)] := hl
      refine lv_iconst (v := 1) E.1 E.2.1 d_L_putLength_13 (by decide) ?_
      exact xw_ret E hr hk hS1 (by decide) (by decide) (fun t ht _ => hfin t ht _ (by rw [hr1]; rfl)) d_L_putLength_14
    · refine xw_catch (r := r) E hal h0 hT hP hO (hsk (by rw [hr1]; decide)) (by rw [hr1]; decide) [⟨0, 9, 12, 13⟩] ⟨0, 9, 15, 15⟩ [] htab (fun y hy => by cases List.mem_singleton.mp hy; exact Or.inr ⟨by decide, E_IA, E.2.2.2.2 _ cl_L_IA, hN.1⟩) (by decide) (by decide) cl_L_IO ca_IO (fun hfin => ?_)
      refine lv_astore_n E.1 E.2.1 d_L_putLength_15 rfl hl (by decide) rfl (fun ls hl => ?_)
      have hl : lv_has ls 4 [(3, .ref xc), (0, .ref a), (1, .int k), (2, .ref o)] := hl
      refine lv_iconst (v := 2) E.1 E.2.1 d_L_putLength_16 (by decide) ?_
      exact xw_ret E hr hk hS1 (by decide) (by decide) (fun t ht _ => hfin t ht _ (by rw [hr1]; rfl)) d_L_putLength_17
set_option maxHeartbeats 4000000 in
set_option maxRecDepth 100000 in
theorem l_putNumber (l : Launch) (hL : l.stackTraces = false) (D : va_G) (a w o : Nat) (cJ cZ : ClassId) (β : Nat → Bool) (n q : Nat) (f : Nat → Int64) (hn : n ≤ 65536) (hq : q ≤ n) (hne : a ≠ w) (ho1 : o ≠ a) (ho2 : o ≠ w) (kind : Int32) (x : Int64) : xWr l y_L_putNumber w_L_putNumber (xrm 7) [.ref a, .int kind, .long x, .ref o] D a w o cJ cZ β n q f (sp_putNumber (β, n, q) kind x) := by
  refine xWr.of (by decide) ?_
  intro p e s m args below meth c hav E hr hk htab hwL
  subst hav
  obtain ⟨⟨⟨hP, hK⟩, hQ⟩, hO, hN⟩ := hwL
  have hS : va_S (xA3 a w o) s.heap s.heap [] := va_S.rf
  have hol := hO.lt
  have hsk := sk_putNumber (β, n, q) kind x
  refine xl_entry _ (Nat.le_of_ble_eq_true rfl) (fun ls hl => ?_)
  have hl : lv_has ls 6 [(0, .ref a), (1, .int kind), (2, .long x), (4, .ref o)] := hl
  refine lv_aload E.1 E.2.1 d_L_putNumber_0 (lv_at hl 3 rfl) ?_
  refine lv_iconst (v := 0) E.1 E.2.1 d_L_putNumber_2 (by decide) ?_
  refine lv_aload_n E.1 E.2.1 d_L_putNumber_3 rfl (lv_at hl 0 rfl) ?_
  refine lv_iload_n E.1 E.2.1 d_L_putNumber_4 rfl (lv_at hl 1 rfl) ?_
  refine lv_lload_n E.1 E.2.1 d_L_putNumber_5 rfl (lv_at hl 2 rfl) ?_
  refine xg_goes (xc_V E xGT (c_putNumber l hL D a w cJ cZ β n q hn hne kind x) vw_L_X_putNumber (by decide) (wXt.call hP hK hQ) (PX.recv hP hK) rfl hl.1 rfl (Nat.le_of_ble_eq_true rfl) d_L_putNumber_6) hS (fun q _ h => Or.inl h) (fun q h => Or.inl h) (fun v st t locs1 h0 hal hrt hS1 hz hkp => ?_) (fun xc st t locs1 h0 hal hth hS1 hz hkp => ?_)
  · obtain ⟨hr1, ⟨z, rfl, hzv⟩, hP1⟩ := hrt
    have hO1 : xOut D o cJ f t.heap := hO.kept (hkp o hol (fun z => z.elim ho1 ho2))
    generalize t.heap = H1 at hP1 hS1 hz hkp hO1 ⊢
    refine W.eq (g2 := F0 m 9 ls [.int z, .int 0, .ref o]) rfl ?_
    refine lv_i2l (v := z.toInt64) E.1 E.2.1 d_L_putNumber_9 rfl ?_
    refine sl_out E hK hP1 hO1 hne ho1 ho2 hS1 d_L_putNumber_10 (fun H2 locs2 f2 hf2 hP2 hO2 hS2 => ?_)
    refine lv_goto (tgt := 22) E.1 E.2.1 d_L_putNumber_11 (by decide) ?_
    refine lv_iconst (v := 0) E.1 E.2.1 d_L_putNumber_22 (by decide) ?_
    exact xw_ret E hr hk hS2 (by decide) (by decide) (fun t ht _ => ⟨by rw [hr1]; rfl, by rw [ht]; exact hP2, f2, by rw [ht]; exact hO2, fun _ => hf2.trans hzv⟩) d_L_putNumber_23
  · skip
    generalize hsp : sp_putNumber (β, n, q) kind x = r at hth hsk ⊢
    rcases hth with ⟨hr1, hT⟩ | ⟨hr1, hT⟩
    · refine xw_catch (r := r) E hal h0 hT hP hO (hsk (by rw [hr1]; decide)) (by rw [hr1]; decide) [] ⟨0, 11, 14, 13⟩ [⟨0, 11, 18, 15⟩] htab (fun y hy => by cases hy) (by decide) (by decide) cl_L_IA ca_IA (fun hfin => ?_)
      refine lv_astore E.1 E.2.1 d_L_putNumber_14 hl (by decide) rfl (fun ls hl => ?_)
      have hl : lv_has ls 6 [(5, .ref xc), (0, .ref a), (1, .int kind), (2, .long x), (4, .ref o)] := hl
      refine lv_iconst (v := 1) E.1 E.2.1 d_L_putNumber_16 (by decide) ?_
      exact xw_ret E hr hk hS1 (by decide) (by decide) (fun t ht _ => hfin t ht _ (by rw [hr1]; rfl)) d_L_putNumber_17
    · refine xw_catch (r := r) E hal h0 hT hP hO (hsk (by rw [hr1]; decide)) (by rw [hr1]; decide) [⟨0, 11, 14, 13⟩] ⟨0, 11, 18, 15⟩ [] htab (fun y hy => by cases List.mem_singleton.mp hy; exact Or.inr ⟨by decide, E_IA, E.2.2.2.2 _ cl_L_IA, hN.1⟩) (by decide) (by decide) cl_L_IO ca_IO (fun hfin => ?_)
      refine lv_astore E.1 E.2.1 d_L_putNumber_18 hl (by decide) rfl (fun ls hl => ?_)
      have hl : lv_has ls 6 [(5, .ref xc), (0, .ref a), (1, .int kind), (2, .long x), (4, .ref o)] := hl
      refine lv_iconst (v := 2) E.1 E.2.1 d_L_putNumber_20 (by decide) ?_
      exact xw_ret E hr hk hS1 (by decide) (by decide) (fun t ht _ => hfin t ht _ (by rw [hr1]; rfl)) d_L_putNumber_21
set_option maxHeartbeats 4000000 in
set_option maxRecDepth 100000 in
theorem l_fill (l : Launch) (hL : l.stackTraces = false) (D : va_G) (a w o : Nat) (cJ cZ : ClassId) (β : Nat → Bool) (n q : Nat) (f : Nat → Int64) (hn : n ≤ 65536) (hq : q ≤ n) (hne : a ≠ w) (ho1 : o ≠ a) (ho2 : o ≠ w) : xWr l y_L_fill w_L_fill (xrm 7) [.ref a, .ref o] D a w o cJ cZ β n q f (sp_fill (β, n, q)) := by
  refine xWr.of (by decide) ?_
  intro p e s m args below meth c hav E hr hk htab hwL
  subst hav
  obtain ⟨⟨⟨hP, hK⟩, hQ⟩, hO, hN⟩ := hwL
  have hS : va_S (xA3 a w o) s.heap s.heap [] := va_S.rf
  have hol := hO.lt
  have hsk := sk_fill (β, n, q)
  refine xl_entry _ (Nat.le_of_ble_eq_true rfl) (fun ls hl => ?_)
  have hl : lv_has ls 3 [(0, .ref a), (1, .ref o)] := hl
  refine lv_aload_n E.1 E.2.1 d_L_fill_0 rfl (lv_at hl 1 rfl) ?_
  refine lv_iconst (v := 0) E.1 E.2.1 d_L_fill_1 (by decide) ?_
  refine lv_aload_n E.1 E.2.1 d_L_fill_2 rfl (lv_at hl 0 rfl) ?_
  refine xg_goes (xc_V E xGT (c_fill l hL D a w cJ cZ β n q hn hne) vw_L_X_fill (by decide) (wXt.call hP hK hQ) (PX.recv hP hK) rfl hl.1 rfl (Nat.le_of_ble_eq_true rfl) d_L_fill_3) hS (fun q _ h => Or.inl h) (fun q h => Or.inl h) (fun v st t locs1 h0 hal hrt hS1 hz hkp => ?_) (fun xc st t locs1 h0 hal hth hS1 hz hkp => ?_)
  · obtain ⟨hr1, ⟨z, rfl, hzv⟩, hP1⟩ := hrt
    have hO1 : xOut D o cJ f t.heap := hO.kept (hkp o hol (fun z => z.elim ho1 ho2))
    generalize t.heap = H1 at hP1 hS1 hz hkp hO1 ⊢
    refine W.eq (g2 := F0 m 6 ls [.int z, .int 0, .ref o]) rfl ?_
    refine lv_i2l (v := z.toInt64) E.1 E.2.1 d_L_fill_6 rfl ?_
    refine sl_out E hK hP1 hO1 hne ho1 ho2 hS1 d_L_fill_7 (fun H2 locs2 f2 hf2 hP2 hO2 hS2 => ?_)
    refine lv_goto (tgt := 14) E.1 E.2.1 d_L_fill_8 (by decide) ?_
    refine lv_iconst (v := 0) E.1 E.2.1 d_L_fill_14 (by decide) ?_
    exact xw_ret E hr hk hS2 (by decide) (by decide) (fun t ht _ => ⟨by rw [hr1]; rfl, by rw [ht]; exact hP2, f2, by rw [ht]; exact hO2, fun _ => hf2.trans hzv⟩) d_L_fill_15
  · skip
    generalize hsp : sp_fill (β, n, q) = r at hth hsk ⊢
    rcases hth with ⟨hr1, hT⟩ | ⟨hr1, hT⟩
    · refine xw_catch (r := r) E hal h0 hT hP hO (hsk (by rw [hr1]; decide)) (by rw [hr1]; decide) [] ⟨0, 8, 11, 15⟩ [] htab (fun y hy => by cases hy) (by decide) (by decide) cl_L_IO ca_IO (fun hfin => ?_)
      refine lv_astore_n E.1 E.2.1 d_L_fill_11 rfl hl (by decide) rfl (fun ls hl => ?_)
      have hl : lv_has ls 3 [(2, .ref xc), (0, .ref a), (1, .ref o)] := hl
      refine lv_iconst (v := 1) E.1 E.2.1 d_L_fill_12 (by decide) ?_
      exact xw_ret E hr hk hS1 (by decide) (by decide) (fun t ht _ => hfin t ht _ (by rw [hr1]; rfl)) d_L_fill_13
    · exact absurd hr1 (by rw [← hsp]; exact sn_fill (β, n, q))
set_option maxHeartbeats 4000000 in
set_option maxRecDepth 100000 in
theorem l_take (l : Launch) (hL : l.stackTraces = false) (D : va_G) (a w o : Nat) (cJ cZ : ClassId) (β : Nat → Bool) (n q : Nat) (f : Nat → Int64) (hn : n ≤ 65536) (hq : q ≤ n) (hne : a ≠ w) (ho1 : o ≠ a) (ho2 : o ≠ w) (k : Int32) : xWr l y_L_take w_L_take (xrm 7) [.ref a, .int k, .ref o] D a w o cJ cZ β n q f (sp_take (β, n, q) k) := by
  refine xWr.of (by decide) ?_
  intro p e s m args below meth c hav E hr hk htab hwL
  subst hav
  obtain ⟨⟨⟨hP, hK⟩, hQ⟩, hO, hN⟩ := hwL
  have hS : va_S (xA3 a w o) s.heap s.heap [] := va_S.rf
  have hol := hO.lt
  have hsk := sk_take (β, n, q) k
  refine xl_entry _ (Nat.le_of_ble_eq_true rfl) (fun ls hl => ?_)
  have hl : lv_has ls 4 [(0, .ref a), (1, .int k), (2, .ref o)] := hl
  refine lv_aload_n E.1 E.2.1 d_L_take_0 rfl (lv_at hl 2 rfl) ?_
  refine lv_iconst (v := 0) E.1 E.2.1 d_L_take_1 (by decide) ?_
  refine lv_aload_n E.1 E.2.1 d_L_take_2 rfl (lv_at hl 0 rfl) ?_
  refine lv_iload_n E.1 E.2.1 d_L_take_3 rfl (lv_at hl 1 rfl) ?_
  refine xg_goes (xc_V E xGT (c_take l hL D a w cJ cZ β n q hn hq hne k) vw_L_X_take (by decide) (wXt.call hP hK hQ) (PX.recv hP hK) rfl hl.1 rfl (Nat.le_of_ble_eq_true rfl) d_L_take_4) hS (fun q _ h => Or.inl h) (fun q h => Or.inl h) (fun v st t locs1 h0 hal hrt hS1 hz hkp => ?_) (fun xc st t locs1 h0 hal hth hS1 hz hkp => ?_)
  · obtain ⟨hr1, rfl, hP1⟩ := hrt
    have hO1 : xOut D o cJ f t.heap := hO.kept (hkp o hol (fun z => z.elim ho1 ho2))
    generalize t.heap = H1 at hP1 hS1 hz hkp hO1 ⊢
    refine W.eq (g2 := F0 m 7 ls [.long (sp_take (β, n, q) k).2.1, .int 0, .ref o]) rfl ?_
    refine sl_out E hK hP1 hO1 hne ho1 ho2 hS1 d_L_take_7 (fun H2 locs2 f2 hf2 hP2 hO2 hS2 => ?_)
    refine lv_goto (tgt := 17) E.1 E.2.1 d_L_take_8 (by decide) ?_
    refine lv_iconst (v := 0) E.1 E.2.1 d_L_take_17 (by decide) ?_
    exact xw_ret E hr hk hS2 (by decide) (by decide) (fun t ht _ => ⟨by rw [hr1]; rfl, by rw [ht]; exact hP2, f2, by rw [ht]; exact hO2, fun _ => hf2⟩) d_L_take_18
  · skip
    generalize hsp : sp_take (β, n, q) k = r at hth hsk ⊢
    rcases hth with ⟨hr1, hT⟩ | ⟨hr1, hT⟩
    · refine xw_catch (r := r) E hal h0 hT hP hO (hsk (by rw [hr1]; decide)) (by rw [hr1]; decide) [] ⟨0, 8, 11, 13⟩ [⟨0, 8, 14, 37⟩] htab (fun y hy => by cases hy) (by decide) (by decide) cl_L_IA ca_IA (fun hfin => ?_)
      refine lv_astore_n E.1 E.2.1 d_L_take_11 rfl hl (by decide) rfl (fun ls hl => ?_)
      have hl : lv_has ls 4 [(3, .ref xc), (0, .ref a), (1, .int k), (2, .ref o)] := hl
      refine lv_iconst (v := 1) E.1 E.2.1 d_L_take_12 (by decide) ?_
      exact xw_ret E hr hk hS1 (by decide) (by decide) (fun t ht _ => hfin t ht _ (by rw [hr1]; rfl)) d_L_take_13
    · refine xw_catch (r := r) E hal h0 hT hP hO (hsk (by rw [hr1]; decide)) (by rw [hr1]; decide) [⟨0, 8, 11, 13⟩] ⟨0, 8, 14, 37⟩ [] htab (fun y hy => by cases List.mem_singleton.mp hy; exact Or.inr ⟨by decide, E_IA, E.2.2.2.2 _ cl_L_IA, hN.2⟩) (by decide) (by decide) cl_L_UO ca_UO (fun hfin => ?_)
      refine lv_astore_n E.1 E.2.1 d_L_take_14 rfl hl (by decide) rfl (fun ls hl => ?_)
      have hl : lv_has ls 4 [(3, .ref xc), (0, .ref a), (1, .int k), (2, .ref o)] := hl
      refine lv_iconst (v := 2) E.1 E.2.1 d_L_take_15 (by decide) ?_
      exact xw_ret E hr hk hS1 (by decide) (by decide) (fun t ht _ => hfin t ht _ (by rw [hr1]; rfl)) d_L_take_16
set_option maxHeartbeats 4000000 in
set_option maxRecDepth 100000 in
theorem l_takeRange (l : Launch) (hL : l.stackTraces = false) (D : va_G) (a w o : Nat) (cJ cZ : ClassId) (β : Nat → Bool) (n q : Nat) (f : Nat → Int64) (hn : n ≤ 65536) (hq : q ≤ n) (hne : a ≠ w) (ho1 : o ≠ a) (ho2 : o ≠ w) (lo : Int64) (hi : Int64) : xWr l y_L_takeRange w_L_takeRange (xrm 7) [.ref a, .long lo, .long hi, .ref o] D a w o cJ cZ β n q f (sp_takeRange (β, n, q) lo hi) := by
  refine xWr.of (by decide) ?_
  intro p e s m args below meth c hav E hr hk htab hwL
  subst hav
  obtain ⟨⟨⟨hP, hK⟩, hQ⟩, hO, hN⟩ := hwL
  have hS : va_S (xA3 a w o) s.heap s.heap [] := va_S.rf
  have hol := hO.lt
  have hsk := sk_takeRange (β, n, q) lo hi
  refine xl_entry _ (Nat.le_of_ble_eq_true rfl) (fun ls hl => ?_)
  have hl : lv_has ls 7 [(0, .ref a), (1, .long lo), (3, .long hi), (5, .ref o)] := hl
  refine lv_aload E.1 E.2.1 d_L_takeRange_0 (lv_at hl 3 rfl) ?_
  refine lv_iconst (v := 0) E.1 E.2.1 d_L_takeRange_2 (by decide) ?_
  refine lv_aload_n E.1 E.2.1 d_L_takeRange_3 rfl (lv_at hl 0 rfl) ?_
  refine lv_lload_n E.1 E.2.1 d_L_takeRange_4 rfl (lv_at hl 1 rfl) ?_
  refine lv_lload_n E.1 E.2.1 d_L_takeRange_5 rfl (lv_at hl 2 rfl) ?_
  refine xg_goes (xc_V E xGT (c_takeRange l hL D a w cJ cZ β n q hn hq hne lo hi) vw_L_X_takeRange (by decide) (wXt.call hP hK hQ) (PX.recv hP hK) rfl hl.1 rfl (Nat.le_of_ble_eq_true rfl) d_L_takeRange_6) hS (fun q _ h => Or.inl h) (fun q h => Or.inl h) (fun v st t locs1 h0 hal hrt hS1 hz hkp => ?_) (fun xc st t locs1 h0 hal hth hS1 hz hkp => ?_)
  · obtain ⟨hr1, rfl, hP1⟩ := hrt
    have hO1 : xOut D o cJ f t.heap := hO.kept (hkp o hol (fun z => z.elim ho1 ho2))
    generalize t.heap = H1 at hP1 hS1 hz hkp hO1 ⊢
    refine W.eq (g2 := F0 m 9 ls [.long (sp_takeRange (β, n, q) lo hi).2.1, .int 0, .ref o]) rfl ?_
    refine sl_out E hK hP1 hO1 hne ho1 ho2 hS1 d_L_takeRange_9 (fun H2 locs2 f2 hf2 hP2 hO2 hS2 => ?_)
    refine lv_goto (tgt := 21) E.1 E.2.1 d_L_takeRange_10 (by decide) ?_
    refine lv_iconst (v := 0) E.1 E.2.1 d_L_takeRange_21 (by decide) ?_
    exact xw_ret E hr hk hS2 (by decide) (by decide) (fun t ht _ => ⟨by rw [hr1]; rfl, by rw [ht]; exact hP2, f2, by rw [ht]; exact hO2, fun _ => hf2⟩) d_L_takeRange_22
  · skip
    generalize hsp : sp_takeRange (β, n, q) lo hi = r at hth hsk ⊢
    rcases hth with ⟨hr1, hT⟩ | ⟨hr1, hT⟩
    · refine xw_catch (r := r) E hal h0 hT hP hO (hsk (by rw [hr1]; decide)) (by rw [hr1]; decide) [] ⟨0, 10, 13, 13⟩ [⟨0, 10, 17, 37⟩] htab (fun y hy => by cases hy) (by decide) (by decide) cl_L_IA ca_IA (fun hfin => ?_)
      refine lv_astore E.1 E.2.1 d_L_takeRange_13 hl (by decide) rfl (fun ls hl => ?_)
      have hl : lv_has ls 7 [(6, .ref xc), (0, .ref a), (1, .long lo), (3, .long hi), (5, .ref o)] := hl
      refine lv_iconst (v := 1) E.1 E.2.1 d_L_takeRange_15 (by decide) ?_
      exact xw_ret E hr hk hS1 (by decide) (by decide) (fun t ht _ => hfin t ht _ (by rw [hr1]; rfl)) d_L_takeRange_16
    · refine xw_catch (r := r) E hal h0 hT hP hO (hsk (by rw [hr1]; decide)) (by rw [hr1]; decide) [⟨0, 10, 13, 13⟩] ⟨0, 10, 17, 37⟩ [] htab (fun y hy => by cases List.mem_singleton.mp hy; exact Or.inr ⟨by decide, E_IA, E.2.2.2.2 _ cl_L_IA, hN.2⟩) (by decide) (by decide) cl_L_UO ca_UO (fun hfin => ?_)
      refine lv_astore E.1 E.2.1 d_L_takeRange_17 hl (by decide) rfl (fun ls hl => ?_)
      have hl : lv_has ls 7 [(6, .ref xc), (0, .ref a), (1, .long lo), (3, .long hi), (5, .ref o)] := hl
      refine lv_iconst (v := 2) E.1 E.2.1 d_L_takeRange_19 (by decide) ?_
      exact xw_ret E hr hk hS1 (by decide) (by decide) (fun t ht _ => hfin t ht _ (by rw [hr1]; rfl)) d_L_takeRange_20
set_option maxHeartbeats 4000000 in
set_option maxRecDepth 100000 in
theorem l_takeLength (l : Launch) (hL : l.stackTraces = false) (D : va_G) (a w o : Nat) (cJ cZ : ClassId) (β : Nat → Bool) (n q : Nat) (f : Nat → Int64) (hn : n ≤ 65536) (hq : q ≤ n) (hne : a ≠ w) (ho1 : o ≠ a) (ho2 : o ≠ w) : xWr l y_L_takeLength w_L_takeLength (xrm 7) [.ref a, .ref o] D a w o cJ cZ β n q f (sp_takeLength (β, n, q)) := by
  refine xWr.of (by decide) ?_
  intro p e s m args below meth c hav E hr hk htab hwL
  subst hav
  obtain ⟨⟨⟨hP, hK⟩, hQ⟩, hO, hN⟩ := hwL
  have hS : va_S (xA3 a w o) s.heap s.heap [] := va_S.rf
  have hol := hO.lt
  have hsk := sk_takeLength (β, n, q)
  refine xl_entry _ (Nat.le_of_ble_eq_true rfl) (fun ls hl => ?_)
  have hl : lv_has ls 3 [(0, .ref a), (1, .ref o)] := hl
  refine lv_aload_n E.1 E.2.1 d_L_takeLength_0 rfl (lv_at hl 1 rfl) ?_
  refine lv_iconst (v := 0) E.1 E.2.1 d_L_takeLength_1 (by decide) ?_
  refine lv_aload_n E.1 E.2.1 d_L_takeLength_2 rfl (lv_at hl 0 rfl) ?_
  refine xg_goes (xc_V E xGT (c_takeLength l hL D a w cJ cZ β n q hn hq hne) vw_L_X_takeLength (by decide) (wXt.call hP hK hQ) (PX.recv hP hK) rfl hl.1 rfl (Nat.le_of_ble_eq_true rfl) d_L_takeLength_3) hS (fun q _ h => Or.inl h) (fun q h => Or.inl h) (fun v st t locs1 h0 hal hrt hS1 hz hkp => ?_) (fun xc st t locs1 h0 hal hth hS1 hz hkp => ?_)
  · obtain ⟨hr1, ⟨z, rfl, hzv⟩, hP1⟩ := hrt
    have hO1 : xOut D o cJ f t.heap := hO.kept (hkp o hol (fun z => z.elim ho1 ho2))
    generalize t.heap = H1 at hP1 hS1 hz hkp hO1 ⊢
    refine W.eq (g2 := F0 m 6 ls [.int z, .int 0, .ref o]) rfl ?_
    refine lv_i2l (v := z.toInt64) E.1 E.2.1 d_L_takeLength_6 rfl ?_
    refine sl_out E hK hP1 hO1 hne ho1 ho2 hS1 d_L_takeLength_7 (fun H2 locs2 f2 hf2 hP2 hO2 hS2 => ?_)
    refine lv_goto (tgt := 14) E.1 E.2.1 d_L_takeLength_8 (by decide) ?_
    refine lv_iconst (v := 0) E.1 E.2.1 d_L_takeLength_14 (by decide) ?_
    exact xw_ret E hr hk hS2 (by decide) (by decide) (fun t ht _ => ⟨by rw [hr1]; rfl, by rw [ht]; exact hP2, f2, by rw [ht]; exact hO2, fun _ => hf2.trans hzv⟩) d_L_takeLength_15
  · skip
    generalize hsp : sp_takeLength (β, n, q) = r at hth hsk ⊢
    rcases hth with ⟨hr1, hT⟩ | ⟨hr1, hT⟩
    · refine xw_catch (r := r) E hal h0 hT hP hO (hsk (by rw [hr1]; decide)) (by rw [hr1]; decide) [] ⟨0, 8, 11, 37⟩ [] htab (fun y hy => by cases hy) (by decide) (by decide) cl_L_UO ca_UO (fun hfin => ?_)
      refine lv_astore_n E.1 E.2.1 d_L_takeLength_11 rfl hl (by decide) rfl (fun ls hl => ?_)
      have hl : lv_has ls 3 [(2, .ref xc), (0, .ref a), (1, .ref o)] := hl
      refine lv_iconst (v := 1) E.1 E.2.1 d_L_takeLength_12 (by decide) ?_
      exact xw_ret E hr hk hS1 (by decide) (by decide) (fun t ht _ => hfin t ht _ (by rw [hr1]; rfl)) d_L_takeLength_13
    · exact absurd hr1 (by rw [← hsp]; exact sn_takeLength (β, n, q))
set_option maxHeartbeats 4000000 in
set_option maxRecDepth 100000 in
theorem l_takeNumber (l : Launch) (hL : l.stackTraces = false) (D : va_G) (a w o : Nat) (cJ cZ : ClassId) (β : Nat → Bool) (n q : Nat) (f : Nat → Int64) (hn : n ≤ 65536) (hq : q ≤ n) (hne : a ≠ w) (ho1 : o ≠ a) (ho2 : o ≠ w) (kind : Int32) : xWr l y_L_takeNumber w_L_takeNumber (xrm 7) [.ref a, .int kind, .ref o] D a w o cJ cZ β n q f (sp_takeNumber (β, n, q) kind) := by
  refine xWr.of (by decide) ?_
  intro p e s m args below meth c hav E hr hk htab hwL
  subst hav
  obtain ⟨⟨⟨hP, hK⟩, hQ⟩, hO, hN⟩ := hwL
  have hS : va_S (xA3 a w o) s.heap s.heap [] := va_S.rf
  have hol := hO.lt
  have hsk := sk_takeNumber (β, n, q) kind
  refine xl_entry _ (Nat.le_of_ble_eq_true rfl) (fun ls hl => ?_)
  have hl : lv_has ls 4 [(0, .ref a), (1, .int kind), (2, .ref o)] := hl
  refine lv_aload_n E.1 E.2.1 d_L_takeNumber_0 rfl (lv_at hl 2 rfl) ?_
  refine lv_iconst (v := 0) E.1 E.2.1 d_L_takeNumber_1 (by decide) ?_
  refine lv_aload_n E.1 E.2.1 d_L_takeNumber_2 rfl (lv_at hl 0 rfl) ?_
  refine lv_iload_n E.1 E.2.1 d_L_takeNumber_3 rfl (lv_at hl 1 rfl) ?_
  refine xg_goes (xc_V E xGT (c_takeNumber l hL D a w cJ cZ β n q hn hq hne kind) vw_L_X_takeNumber (by decide) (wXt.call hP hK hQ) (PX.recv hP hK) rfl hl.1 rfl (Nat.le_of_ble_eq_true rfl) d_L_takeNumber_4) hS (fun q _ h => Or.inl h) (fun q h => Or.inl h) (fun v st t locs1 h0 hal hrt hS1 hz hkp => ?_) (fun xc st t locs1 h0 hal hth hS1 hz hkp => ?_)
  · obtain ⟨hr1, rfl, hP1⟩ := hrt
    have hO1 : xOut D o cJ f t.heap := hO.kept (hkp o hol (fun z => z.elim ho1 ho2))
    generalize t.heap = H1 at hP1 hS1 hz hkp hO1 ⊢
    refine W.eq (g2 := F0 m 7 ls [.long (sp_takeNumber (β, n, q) kind).2.1, .int 0, .ref o]) rfl ?_
    refine sl_out E hK hP1 hO1 hne ho1 ho2 hS1 d_L_takeNumber_7 (fun H2 locs2 f2 hf2 hP2 hO2 hS2 => ?_)
    refine lv_goto (tgt := 17) E.1 E.2.1 d_L_takeNumber_8 (by decide) ?_
    refine lv_iconst (v := 0) E.1 E.2.1 d_L_takeNumber_17 (by decide) ?_
    exact xw_ret E hr hk hS2 (by decide) (by decide) (fun t ht _ => ⟨by rw [hr1]; rfl, by rw [ht]; exact hP2, f2, by rw [ht]; exact hO2, fun _ => hf2⟩) d_L_takeNumber_18
  · skip
    generalize hsp : sp_takeNumber (β, n, q) kind = r at hth hsk ⊢
    rcases hth with ⟨hr1, hT⟩ | ⟨hr1, hT⟩
    · refine xw_catch (r := r) E hal h0 hT hP hO (hsk (by rw [hr1]; decide)) (by rw [hr1]; decide) [] ⟨0, 8, 11, 13⟩ [⟨0, 8, 14, 37⟩] htab (fun y hy => by cases hy) (by decide) (by decide) cl_L_IA ca_IA (fun hfin => ?_)
      refine lv_astore_n E.1 E.2.1 d_L_takeNumber_11 rfl hl (by decide) rfl (fun ls hl => ?_)
      have hl : lv_has ls 4 [(3, .ref xc), (0, .ref a), (1, .int kind), (2, .ref o)] := hl
      refine lv_iconst (v := 1) E.1 E.2.1 d_L_takeNumber_12 (by decide) ?_
      exact xw_ret E hr hk hS1 (by decide) (by decide) (fun t ht _ => hfin t ht _ (by rw [hr1]; rfl)) d_L_takeNumber_13
    · refine xw_catch (r := r) E hal h0 hT hP hO (hsk (by rw [hr1]; decide)) (by rw [hr1]; decide) [⟨0, 8, 11, 13⟩] ⟨0, 8, 14, 37⟩ [] htab (fun y hy => by cases List.mem_singleton.mp hy; exact Or.inr ⟨by decide, E_IA, E.2.2.2.2 _ cl_L_IA, hN.2⟩) (by decide) (by decide) cl_L_UO ca_UO (fun hfin => ?_)
      refine lv_astore_n E.1 E.2.1 d_L_takeNumber_14 rfl hl (by decide) rfl (fun ls hl => ?_)
      have hl : lv_has ls 4 [(3, .ref xc), (0, .ref a), (1, .int kind), (2, .ref o)] := hl
      refine lv_iconst (v := 2) E.1 E.2.1 d_L_takeNumber_15 (by decide) ?_
      exact xw_ret E hr hk hS1 (by decide) (by decide) (fun t ht _ => hfin t ht _ (by rw [hr1]; rfl)) d_L_takeNumber_16
set_option maxHeartbeats 4000000 in
set_option maxRecDepth 100000 in
theorem l_go (l : Launch) (hL : l.stackTraces = false) (D : va_G) (a w o : Nat) (cJ cZ : ClassId) (β : Nat → Bool) (n q : Nat) (f : Nat → Int64) (hn : n ≤ 65536) (hq : q ≤ n) (hne : a ≠ w) (ho1 : o ≠ a) (ho2 : o ≠ w) (k : Int32) : xWr l y_L_go w_L_go (xrm 7) [.ref a, .int k, .ref o] D a w o cJ cZ β n q f (sp_go (β, n, q) k) := by
  refine xWr.of (by decide) ?_
  intro p e s m args below meth c hav E hr hk htab hwL
  subst hav
  obtain ⟨⟨⟨hP, hK⟩, hQ⟩, hO, hN⟩ := hwL
  have hS : va_S (xA3 a w o) s.heap s.heap [] := va_S.rf
  have hol := hO.lt
  have hsk := sk_go (β, n, q) k
  refine xl_entry _ (Nat.le_of_ble_eq_true rfl) (fun ls hl => ?_)
  have hl : lv_has ls 4 [(0, .ref a), (1, .int k), (2, .ref o)] := hl
  refine lv_aload_n E.1 E.2.1 d_L_go_0 rfl (lv_at hl 2 rfl) ?_
  refine lv_iconst (v := 0) E.1 E.2.1 d_L_go_1 (by decide) ?_
  refine lv_aload_n E.1 E.2.1 d_L_go_2 rfl (lv_at hl 0 rfl) ?_
  refine lv_iload_n E.1 E.2.1 d_L_go_3 rfl (lv_at hl 1 rfl) ?_
  refine xg_goes (xc_V E xGT (c_go l hL D a w cJ cZ β n q hn hq hne k) vw_L_X_go (by decide) (wXt.call hP hK hQ) (PX.recv hP hK) rfl hl.1 rfl (Nat.le_of_ble_eq_true rfl) d_L_go_4) hS (fun q _ h => Or.inl h) (fun q h => Or.inl h) (fun v st t locs1 h0 hal hrt hS1 hz hkp => ?_) (fun xc st t locs1 h0 hal hth hS1 hz hkp => ?_)
  · obtain ⟨hr1, ⟨z, rfl, hzv⟩, hP1⟩ := hrt
    have hO1 : xOut D o cJ f t.heap := hO.kept (hkp o hol (fun z => z.elim ho1 ho2))
    generalize t.heap = H1 at hP1 hS1 hz hkp hO1 ⊢
    refine W.eq (g2 := F0 m 7 ls [.int z, .int 0, .ref o]) rfl ?_
    refine lv_i2l (v := z.toInt64) E.1 E.2.1 d_L_go_7 rfl ?_
    refine sl_out E hK hP1 hO1 hne ho1 ho2 hS1 d_L_go_8 (fun H2 locs2 f2 hf2 hP2 hO2 hS2 => ?_)
    refine lv_goto (tgt := 15) E.1 E.2.1 d_L_go_9 (by decide) ?_
    refine lv_iconst (v := 0) E.1 E.2.1 d_L_go_15 (by decide) ?_
    exact xw_ret E hr hk hS2 (by decide) (by decide) (fun t ht _ => ⟨by rw [hr1]; rfl, by rw [ht]; exact hP2, f2, by rw [ht]; exact hO2, fun _ => hf2.trans hzv⟩) d_L_go_16
  · skip
    generalize hsp : sp_go (β, n, q) k = r at hth hsk ⊢
    rcases hth with ⟨hr1, hT⟩ | ⟨hr1, hT⟩
    · refine xw_catch (r := r) E hal h0 hT hP hO (hsk (by rw [hr1]; decide)) (by rw [hr1]; decide) [] ⟨0, 9, 12, 13⟩ [] htab (fun y hy => by cases hy) (by decide) (by decide) cl_L_IA ca_IA (fun hfin => ?_)
      refine lv_astore_n E.1 E.2.1 d_L_go_12 rfl hl (by decide) rfl (fun ls hl => ?_)
      have hl : lv_has ls 4 [(3, .ref xc), (0, .ref a), (1, .int k), (2, .ref o)] := hl
      refine lv_iconst (v := 1) E.1 E.2.1 d_L_go_13 (by decide) ?_
      exact xw_ret E hr hk hS1 (by decide) (by decide) (fun t ht _ => hfin t ht _ (by rw [hr1]; rfl)) d_L_go_14
    · exact absurd hr1 (by rw [← hsp]; exact sn_go (β, n, q) k)
set_option maxHeartbeats 4000000 in
set_option maxRecDepth 100000 in
theorem l_turn (l : Launch) (hL : l.stackTraces = false) (D : va_G) (a w o : Nat) (cJ cZ : ClassId) (β : Nat → Bool) (n q : Nat) (f : Nat → Int64) (hn : n ≤ 65536) (hq : q ≤ n) (hne : a ≠ w) (ho1 : o ≠ a) (ho2 : o ≠ w) (k : Int32) : xWr l y_L_turn w_L_turn (xrm 7) [.ref a, .int k, .ref o] D a w o cJ cZ β n q f (sp_turn (β, n, q) k) := by
  refine xWr.of (by decide) ?_
  intro p e s m args below meth c hav E hr hk htab hwL
  subst hav
  obtain ⟨⟨⟨hP, hK⟩, hQ⟩, hO, hN⟩ := hwL
  have hS : va_S (xA3 a w o) s.heap s.heap [] := va_S.rf
  have hol := hO.lt
  have hsk := sk_turn (β, n, q) k
  refine xl_entry _ (Nat.le_of_ble_eq_true rfl) (fun ls hl => ?_)
  have hl : lv_has ls 4 [(0, .ref a), (1, .int k), (2, .ref o)] := hl
  refine lv_aload_n E.1 E.2.1 d_L_turn_0 rfl (lv_at hl 2 rfl) ?_
  refine lv_iconst (v := 0) E.1 E.2.1 d_L_turn_1 (by decide) ?_
  refine lv_aload_n E.1 E.2.1 d_L_turn_2 rfl (lv_at hl 0 rfl) ?_
  refine lv_iload_n E.1 E.2.1 d_L_turn_3 rfl (lv_at hl 1 rfl) ?_
  refine xg_goes (xc_V E xGT (c_turn l hL D a w cJ cZ β n q hn hq hne k) vw_L_X_turn (by decide) (wXt.call hP hK hQ) (PX.recv hP hK) rfl hl.1 rfl (Nat.le_of_ble_eq_true rfl) d_L_turn_4) hS (fun q _ h => Or.inl h) (fun q h => Or.inl h) (fun v st t locs1 h0 hal hrt hS1 hz hkp => ?_) (fun xc st t locs1 h0 hal hth hS1 hz hkp => ?_)
  · obtain ⟨hr1, ⟨z, rfl, hzv⟩, hP1⟩ := hrt
    have hO1 : xOut D o cJ f t.heap := hO.kept (hkp o hol (fun z => z.elim ho1 ho2))
    generalize t.heap = H1 at hP1 hS1 hz hkp hO1 ⊢
    refine W.eq (g2 := F0 m 7 ls [.int z, .int 0, .ref o]) rfl ?_
    have tail : ∀ v : Int64, v = (sp_turn (β, n, q) k).2.1 → W p l e (xrm 7) s m [Value.ref a, .int k, .ref o].toArray below meth c H1 locs1 0 0 (xl_MQ below (xl_Q (xA3 a w o) (xWe (sp_turn (β, n, q) k) D a w o cJ) (fun _ _ _ => False)) [Value.ref a, .int k, .ref o].toArray s (fun _ => 1) (fun _ => 6) (xA3 a w o)) (F0 m 15 ls [.long v, .int 0, .ref o]) := by
      intro v hv
      refine sl_out E hK hP1 hO1 hne ho1 ho2 hS1 d_L_turn_15 (fun H2 locs2 f2 hf2 hP2 hO2 hS2 => ?_)
      refine lv_goto (tgt := 22) E.1 E.2.1 d_L_turn_16 (by decide) ?_
      refine lv_iconst (v := 0) E.1 E.2.1 d_L_turn_22 (by decide) ?_
      exact xw_ret E hr hk hS2 (by decide) (by decide) (fun t ht _ => ⟨by rw [hr1]; rfl, by rw [ht]; exact hP2, f2, by rw [ht]; exact hO2, fun _ => hf2.trans hv⟩) d_L_turn_23
    refine lv_if_eq (tgt := 14) E.1 E.2.1 d_L_turn_7 (by decide) (fun h1 => ?_) (fun h1 => ?_)
    · skip
      refine lv_lconst (v := 0) E.1 E.2.1 d_L_turn_14 (by decide) ?_
      exact tail 0 (by rw [← hzv, h1]; rfl)
    · skip
      refine lv_lconst (v := 1) E.1 E.2.1 d_L_turn_10 (by decide) ?_
      refine lv_goto (tgt := 15) E.1 E.2.1 d_L_turn_11 (by decide) ?_
      refine tail 1 ?_
      exact xz_bool hzv h1
  · skip
    generalize hsp : sp_turn (β, n, q) k = r at hth hsk ⊢
    rcases hth with ⟨hr1, hT⟩ | ⟨hr1, hT⟩
    · refine xw_catch (r := r) E hal h0 hT hP hO (hsk (by rw [hr1]; decide)) (by rw [hr1]; decide) [] ⟨0, 16, 19, 13⟩ [] htab (fun y hy => by cases hy) (by decide) (by decide) cl_L_IA ca_IA (fun hfin => ?_)
      refine lv_astore_n E.1 E.2.1 d_L_turn_19 rfl hl (by decide) rfl (fun ls hl => ?_)
      have hl : lv_has ls 4 [(3, .ref xc), (0, .ref a), (1, .int k), (2, .ref o)] := hl
      refine lv_iconst (v := 1) E.1 E.2.1 d_L_turn_20 (by decide) ?_
      exact xw_ret E hr hk hS1 (by decide) (by decide) (fun t ht _ => hfin t ht _ (by rw [hr1]; rfl)) d_L_turn_21
    · exact absurd hr1 (by rw [← hsp]; exact sn_turn (β, n, q) k)
set_option maxHeartbeats 4000000 in
set_option maxRecDepth 100000 in
theorem l_cut (l : Launch) (hL : l.stackTraces = false) (D : va_G) (a w o : Nat) (cJ cZ : ClassId) (β : Nat → Bool) (n q : Nat) (f : Nat → Int64) (hn : n ≤ 65536) (hq : q ≤ n) (hne : a ≠ w) (ho1 : o ≠ a) (ho2 : o ≠ w) (k : Int32) : xWr l y_L_cut w_L_cut (xrm 7) [.ref a, .int k, .ref o] D a w o cJ cZ β n q f (sp_cut (β, n, q) k) := by
  refine xWr.of (by decide) ?_
  intro p e s m args below meth c hav E hr hk htab hwL
  subst hav
  obtain ⟨⟨⟨hP, hK⟩, hQ⟩, hO, hN⟩ := hwL
  have hS : va_S (xA3 a w o) s.heap s.heap [] := va_S.rf
  have hol := hO.lt
  have hsk := sk_cut (β, n, q) k
  refine xl_entry _ (Nat.le_of_ble_eq_true rfl) (fun ls hl => ?_)
  have hl : lv_has ls 4 [(0, .ref a), (1, .int k), (2, .ref o)] := hl
  refine lv_aload_n E.1 E.2.1 d_L_cut_0 rfl (lv_at hl 2 rfl) ?_
  refine lv_iconst (v := 0) E.1 E.2.1 d_L_cut_1 (by decide) ?_
  refine lv_aload_n E.1 E.2.1 d_L_cut_2 rfl (lv_at hl 0 rfl) ?_
  refine lv_iload_n E.1 E.2.1 d_L_cut_3 rfl (lv_at hl 1 rfl) ?_
  refine xg_goes (xc_V E xGT (c_cut l hL D a w cJ cZ β n q hn hq hne k) vw_L_X_cut (by decide) (wXt.call hP hK hQ) (PX.recv hP hK) rfl hl.1 rfl (Nat.le_of_ble_eq_true rfl) d_L_cut_4) hS (fun q _ h => Or.inl h) (fun q h => Or.inl h) (fun v st t locs1 h0 hal hrt hS1 hz hkp => ?_) (fun xc st t locs1 h0 hal hth hS1 hz hkp => ?_)
  · obtain ⟨hr1, ⟨z, rfl, hzv⟩, hP1⟩ := hrt
    have hO1 : xOut D o cJ f t.heap := hO.kept (hkp o hol (fun z => z.elim ho1 ho2))
    generalize t.heap = H1 at hP1 hS1 hz hkp hO1 ⊢
    refine W.eq (g2 := F0 m 7 ls [.int z, .int 0, .ref o]) rfl ?_
    refine lv_i2l (v := z.toInt64) E.1 E.2.1 d_L_cut_7 rfl ?_
    refine sl_out E hK hP1 hO1 hne ho1 ho2 hS1 d_L_cut_8 (fun H2 locs2 f2 hf2 hP2 hO2 hS2 => ?_)
    refine lv_goto (tgt := 15) E.1 E.2.1 d_L_cut_9 (by decide) ?_
    refine lv_iconst (v := 0) E.1 E.2.1 d_L_cut_15 (by decide) ?_
    exact xw_ret E hr hk hS2 (by decide) (by decide) (fun t ht _ => ⟨by rw [hr1]; rfl, by rw [ht]; exact hP2, f2, by rw [ht]; exact hO2, fun _ => hf2.trans hzv⟩) d_L_cut_16
  · skip
    generalize hsp : sp_cut (β, n, q) k = r at hth hsk ⊢
    rcases hth with ⟨hr1, hT⟩ | ⟨hr1, hT⟩
    · refine xw_catch (r := r) E hal h0 hT hP hO (hsk (by rw [hr1]; decide)) (by rw [hr1]; decide) [] ⟨0, 9, 12, 13⟩ [] htab (fun y hy => by cases hy) (by decide) (by decide) cl_L_IA ca_IA (fun hfin => ?_)
      refine lv_astore_n E.1 E.2.1 d_L_cut_12 rfl hl (by decide) rfl (fun ls hl => ?_)
      have hl : lv_has ls 4 [(3, .ref xc), (0, .ref a), (1, .int k), (2, .ref o)] := hl
      refine lv_iconst (v := 1) E.1 E.2.1 d_L_cut_13 (by decide) ?_
      exact xw_ret E hr hk hS1 (by decide) (by decide) (fun t ht _ => hfin t ht _ (by rw [hr1]; rfl)) d_L_cut_14
    · exact absurd hr1 (by rw [← hsp]; exact sn_cut (β, n, q) k)
set_option maxHeartbeats 4000000 in
set_option maxRecDepth 100000 in
theorem l_count (l : Launch) (hL : l.stackTraces = false) (D : va_G) (a w o : Nat) (cJ cZ : ClassId) (β : Nat → Bool) (n q : Nat) (f : Nat → Int64) (hn : n ≤ 65536) (hq : q ≤ n) (hne : a ≠ w) (ho1 : o ≠ a) (ho2 : o ≠ w) (k : Int32) : xWr l y_L_count w_L_count (xrm 7) [.ref a, .int k, .ref o] D a w o cJ cZ β n q f (sp_count (β, n, q) k) := by
  refine xWr.of (by decide) ?_
  intro p e s m args below meth c hav E hr hk htab hwL
  subst hav
  obtain ⟨⟨⟨hP, hK⟩, hQ⟩, hO, hN⟩ := hwL
  have hS : va_S (xA3 a w o) s.heap s.heap [] := va_S.rf
  have hol := hO.lt
  have hsk := sk_count (β, n, q) k
  refine xl_entry _ (Nat.le_of_ble_eq_true rfl) (fun ls hl => ?_)
  have hl : lv_has ls 4 [(0, .ref a), (1, .int k), (2, .ref o)] := hl
  refine lv_aload_n E.1 E.2.1 d_L_count_0 rfl (lv_at hl 2 rfl) ?_
  refine lv_iconst (v := 0) E.1 E.2.1 d_L_count_1 (by decide) ?_
  refine lv_aload_n E.1 E.2.1 d_L_count_2 rfl (lv_at hl 0 rfl) ?_
  refine lv_iload_n E.1 E.2.1 d_L_count_3 rfl (lv_at hl 1 rfl) ?_
  refine xg_goes (xc_V E xGT (c_count l hL D a w cJ cZ β n q hn hq hne k) vw_L_X_count (by decide) (wXt.call hP hK hQ) (PX.recv hP hK) rfl hl.1 rfl (Nat.le_of_ble_eq_true rfl) d_L_count_4) hS (fun q _ h => Or.inl h) (fun q h => Or.inl h) (fun v st t locs1 h0 hal hrt hS1 hz hkp => ?_) (fun xc st t locs1 h0 hal hth hS1 hz hkp => ?_)
  · obtain ⟨hr1, ⟨z, rfl, hzv⟩, hP1⟩ := hrt
    have hO1 : xOut D o cJ f t.heap := hO.kept (hkp o hol (fun z => z.elim ho1 ho2))
    generalize t.heap = H1 at hP1 hS1 hz hkp hO1 ⊢
    refine W.eq (g2 := F0 m 7 ls [.int z, .int 0, .ref o]) rfl ?_
    refine lv_i2l (v := z.toInt64) E.1 E.2.1 d_L_count_7 rfl ?_
    refine sl_out E hK hP1 hO1 hne ho1 ho2 hS1 d_L_count_8 (fun H2 locs2 f2 hf2 hP2 hO2 hS2 => ?_)
    refine lv_goto (tgt := 15) E.1 E.2.1 d_L_count_9 (by decide) ?_
    refine lv_iconst (v := 0) E.1 E.2.1 d_L_count_15 (by decide) ?_
    exact xw_ret E hr hk hS2 (by decide) (by decide) (fun t ht _ => ⟨by rw [hr1]; rfl, by rw [ht]; exact hP2, f2, by rw [ht]; exact hO2, fun _ => hf2.trans hzv⟩) d_L_count_16
  · skip
    generalize hsp : sp_count (β, n, q) k = r at hth hsk ⊢
    rcases hth with ⟨hr1, hT⟩ | ⟨hr1, hT⟩
    · refine xw_catch (r := r) E hal h0 hT hP hO (hsk (by rw [hr1]; decide)) (by rw [hr1]; decide) [] ⟨0, 9, 12, 13⟩ [] htab (fun y hy => by cases hy) (by decide) (by decide) cl_L_IA ca_IA (fun hfin => ?_)
      refine lv_astore_n E.1 E.2.1 d_L_count_12 rfl hl (by decide) rfl (fun ls hl => ?_)
      have hl : lv_has ls 4 [(3, .ref xc), (0, .ref a), (1, .int k), (2, .ref o)] := hl
      refine lv_iconst (v := 1) E.1 E.2.1 d_L_count_13 (by decide) ?_
      exact xw_ret E hr hk hS1 (by decide) (by decide) (fun t ht _ => hfin t ht _ (by rw [hr1]; rfl)) d_L_count_14
    · exact absurd hr1 (by rw [← hsp]; exact sn_count (β, n, q) k)
end XL31

