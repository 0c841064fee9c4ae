/-! The reference: a number read. -/
section XL28
theorem nb_20 (v : Int64) : nb 2 v = nb 0 v := by
  unfold nb
  rw [if_neg (by decide), if_neg (by decide)]
theorem xsx_20 (v : Int64) (b : Nat) : xsx 2 v b = xsx 0 v b := by
  unfold xsx
  rw [if_neg (by decide), if_neg (by decide)]
theorem xnumAt_20 (β : Nat → Bool) (n u : Nat) : xnumAt β n 2 u = xnumAt β n 0 u := by
  cases hx : xlen β n u with
  | none => rw [xnumAt_no hx, xnumAt_no hx]
  | some z =>
    obtain ⟨b, wd⟩ := z
    rw [xnumAt_of hx, xnumAt_of hx, xsx_20, nb_20]
set_option maxHeartbeats 4000000 in
set_option maxRecDepth 100000 in
theorem m_takeNumber (l : Launch) (D : va_G) (b r : Nat) (cJ cZ : ClassId) (β : Nat → Bool) (n q : Nat) (fa : Int32) (rd : Nat) (gd : Bool) (hn : n ≤ 65536) (hq : q ≤ n) (hne : b ≠ r) (kind : Int32) : xM l y_M_takeNumber w_M_takeNumber (xrm 2) [.ref b, .int kind] (wM D b r cJ cZ β n q fa rd gd) (xA2 b r) (xMl (sp_takeNumber (β, n, q) kind) D b r cZ) (fun _ _ _ => False) := by
  refine xM.of (by decide) ?_
  intro p e s m args below meth c hav E hr hk hh hnm hwM
  subst hav
  obtain ⟨hP, hK⟩ := hwM
  have hS : va_S (xA2 b r) s.heap s.heap [] := va_S.rf
  generalize hsp0 : sp_takeNumber (β, n, q) kind = sp
  have t160 : ∀ (H : Heap) (locs : List Loc) (ls : Array Slot) (v : Int64) (u : Nat) (g : Bool) (len : Nat), (g = true → sp = (0, v, (β, n, u))) → (g = false → sp = (2, 0, (β, n, q))) → PM D b r cZ β n q 0 u g H → va_S (xA2 b r) s.heap H locs → lv_has ls 5 [(3, .long v), (2, .int (nI len)), (0, .ref b), (1, .int kind)] →
      W p l e (xrm 2) s m [Value.ref b, .int kind].toArray below meth c H locs 0 0 (xl_MQ below (xl_Q (xA2 b r) (xMl (sp_takeNumber (β, n, q) kind) D b r cZ) (fun _ _ _ => False)) [Value.ref b, .int kind].toArray s (xl_k 0 1) (xl_k 0 6) (xA2 b r)) (F0 m 160 ls []) := by
    rw [hsp0]
    intro H locs ls v u g len hA hB hP hS hl
    refine lv_aload_n E.1 E.2.1 d_M_takeNumber_160 rfl (lv_at hl 2 rfl) ?_
    refine lv_lload_n E.1 E.2.1 d_M_takeNumber_161 rfl (lv_at hl 0 rfl) ?_
    refine lv_iconst (v := 2) E.1 E.2.1 d_M_takeNumber_162 (by decide) ?_
    refine xg_goes (xc_V E xGT (m_done l D b r cJ cZ β n q u g hne v 2) vw_M_done (by decide) (wM.call hP hK) (PM.recv hP hK) rfl hl.1 rfl (Nat.le_of_ble_eq_true rfl) d_M_takeNumber_163) hS (fun q _ h => h) (fun q h => h) (fun v st t locs1 h0 hal hrt hS3 hz hkp => ?_) (fun x st t locs1 h0 hal hth => hth.elim)
    rcases hrt with ⟨g2, rfl, hP3⟩ | ⟨g2, rfl, hP3⟩
    · skip
      refine W.eq (g2 := F0 m 166 ls [.long v]) rfl ?_
      generalize t.heap = H3 at hP3 hS3 hz hkp ⊢
      exact xr_lret E hr hk hS3 (fun t ht _ => xMl.mk (hA g2) (fun _ => rfl) (by rw [ht]; exact hP3)) d_M_takeNumber_166
    · skip
      refine W.eq (g2 := F0 m 166 ls [.long 0]) rfl ?_
      generalize t.heap = H3 at hP3 hS3 hz hkp ⊢
      exact xr_lret E hr hk hS3 (fun t ht _ => xMl.mk (hB g2) (fun z => absurd z (by decide)) (by rw [ht]; exact hP3)) d_M_takeNumber_166
  have t155 : ∀ (H : Heap) (locs : List Loc) (ls : Array Slot) (v : Int64) (u : Nat) (g : Bool) (len : Nat), sp = (2, 0, (β, n, q)) → PM D b r cZ β n q 0 u g H → va_S (xA2 b r) s.heap H locs → lv_has ls 5 [(3, .long v), (2, .int (nI len)), (0, .ref b), (1, .int kind)] →
      W p l e (xrm 2) s m [Value.ref b, .int kind].toArray below meth c H locs 0 0 (xl_MQ below (xl_Q (xA2 b r) (xMl (sp_takeNumber (β, n, q) kind) D b r cZ) (fun _ _ _ => False)) [Value.ref b, .int kind].toArray s (xl_k 0 1) (xl_k 0 6) (xA2 b r)) (F0 m 155 ls []) := by
    intro H locs ls v u g len hB hP hS hl
    refine lv_aload_n E.1 E.2.1 d_M_takeNumber_155 rfl (lv_at hl 2 rfl) ?_
    refine lv_iconst (v := 0) E.1 E.2.1 d_M_takeNumber_156 (by decide) ?_
    refine sm_good (g := false) E hK hP hne hS d_M_takeNumber_157 (fun H2 locs2 hP2 hS2 => ?_)
    exact t160 H2 locs2 ls v u false len (fun a => by cases a) (fun _ => hB) hP2 hS2 hl
  have t90 : ∀ (H : Heap) (locs : List Loc) (ls : Array Slot) (Z : Int64) (u : Nat) (g : Bool) (len : Nat), 1 ≤ len → len ≤ 8 → (g = true → nb kind (xsx kind Z len) = len → ¬ (kind = 2 ∧ (0 ≤ xsx kind Z len ∧ xsx kind Z len < 64)) → sp = (0, xsx kind Z len, (β, n, u))) → (g = false ∨ nb kind (xsx kind Z len) ≠ len ∨ (kind = 2 ∧ (0 ≤ xsx kind Z len ∧ xsx kind Z len < 64)) → sp = (2, 0, (β, n, q))) → PM D b r cZ β n q 0 u g H → va_S (xA2 b r) s.heap H locs → lv_has ls 5 [(2, .int (nI len)), (0, .ref b), (1, .int kind)] →
      W p l e (xrm 2) s m [Value.ref b, .int kind].toArray below meth c H locs 0 0 (xl_MQ below (xl_Q (xA2 b r) (xMl (sp_takeNumber (β, n, q) kind) D b r cZ) (fun _ _ _ => False)) [Value.ref b, .int kind].toArray s (xl_k 0 1) (xl_k 0 6) (xA2 b r)) (F0 m 90 ls [.long Z]) := by
    intro H locs ls Z u g len hl1 hl8 hA hB hP hS hl
    refine lv_lstore_n E.1 E.2.1 d_M_takeNumber_90 rfl hl (by decide) rfl (fun ls hl => ?_)
    have hl : lv_has ls 5 [(3, .long Z), (2, .int (nI len)), (0, .ref b), (1, .int kind)] := hl
    refine xl_join (fun ls : Array Slot => lv_has ls 5 [(3, .long (xsx kind Z len)), (2, .int (nI len)), (0, .ref b), (1, .int kind)]) (fun ls => F0 m 114 ls []) (fun ls hl => ?_) (fun hj => ?_)
    · generalize xsx kind Z len = v at hA hB hl
      have hnb8 := nb_8 kind v
      refine xl_join (fun z : Int32 => z = nI (nb kind v)) (fun z => F0 m 133 ls [.int z, .int (nI len)]) (fun z hz => ?_) (fun hj2 => ?_)
      · subst hz
        refine lv_icmp_ne (tgt := 155) E.1 E.2.1 d_M_takeNumber_133 (by decide) (fun h1 => ?_) (fun h1 => ?_)
        · skip
          exact t155 H locs ls v u g len (hB (Or.inr (Or.inl (fun z => h1 (by rw [z]))))) hP hS hl
        · skip
          have h1 : nb kind v = len := ((nI_eq (by omega) (by omega)).mp h1).symm
          refine lv_iload_n E.1 E.2.1 d_M_takeNumber_136 rfl (lv_at hl 3 rfl) ?_
          refine lv_iconst (v := 2) E.1 E.2.1 d_M_takeNumber_137 (by decide) ?_
          refine lv_icmp_ne (tgt := 160) E.1 E.2.1 d_M_takeNumber_138 (by decide) (fun h2 => ?_) (fun h2 => ?_)
          · skip
            exact t160 H locs ls v u g len (fun a => hA a h1 (fun z => h2 z.1)) (fun a => hB (Or.inl a)) hP hS hl
          · skip
            refine lv_lload_n E.1 E.2.1 d_M_takeNumber_141 rfl (lv_at hl 0 rfl) ?_
            refine lv_lconst (v := 0) E.1 E.2.1 d_M_takeNumber_142 (by decide) ?_
            refine xl_lc_lt (tgt := 160) E.1 E.2.1 d_M_takeNumber_143 d_M_takeNumber_144 (by decide) (fun h3 => ?_) (fun h3 => ?_)
            · skip
              refine t160 H locs ls v u g len (fun a => hA a h1 (fun z => ?_)) (fun a => hB (Or.inl a)) hP hS hl
              have z := z.2.1
              rw [Int64.lt_iff_toInt_lt] at h3
              rw [Int64.le_iff_toInt_le] at z
              omega
            · skip
              refine lv_lload_n E.1 E.2.1 d_M_takeNumber_147 rfl (lv_at hl 0 rfl) ?_
              refine lv_ldc2 (v := 64) E.1 E.2.1 E.2.2.2.1 (E.2.2.2.2 _ co_M_49) d_M_takeNumber_148 ?_
              refine xl_lc_ge (tgt := 160) E.1 E.2.1 d_M_takeNumber_151 d_M_takeNumber_152 (by decide) (fun h4 => ?_) (fun h4 => ?_)
              · skip
                refine t160 H locs ls v u g len (fun a => hA a h1 (fun z => ?_)) (fun a => hB (Or.inl a)) hP hS hl
                have z := z.2.2
                rw [Int64.le_iff_toInt_le] at h4
                rw [Int64.lt_iff_toInt_lt] at z
                omega
              · skip
                refine t155 H locs ls v u g len (hB (Or.inr (Or.inr ⟨h2, ?_⟩))) hP hS hl
                rw [Int64.le_iff_toInt_le] at h4
                rw [Int64.lt_iff_toInt_lt] at h3
                rw [Int64.le_iff_toInt_le, Int64.lt_iff_toInt_lt]
                omega
      · skip
        refine lv_iload_n E.1 E.2.1 d_M_takeNumber_114 rfl (lv_at hl 1 rfl) ?_
        refine lv_iload_n E.1 E.2.1 d_M_takeNumber_115 rfl (lv_at hl 3 rfl) ?_
        refine lv_iconst (v := 1) E.1 E.2.1 d_M_takeNumber_116 (by decide) ?_
        refine lv_icmp_ne (tgt := 128) E.1 E.2.1 d_M_takeNumber_117 (by decide) (fun h3 => ?_) (fun h3 => ?_)
        · skip
          have e : nb 0 v = nb kind v := by
            unfold nb
            rw [if_neg (by decide), if_neg h3]
          refine lv_aload_n E.1 E.2.1 d_M_takeNumber_128 rfl (lv_at hl 2 rfl) ?_
          refine lv_lload_n E.1 E.2.1 d_M_takeNumber_129 rfl (lv_at hl 0 rfl) ?_
          refine xg_looks (xc_V E xGT (m_bytesOf l D b r cJ cZ β n q 0 u g v) vw_M_bytesOf (by decide) (wM.call hP hK) (PM.recv hP hK) rfl hl.1 rfl (Nat.le_of_ble_eq_true rfl) d_M_takeNumber_130) (fun v st t h => h.2) (fun v st t h0 hal hrt => ?_) (fun x st t h0 hal hth hz => hth.elim)
          obtain ⟨rfl, -⟩ := hrt
          rw [e]
          refine W.eq (g2 := F0 m 133 ls [.int (nI (nb kind v)), .int (nI len)]) rfl ?_
          exact hj2 _ rfl
        · skip
          refine lv_aload_n E.1 E.2.1 d_M_takeNumber_120 rfl (lv_at hl 2 rfl) ?_
          refine lv_lload_n E.1 E.2.1 d_M_takeNumber_121 rfl (lv_at hl 0 rfl) ?_
          refine xg_looks (xc_V E xGT (m_complement l b v) vw_M_complement (by decide) xNo (PM.recv hP hK) rfl hl.1 rfl (Nat.le_of_ble_eq_true rfl) d_M_takeNumber_122) (fun v st t h => h.2) (fun v st t h0 hal hrt => ?_) (fun x st t h0 hal hth hz => hth.elim)
          obtain ⟨rfl, -⟩ := hrt
          rw [← h3]
          refine W.eq (g2 := F0 m 125 ls [.int (nI (nb kind v)), .int (nI len)]) rfl ?_
          refine lv_goto (tgt := 133) E.1 E.2.1 d_M_takeNumber_125 (by decide) ?_
          exact hj2 _ rfl
    · skip
      refine lv_iload_n E.1 E.2.1 d_M_takeNumber_91 rfl (lv_at hl 3 rfl) ?_
      refine lv_iconst (v := 1) E.1 E.2.1 d_M_takeNumber_92 (by decide) ?_
      refine lv_icmp_ne (tgt := 114) E.1 E.2.1 d_M_takeNumber_93 (by decide) (fun h4 => ?_) (fun h4 => ?_)
      · skip
        have hx : xsx kind Z len = Z := by
          unfold xsx
          rw [if_neg h4]
        rw [← hx] at hl
        exact hj ls hl
      · skip
        have hx : xsx kind Z len = xsr (xsl Z (nI (64 - 8 * len))) (nI (64 - 8 * len)) := by
          unfold xsx
          rw [if_pos h4]
        refine lv_lload_n E.1 E.2.1 d_M_takeNumber_96 rfl (lv_at hl 0 rfl) ?_
        refine lv_bipush (v := 64) E.1 E.2.1 d_M_takeNumber_97 (by decide) ?_
        refine lv_bipush (v := 8) E.1 E.2.1 d_M_takeNumber_99 (by decide) ?_
        refine lv_iload_n E.1 E.2.1 d_M_takeNumber_101 rfl (lv_at hl 1 rfl) ?_
        refine lv_imul E.1 E.2.1 d_M_takeNumber_102 ?_
        refine xl_ti (y := (nI (8 * len))) (pk_mul 8 len) ?_
        refine lv_isub E.1 E.2.1 d_M_takeNumber_103 ?_
        refine xl_ti (y := (nI (64 - 8 * len))) (pk_sub (a := 64) (b := 8 * len) (by omega)) ?_
        refine lv_lshl (v := xsl Z (nI (64 - 8 * len))) E.1 E.2.1 d_M_takeNumber_104 rfl ?_
        refine lv_bipush (v := 64) E.1 E.2.1 d_M_takeNumber_105 (by decide) ?_
        refine lv_bipush (v := 8) E.1 E.2.1 d_M_takeNumber_107 (by decide) ?_
        refine lv_iload_n E.1 E.2.1 d_M_takeNumber_109 rfl (lv_at hl 1 rfl) ?_
        refine lv_imul E.1 E.2.1 d_M_takeNumber_110 ?_
        refine xl_ti (y := (nI (8 * len))) (pk_mul 8 len) ?_
        refine lv_isub E.1 E.2.1 d_M_takeNumber_111 ?_
        refine xl_ti (y := (nI (64 - 8 * len))) (pk_sub (a := 64) (b := 8 * len) (by omega)) ?_
        refine lv_lshr (v := xsr (xsl Z (nI (64 - 8 * len))) (nI (64 - 8 * len))) E.1 E.2.1 d_M_takeNumber_112 rfl ?_
        refine xl_tl (y := (xsx kind Z len)) (hx.symm) ?_
        refine lv_lstore_n E.1 E.2.1 d_M_takeNumber_113 rfl hl (by decide) rfl (fun ls hl => ?_)
        have hl : lv_has ls 5 [(3, .long (xsx kind Z len)), (2, .int (nI len)), (0, .ref b), (1, .int kind)] := hl
        exact hj ls hl
  have t75 : ∀ (H : Heap) (locs : List Loc) (ls : Array Slot) (z : Int32) (u : Nat), sp = (2, 0, (β, n, q)) → PM D b r cZ β n q 0 u false H → va_S (xA2 b r) s.heap H locs → lv_has ls 5 [(2, .int z), (0, .ref b), (1, .int kind)] →
      W p l e (xrm 2) s m [Value.ref b, .int kind].toArray below meth c H locs 0 0 (xl_MQ below (xl_Q (xA2 b r) (xMl (sp_takeNumber (β, n, q) kind) D b r cZ) (fun _ _ _ => False)) [Value.ref b, .int kind].toArray s (xl_k 0 1) (xl_k 0 6) (xA2 b r)) (F0 m 68 ls []) := by
    rw [hsp0]
    intro H locs ls z u hB hP hS hl
    refine lv_aload_n E.1 E.2.1 d_M_takeNumber_68 rfl (lv_at hl 1 rfl) ?_
    refine gm_good E hK hP d_M_takeNumber_69 ?_
    refine lv_if_ne (tgt := 82) E.1 E.2.1 d_M_takeNumber_72 (by decide) (fun h1 => ?_) (fun h1 => ?_)
    · skip
      exact absurd rfl h1
    · skip
      refine lv_aload_n E.1 E.2.1 d_M_takeNumber_75 rfl (lv_at hl 1 rfl) ?_
      refine lv_iconst (v := 2) E.1 E.2.1 d_M_takeNumber_76 (by decide) ?_
      refine xg_goes (xc_V E xGT (m_fail l D b r cJ cZ β n q 0 u false hne 2) vw_M_fail (by decide) (wM.call hP hK) (PM.recv hP hK) rfl hl.1 rfl (Nat.le_of_ble_eq_true rfl) d_M_takeNumber_77) hS (fun q _ h => h) (fun q h => h) (fun v st t locs1 h0 hal hrt hS2 hz hkp => ?_) (fun x st t locs1 h0 hal hth => hth.elim)
      obtain ⟨rfl, hP2⟩ := hrt
      refine W.eq (g2 := F0 m 80 ls [.int 0]) rfl ?_
      generalize t.heap = H2 at hP2 hS2 hz hkp ⊢
      refine lv_i2l (v := (0 : Int32).toInt64) E.1 E.2.1 d_M_takeNumber_80 rfl ?_
      exact xr_lret E hr hk hS2 (fun t ht _ => xMl.mk hB (fun z => absurd z (by decide)) (by rw [ht]; exact hP2)) d_M_takeNumber_81
  have t63 : ∀ (H : Heap) (locs : List Loc) (ls : Array Slot) (z : Int32) (u : Nat) (g : Bool), sp = (2, 0, (β, n, q)) → PM D b r cZ β n q 0 u g H → va_S (xA2 b r) s.heap H locs → lv_has ls 5 [(2, .int z), (0, .ref b), (1, .int kind)] →
      W p l e (xrm 2) s m [Value.ref b, .int kind].toArray below meth c H locs 0 0 (xl_MQ below (xl_Q (xA2 b r) (xMl (sp_takeNumber (β, n, q) kind) D b r cZ) (fun _ _ _ => False)) [Value.ref b, .int kind].toArray s (xl_k 0 1) (xl_k 0 6) (xA2 b r)) (F0 m 63 ls []) := by
    intro H locs ls z u g hB hP hS hl
    refine lv_aload_n E.1 E.2.1 d_M_takeNumber_63 rfl (lv_at hl 1 rfl) ?_
    refine lv_iconst (v := 0) E.1 E.2.1 d_M_takeNumber_64 (by decide) ?_
    refine sm_good (g := false) E hK hP hne hS d_M_takeNumber_65 (fun H2 locs2 hP2 hS2 => ?_)
    exact t75 H2 locs2 ls z u hB hP2 hS2 hl
  have t47 : ∀ (H : Heap) (locs : List Loc) (ls : Array Slot) (u : Nat), u ≤ n → (xnumAt β n kind u = none → sp = (2, 0, (β, n, q))) → (∀ v wd, xnumAt β n kind u = some (v, wd) → kind = 2 ∧ (0 ≤ v ∧ v < 64) → sp = (2, 0, (β, n, q))) → (∀ v wd, xnumAt β n kind u = some (v, wd) → ¬ (kind = 2 ∧ (0 ≤ v ∧ v < 64)) → sp = (0, v, (β, n, u + wd))) → PM D b r cZ β n q 0 u true H → va_S (xA2 b r) s.heap H locs → lv_has ls 5 [(0, .ref b), (1, .int kind)] →
      W p l e (xrm 2) s m [Value.ref b, .int kind].toArray below meth c H locs 0 0 (xl_MQ below (xl_Q (xA2 b r) (xMl (sp_takeNumber (β, n, q) kind) D b r cZ) (fun _ _ _ => False)) [Value.ref b, .int kind].toArray s (xl_k 0 1) (xl_k 0 6) (xA2 b r)) (F0 m 47 ls []) := by
    intro H locs ls u hu hN hY1 hY2 hP hS hl
    refine lv_aload_n E.1 E.2.1 d_M_takeNumber_47 rfl (lv_at hl 0 rfl) ?_
    rw [hsp0]
    refine xg_goes (xc_V E xGT (m_length l D b r cJ cZ β n q 0 u hn hu hne) vw_M_length (by decide) (wM.call hP hK) (PM.recv hP hK) rfl hl.1 rfl (Nat.le_of_ble_eq_true rfl) d_M_takeNumber_48) hS (fun q _ h => h) (fun q h => h) (fun v st t locs1 h0 hal hrt hS2 hz hkp => ?_) (fun x st t locs1 h0 hal hth => hth.elim)
    rw [← hsp0]
    rcases hrt with ⟨len, wd, hX, rfl, hP2⟩ | ⟨hX, z, u2, rfl, hP2⟩
    · obtain ⟨hb, hwd, huw⟩ := xlen_ok hX
      have hof := xnumAt_of (kind := kind) hX
      refine W.eq (g2 := F0 m 51 ls [.int (nI len)]) rfl ?_
      generalize t.heap = H2 at hP2 hS2 hz hkp ⊢
      refine lv_istore_n E.1 E.2.1 d_M_takeNumber_51 rfl hl (by decide) rfl (fun ls hl => ?_)
      have hl : lv_has ls 5 [(2, .int (nI len)), (0, .ref b), (1, .int kind)] := hl
      refine lv_iload_n E.1 E.2.1 d_M_takeNumber_52 rfl (lv_at hl 0 rfl) ?_
      refine lv_iconst (v := 1) E.1 E.2.1 d_M_takeNumber_53 (by decide) ?_
      refine lv_icmp_lt (tgt := 63) E.1 E.2.1 d_M_takeNumber_54 (by decide) (fun h1 => ?_) (fun h1 => ?_)
      · skip
        have h1 : len < 1 := (nI_ltI (b := 1) (by omega) (by decide)).mp h1
        exact t63 H2 _ ls (nI len) (u + wd) true (hN (by rw [hof, if_pos (Or.inl h1)])) hP2 hS2 hl
      · skip
        have h1 : ¬ len < 1 := fun a => h1 ((nI_ltI (b := 1) (by omega) (by decide)).mpr a)
        refine lv_iload_n E.1 E.2.1 d_M_takeNumber_57 rfl (lv_at hl 0 rfl) ?_
        refine lv_bipush (v := 8) E.1 E.2.1 d_M_takeNumber_58 (by decide) ?_
        refine lv_icmp_le (tgt := 68) E.1 E.2.1 d_M_takeNumber_60 (by decide) (fun h2 => ?_) (fun h2 => ?_)
        · skip
          have h2 : len ≤ 8 := (nI_leI (b := 8) (by omega) (by decide)).mp h2
          rw [if_neg (by omega)] at hof
          clear hP
          have hP := hP2
          refine lv_aload_n E.1 E.2.1 d_M_takeNumber_68 rfl (lv_at hl 1 rfl) ?_
          refine gm_good E hK hP d_M_takeNumber_69 ?_
          refine lv_if_ne (tgt := 82) E.1 E.2.1 d_M_takeNumber_72 (by decide) (fun h3 => ?_) (fun h3 => ?_)
          · skip
            refine lv_aload_n E.1 E.2.1 d_M_takeNumber_82 rfl (lv_at hl 1 rfl) ?_
            refine lv_bipush (v := 8) E.1 E.2.1 d_M_takeNumber_83 (by decide) ?_
            refine lv_iload_n E.1 E.2.1 d_M_takeNumber_85 rfl (lv_at hl 0 rfl) ?_
            refine lv_imul E.1 E.2.1 d_M_takeNumber_86 ?_
            refine xl_ti (y := (nI (8 * len))) (pk_mul 8 len) ?_
            rw [hsp0]
            refine xg_goes (xc_V E xGT (m_get l D b r cJ cZ β n q 0 (u + wd) true (8 * len) hn (by omega) (by omega) hne) vw_M_get (by decide) (wM.call hP2 hK) (PM.recv hP2 hK) rfl hl.1 rfl (Nat.le_of_ble_eq_true rfl) d_M_takeNumber_87) hS2 (fun q _ h => h) (fun q h => h) (fun v st t locs1 h0 hal hrt hS3 hz hkp => ?_) (fun x st t locs1 h0 hal hth => hth.elim)
            rw [← hsp0]
            rcases hrt with ⟨-, g5, rfl, hP3⟩ | ⟨g5, rfl, hP3⟩
            · rw [if_neg (by omega)] at hof
              refine W.eq (g2 := F0 m 90 ls [.long (lN (xv β (u + wd) (8 * len)))]) rfl ?_
              generalize t.heap = H3 at hP3 hS3 hz hkp ⊢
              refine t90 H3 _ ls (lN (xv β (u + wd) (8 * len))) (u + wd + 8 * len) true len (by omega) h2 (fun _ a a2 => ?_) (fun a => ?_) hP3 hS3 hl
              · rw [if_neg (fun z => z a)] at hof
                rw [hY2 _ _ hof a2, Nat.add_assoc]
              · rcases a with a | a | a
                · cases a
                · rw [if_pos a] at hof
                  exact hN hof
                · by_cases a3 : nb kind (xsx kind (lN (xv β (u + wd) (8 * len))) len) ≠ len
                  · rw [if_pos a3] at hof
                    exact hN hof
                  · rw [if_neg a3] at hof
                    exact hY1 _ _ hof a
            · rw [if_pos (Nat.not_le.mp (fun z => g5 ⟨rfl, z⟩))] at hof
              refine W.eq (g2 := F0 m 90 ls [.long 0]) rfl ?_
              generalize t.heap = H3 at hP3 hS3 hz hkp ⊢
              exact t90 H3 _ ls 0 (u + wd) false len (by omega) h2 (fun a => by cases a) (fun _ => hN hof) hP3 hS3 hl
          · skip
            exact absurd h3 (by decide)
        · skip
          have h2 : ¬ len ≤ 8 := fun a => h2 ((nI_leI (b := 8) (by omega) (by decide)).mpr a)
          exact t63 H2 _ ls (nI len) (u + wd) true (hN (by rw [hof, if_pos (Or.inr (by omega))])) hP2 hS2 hl
    · have hof := hN (xnumAt_no hX)
      refine W.eq (g2 := F0 m 51 ls [.int z]) rfl ?_
      generalize t.heap = H2 at hP2 hS2 hz hkp ⊢
      refine lv_istore_n E.1 E.2.1 d_M_takeNumber_51 rfl hl (by decide) rfl (fun ls hl => ?_)
      have hl : lv_has ls 5 [(2, .int z), (0, .ref b), (1, .int kind)] := hl
      refine lv_iload_n E.1 E.2.1 d_M_takeNumber_52 rfl (lv_at hl 0 rfl) ?_
      refine lv_iconst (v := 1) E.1 E.2.1 d_M_takeNumber_53 (by decide) ?_
      refine lv_icmp_lt (tgt := 63) E.1 E.2.1 d_M_takeNumber_54 (by decide) (fun h1 => ?_) (fun h1 => ?_)
      · skip
        exact t63 H2 _ ls z u2 false hof hP2 hS2 hl
      · skip
        refine lv_iload_n E.1 E.2.1 d_M_takeNumber_57 rfl (lv_at hl 0 rfl) ?_
        refine lv_bipush (v := 8) E.1 E.2.1 d_M_takeNumber_58 (by decide) ?_
        refine lv_icmp_le (tgt := 68) E.1 E.2.1 d_M_takeNumber_60 (by decide) (fun h2 => ?_) (fun h2 => ?_)
        · skip
          exact t75 H2 _ ls z u2 hof hP2 hS2 hl
        · skip
          exact t63 H2 _ ls z u2 false hof hP2 hS2 hl
  rw [← hsp0] at t47 t75 ⊢
  refine xl_entry _ (Nat.le_of_ble_eq_true rfl) (fun ls hl => ?_)
  have hl : lv_has ls 5 [(0, .ref b), (1, .int kind)] := hl
  refine lv_aload_n E.1 E.2.1 d_M_takeNumber_0 rfl (lv_at hl 0 rfl) ?_
  refine xg_goes (xc_V E xGT (m_begin l D b r cJ cZ β n q fa rd gd hne) vw_M_begin (by decide) (wM.call hP hK) (PM.recv hP hK) rfl hl.1 rfl (Nat.le_of_ble_eq_true rfl) d_M_takeNumber_1) hS (fun q _ h => h) (fun q h => h) (fun v st t locs1 h0 hal hrt hS1 hz hkp => ?_) (fun x st t locs1 h0 hal hth => hth.elim)
  obtain ⟨rfl, hP1⟩ := hrt
  refine W.eq (g2 := F0 m 4 ls []) rfl ?_
  generalize t.heap = H1 at hP1 hS1 hz hkp ⊢
  refine xl_join (fun _ : Unit => kind < 0 ∨ 2 < kind) (fun _ => F0 m 13 ls []) (fun _ hkk => ?_) (fun hj => ?_)
  · skip
    have hsp : sp_takeNumber (β, n, q) kind = (1, 0, (β, n, q)) := by
      unfold sp_takeNumber
      rw [if_pos hkk]
    refine lv_aload_n E.1 E.2.1 d_M_takeNumber_13 rfl (lv_at hl 0 rfl) ?_
    refine lv_iconst (v := 1) E.1 E.2.1 d_M_takeNumber_14 (by decide) ?_
    refine xg_goes (xc_V E xGT (m_fail l D b r cJ cZ β n q 0 q true hne 1) vw_M_fail (by decide) (wM.call hP1 hK) (PM.recv hP1 hK) rfl hl.1 rfl (Nat.le_of_ble_eq_true rfl) d_M_takeNumber_15) hS1 (fun q _ h => h) (fun q h => h) (fun v st t locs1 h0 hal hrt hS2 hz hkp => ?_) (fun x st t locs1 h0 hal hth => hth.elim)
    obtain ⟨rfl, hP2⟩ := hrt
    refine W.eq (g2 := F0 m 18 ls [.int 0]) rfl ?_
    generalize t.heap = H2 at hP2 hS2 hz hkp ⊢
    refine lv_i2l (v := (0 : Int32).toInt64) E.1 E.2.1 d_M_takeNumber_18 rfl ?_
    exact xr_lret E hr hk hS2 (fun t ht _ => xMl.mk hsp (fun z => absurd z (by decide)) (by rw [ht]; exact hP2)) d_M_takeNumber_19
  · skip
    refine lv_iload_n E.1 E.2.1 d_M_takeNumber_4 rfl (lv_at hl 1 rfl) ?_
    refine lv_if_lt (tgt := 13) E.1 E.2.1 d_M_takeNumber_5 (by decide) (fun h1 => ?_) (fun h1 => ?_)
    · skip
      exact hj () (Or.inl h1)
    · skip
      refine lv_iload_n E.1 E.2.1 d_M_takeNumber_8 rfl (lv_at hl 1 rfl) ?_
      refine lv_iconst (v := 2) E.1 E.2.1 d_M_takeNumber_9 (by decide) ?_
      refine lv_icmp_le (tgt := 20) E.1 E.2.1 d_M_takeNumber_10 (by decide) (fun h2 => ?_) (fun h2 => ?_)
      · skip
        have hkk : ¬ (kind < 0 ∨ 2 < kind) := fun z => z.elim h1 (xi_nlt.mpr h2)
        refine lv_iload_n E.1 E.2.1 d_M_takeNumber_20 rfl (lv_at hl 1 rfl) ?_
        refine lv_iconst (v := 2) E.1 E.2.1 d_M_takeNumber_21 (by decide) ?_
        refine lv_icmp_ne (tgt := 47) E.1 E.2.1 d_M_takeNumber_22 (by decide) (fun h3 => ?_) (fun h3 => ?_)
        · skip
          have hsp : sp_takeNumber (β, n, q) kind = match xnumAt β n kind q with
              | none => (2, 0, (β, n, q))
              | some (v, w) => (0, v, (β, n, q + w)) := by
            unfold sp_takeNumber
            rw [if_neg hkk, if_neg h3]
            rfl
          exact t47 H1 _ ls q hq (fun a => by rw [hsp, a]) (fun v wd a a2 => absurd a2.1 h3) (fun v wd a _ => by rw [hsp, a]) hP1 hS1 hl
        · skip
          have hsp : sp_takeNumber (β, n, q) kind = match xsmallAt β n q with
              | none => (2, 0, (β, n, q))
              | some (v, w) => (0, v, (β, n, q + w)) := by
            unfold sp_takeNumber
            rw [if_neg hkk, if_pos h3]
            rfl
          refine lv_aload_n E.1 E.2.1 d_M_takeNumber_25 rfl (lv_at hl 0 rfl) ?_
          refine lv_iconst (v := 1) E.1 E.2.1 d_M_takeNumber_26 (by decide) ?_
          refine xg_goes (xc_V E xGT (m_get l D b r cJ cZ β n q 0 q true 1 hn (by omega) (by decide) hne) vw_M_get (by decide) (wM.call hP1 hK) (PM.recv hP1 hK) rfl hl.1 rfl (Nat.le_of_ble_eq_true rfl) d_M_takeNumber_27) hS1 (fun q _ h => h) (fun q h => h) (fun v st t locs1 h0 hal hrt hS2 hz hkp => ?_) (fun x st t locs1 h0 hal hth => hth.elim)
          rcases hrt with ⟨-, g1, rfl, hP2⟩ | ⟨g1, rfl, hP2⟩
          · skip
            refine W.eq (g2 := F0 m 30 ls [.long (lN (xv β q 1))]) rfl ?_
            generalize t.heap = H2 at hP2 hS2 hz hkp ⊢
            refine lv_lconst (v := 0) E.1 E.2.1 d_M_takeNumber_30 (by decide) ?_
            refine xl_lc_ne (tgt := 47) E.1 E.2.1 d_M_takeNumber_31 d_M_takeNumber_32 (by decide) (fun h4 => ?_) (fun h4 => ?_)
            · skip
              have h4 : ¬ β q = false := fun z => h4 (xv_10.mpr z)
              have hof : xsmallAt β n q = match xnumAt β n 0 (q + 1) with
                  | none => none
                  | some (v, w) => if 0 ≤ v ∧ v < 64 then none else some (v, w + 1) := by
                unfold xsmallAt
                rw [if_neg (by omega), if_neg h4]
                rfl
              rw [← xnumAt_20, ← h3] at hof
              refine t47 H2 _ ls (q + 1) g1 (fun a => ?_) (fun v wd a a2 => ?_) (fun v wd a a2 => ?_) hP2 hS2 hl
              · rw [a] at hof
                rw [hsp, hof]
              · rw [a] at hof
                have hof : xsmallAt β n q = none := hof.trans (if_pos a2.2)
                rw [hsp, hof]
              · rw [a] at hof
                have hof : xsmallAt β n q = some (v, wd + 1) := hof.trans (if_neg (fun z => a2 ⟨h3, z⟩))
                rw [hsp, hof]
                show (0, v, (β, n, q + (wd + 1))) = (0, v, (β, n, q + 1 + wd))
                rw [show q + (wd + 1) = q + 1 + wd by omega]
            · skip
              have h4 : β q = false := xv_10.mp h4
              have hof : xsmallAt β n q = if n < q + 7 then none else some (lN (xv β (q + 1) 6), 7) := by
                unfold xsmallAt
                rw [if_neg (by omega), if_pos h4]
              refine lv_aload_n E.1 E.2.1 d_M_takeNumber_35 rfl (lv_at hl 0 rfl) ?_
              refine lv_aload_n E.1 E.2.1 d_M_takeNumber_36 rfl (lv_at hl 0 rfl) ?_
              refine lv_bipush (v := 6) E.1 E.2.1 d_M_takeNumber_37 (by decide) ?_
              refine xg_goes (xc_V E xGT (m_get l D b r cJ cZ β n q 0 (q + 1) true 6 hn (by omega) (by decide) hne) vw_M_get (by decide) (wM.call hP2 hK) (PM.recv hP2 hK) rfl hl.1 rfl (Nat.le_of_ble_eq_true rfl) d_M_takeNumber_39) hS2 (fun q _ h => h) (fun q h => h) (fun v st t locs1 h0 hal hrt hS3 hz hkp => ?_) (fun x st t locs1 h0 hal hth => hth.elim)
              rcases hrt with ⟨-, g5, rfl, hP3⟩ | ⟨g5, rfl, hP3⟩
              · rw [if_neg (by omega)] at hof
                rw [hof] at hsp
                refine W.eq (g2 := F0 m 42 ls [.long (lN (xv β (q + 1) 6)), .ref b]) rfl ?_
                generalize t.heap = H3 at hP3 hS3 hz hkp ⊢
                refine lv_iconst (v := 2) E.1 E.2.1 d_M_takeNumber_42 (by decide) ?_
                refine xg_goes (xc_V E xGT (m_done l D b r cJ cZ β n q (q + 1 + 6) true hne (lN (xv β (q + 1) 6)) 2) vw_M_done (by decide) (wM.call hP3 hK) (PM.recv hP3 hK) rfl hl.1 rfl (Nat.le_of_ble_eq_true rfl) d_M_takeNumber_43) hS3 (fun q _ h => h) (fun q h => h) (fun v st t locs1 h0 hal hrt hS4 hz hkp => ?_) (fun x st t locs1 h0 hal hth => hth.elim)
                rcases hrt with ⟨-, rfl, hP4⟩ | ⟨g2, -⟩
                · skip
                  refine W.eq (g2 := F0 m 46 ls [.long (lN (xv β (q + 1) 6))]) rfl ?_
                  generalize t.heap = H4 at hP4 hS4 hz hkp ⊢
                  exact xr_lret E hr hk hS4 (fun t ht _ => xMl.mk hsp (fun _ => rfl) (by rw [ht]; exact hP4)) d_M_takeNumber_46
                · cases g2
              · rw [if_pos (Nat.not_le.mp (fun z => g5 ⟨rfl, by omega⟩))] at hof
                rw [hof] at hsp
                refine W.eq (g2 := F0 m 42 ls [.long 0, .ref b]) rfl ?_
                generalize t.heap = H3 at hP3 hS3 hz hkp ⊢
                refine lv_iconst (v := 2) E.1 E.2.1 d_M_takeNumber_42 (by decide) ?_
                refine xg_goes (xc_V E xGT (m_done l D b r cJ cZ β n q (q + 1) false hne 0 2) vw_M_done (by decide) (wM.call hP3 hK) (PM.recv hP3 hK) rfl hl.1 rfl (Nat.le_of_ble_eq_true rfl) d_M_takeNumber_43) hS3 (fun q _ h => h) (fun q h => h) (fun v st t locs1 h0 hal hrt hS4 hz hkp => ?_) (fun x st t locs1 h0 hal hth => hth.elim)
                rcases hrt with ⟨g2, -⟩ | ⟨-, rfl, hP4⟩
                · cases g2
                · skip
                  refine W.eq (g2 := F0 m 46 ls [.long 0]) rfl ?_
                  generalize t.heap = H4 at hP4 hS4 hz hkp ⊢
                  exact xr_lret E hr hk hS4 (fun t ht _ => xMl.mk hsp (fun z => absurd z (by decide)) (by rw [ht]; exact hP4)) d_M_takeNumber_46
          · have hof : xsmallAt β n q = none := by
              unfold xsmallAt
              rw [if_pos (Nat.not_le.mp (fun z => g1 ⟨rfl, by omega⟩))]
            rw [hof] at hsp
            refine W.eq (g2 := F0 m 30 ls [.long 0]) rfl ?_
            generalize t.heap = H2 at hP2 hS2 hz hkp ⊢
            refine lv_lconst (v := 0) E.1 E.2.1 d_M_takeNumber_30 (by decide) ?_
            refine xl_lc_ne (tgt := 47) E.1 E.2.1 d_M_takeNumber_31 d_M_takeNumber_32 (by decide) (fun h4 => ?_) (fun h4 => ?_)
            · skip
              exact absurd rfl h4
            · skip
              refine lv_aload_n E.1 E.2.1 d_M_takeNumber_35 rfl (lv_at hl 0 rfl) ?_
              refine lv_aload_n E.1 E.2.1 d_M_takeNumber_36 rfl (lv_at hl 0 rfl) ?_
              refine lv_bipush (v := 6) E.1 E.2.1 d_M_takeNumber_37 (by decide) ?_
              refine xg_goes (xc_V E xGT (m_get l D b r cJ cZ β n q 0 q false 6 hn (by omega) (by decide) hne) vw_M_get (by decide) (wM.call hP2 hK) (PM.recv hP2 hK) rfl hl.1 rfl (Nat.le_of_ble_eq_true rfl) d_M_takeNumber_39) hS2 (fun q _ h => h) (fun q h => h) (fun v st t locs1 h0 hal hrt hS3 hz hkp => ?_) (fun x st t locs1 h0 hal hth => hth.elim)
              rcases hrt with ⟨g5, -⟩ | ⟨-, rfl, hP3⟩
              · cases g5
              · skip
                refine W.eq (g2 := F0 m 42 ls [.long 0, .ref b]) rfl ?_
                generalize t.heap = H3 at hP3 hS3 hz hkp ⊢
                refine lv_iconst (v := 2) E.1 E.2.1 d_M_takeNumber_42 (by decide) ?_
                refine xg_goes (xc_V E xGT (m_done l D b r cJ cZ β n q q false hne 0 2) vw_M_done (by decide) (wM.call hP3 hK) (PM.recv hP3 hK) rfl hl.1 rfl (Nat.le_of_ble_eq_true rfl) d_M_takeNumber_43) hS3 (fun q _ h => h) (fun q h => h) (fun v st t locs1 h0 hal hrt hS4 hz hkp => ?_) (fun x st t locs1 h0 hal hth => hth.elim)
                rcases hrt with ⟨g2, -⟩ | ⟨-, rfl, hP4⟩
                · cases g2
                · skip
                  refine W.eq (g2 := F0 m 46 ls [.long 0]) rfl ?_
                  generalize t.heap = H4 at hP4 hS4 hz hkp ⊢
                  exact xr_lret E hr hk hS4 (fun t ht _ => xMl.mk hsp (fun z => absurd z (by decide)) (by rw [ht]; exact hP4)) d_M_takeNumber_46
      · skip
        exact hj () (Or.inr (xi_nle.mp h2))
end XL28

