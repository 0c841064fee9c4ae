/-! The two constructors. -/
section XL32
/-- an object and what comes -/
def xA1 (a sz : Nat) : Nat → Prop := fun q => q = a ∨ sz ≤ q
theorem xD1 {A : Nat → Prop} {a : Nat} {e1 : va_E} (h : A a) : va_D A [(a, e1)] := by
  refine ⟨fun i j p q hi hj hpq => ?_, fun k q hk => ?_⟩
  · match i, j with
    | 0, 0 => rfl
    | i + 1, _ => cases hi
    | 0, j + 1 => cases hj
  · match k with
    | 0 => cases Option.some.inj hk; exact h
    | k + 1 => cases hk
theorem xw_0 : xw (fun _ => 0) = fun _ => false := by
  funext j
  show ((0 : Int64).toBitVec).getLsbD (j % 64) = false
  exact BitVec.getLsbD_zero
theorem xnewL (N : Nat) (cA : ClassId) : vp_cell cA (N, .inr (.inl (fun _ => 0))) = arrV cA N (fun _ => defaultValue .long) := rfl
theorem xnewZ (N : Nat) (cA : ClassId) : vp_cell cA (N, .inl (fun _ => 0)) = arrV cA N (fun _ => defaultValue .boolean) := rfl
theorem xz_0 : xz (fun _ => false) = fun _ => 0 := rfl
set_option maxHeartbeats 4000000 in
set_option maxRecDepth 100000 in
theorem c_init (l : Launch) (D : va_G) (a sz : Nat) (cJ cZ : ClassId) : Met l y_X_init w_X_init { frames := 1, cells := 1, slots := 1024, locals := 20 } (va_Pc [.ref a] (fun U => U.heap.size = sz ∧ a < sz ∧ va_P D xcl [(a, .inr (0, [.null, .int 0, .int 0]))] U.heap ∧ va_K D xcl (xty cJ cZ) U)) (va_Qv (fun w : Nat => sz ≤ w) (fun w t => PX D a w cJ (fun _ => false) 0 0 t.heap) (xA1 a sz)) 1 1024 (xA1 a sz) := by
  refine Met.ofW (cc := b_X_init) (maxL := 1) (ret := none) (by decide) rfl ?_
  intro p e s m args below meth c s₁ B hml hv
  obtain ⟨rfl, rfl, hlt, hP, hK⟩ := hv
  have hts := atoms_spec (ws := w_X_init) B.pre
  have hr := B.returns
  have hin : meth.name = "<init>" := (name_of_methodNamed B.named B.method).1
  have E : CallFix p m c b_X_init 1 s [Value.ref a].toArray XT R_X := ⟨B.exec, B.bytes, hml, findClass_of_methodNamed B.named, fun w hw => hts w (List.mem_cons_of_mem _ hw)⟩
  have hS : va_S (xA1 a s.heap.size) s.heap s.heap [] := va_S.rf
  have hA : ∀ q : Nat, s.heap.size ≤ q → xA1 a s.heap.size q := fun q h => Or.inr h
  have hD : va_D (xA1 a s.heap.size) [(a, .inr (0, [.null, .int 0, .int 0]))] := xD1 (Or.inl rfl)
  refine xl_entry _ (Nat.le_of_ble_eq_true rfl) (fun ls hl => ?_)
  have hl : lv_has ls 1 [(0, .ref a)] := hl
  refine lv_aload_n E.1 E.2.1 d_X_init_0 rfl (lv_at hl 0 rfl) ?_
  refine W.objInit E.1 E.2.1 E.2.2.2.1 (E.2.2.2.2 _ ob_link_X) (E.2.2.2.2 _ ob_inst) (E.2.2.2.2 _ ob_code) rfl (by rw [hml]; exact hl.1) rfl d_X_init_1 (Nat.le_of_ble_eq_true rfl) (Nat.le_of_ble_eq_true rfl) ?_
  refine W.eq (g2 := F0 m 4 ls []) rfl ?_
  refine lv_aload_n E.1 E.2.1 d_X_init_4 rfl (lv_at hl 0 rfl) ?_
  refine lv_sipush (v := 1024) E.1 E.2.1 d_X_init_5 (by decide) ?_
  refine va_newa (atype := .long) (ty := .long) (a0 := (1024, .inr (.inl (fun _ => 0)))) (N' := 1024) E.1 E.2.1 (E.2.2.2.2 _ ar_long) rfl hK hP hD hS hA (xnewL 1024) (by decide) (nI_clamp (n := 1024) (by decide)) (Nat.le_of_ble_eq_true rfl) (Nat.le_of_ble_eq_true rfl) (Nat.le_of_ble_eq_true rfl) d_X_init_8 (fun w cA H1 hK1 hP1 hD1 hS1 => ?_)
  have hcA : cA = cJ := by
    have h0 : s.vm.findClass ("[" ++ FieldType.long.toString) = some cJ := (hK1.2 0 (cJ, .long) rfl).2
    have h2 : s.vm.findClass ("[" ++ FieldType.long.toString) = some cA := (hK1.2 2 (cA, .long) rfl).2
    exact Option.some.inj (h2.symm.trans h0)
  subst hcA
  have hP1 : va_P D xcl [(a, .inr (0, [.null, .int 0, .int 0])), (w, .inl (cA, 1024, .inr (.inl (fun _ => 0))))] H1 := hP1
  have hD1 : va_D (xA1 a s.heap.size) [(a, .inr (0, [.null, .int 0, .int 0])), (w, .inl (cA, 1024, .inr (.inl (fun _ => 0))))] := hD1
  have hwa : ¬ w = a := fun z => absurd (hD1.1 1 0 _ _ rfl rfl z) (by decide)
  have hw : s.heap.size ≤ w := (hD1.2 1 _ rfl).elim (fun z => absurd z hwa) id
  refine va_putF (D := D) (ci := 0) (v := .ref w) (ty := .array .long) (C := R_X) (T := F_X) (N := 3) E.1 E.2.1 E.2.2.2.2 in_X t_X t_X_ok n_X E.2.2.2.1 hK hP1 hD1 hS1 0 rfl rfl 0 (by decide) (E.2.2.2.2 _ fl_X_words) (fun _ h => h) rfl hin rfl (by decide +kernel) rfl rfl (Nat.le_of_ble_eq_true rfl) d_X_init_10 (fun H2 locs2 hP2 hD2 hS2 => ?_)
  refine lv_aload_n E.1 E.2.1 d_X_init_13 rfl (lv_at hl 0 rfl) ?_
  refine lv_iconst (v := 0) E.1 E.2.1 d_X_init_14 (by decide) ?_
  refine va_put (D := D) (ci := 0) (v := .int 0) (ty := .int) (C := R_X) (T := F_X) (N := 3) E.1 E.2.1 E.2.2.2.2 in_X t_X t_X_ok n_X E.2.2.2.1 hK hP2 hD2 hS2 0 rfl rfl 1 (by decide) (E.2.2.2.2 _ fl_X_size) (fun _ h => h) rfl (by decide +kernel) rfl rfl (Nat.le_of_ble_eq_true rfl) d_X_init_15 (fun H3 locs3 hP3 hD3 hS3 => ?_)
  refine lv_aload_n E.1 E.2.1 d_X_init_18 rfl (lv_at hl 0 rfl) ?_
  refine lv_iconst (v := 0) E.1 E.2.1 d_X_init_19 (by decide) ?_
  refine va_put (D := D) (ci := 0) (v := .int 0) (ty := .int) (C := R_X) (T := F_X) (N := 3) E.1 E.2.1 E.2.2.2.2 in_X t_X t_X_ok n_X E.2.2.2.1 hK hP3 hD3 hS3 0 rfl rfl 2 (by decide) (E.2.2.2.2 _ fl_X_place) (fun _ h => h) rfl (by decide +kernel) rfl rfl (Nat.le_of_ble_eq_true rfl) d_X_init_20 (fun H4 locs4 hP4 hD4 hS4 => ?_)
  have hP4 : va_P D xcl (xqX a w cA (fun _ => 0) 0 0) H4 := hP4
  exact W.vret E.1 E.2.1 hr (fun t ht hW => ⟨⟨w, rfl, hw, _, xw_0, by rw [ht]; exact hP4⟩, hS4.F ht⟩) hS4.2.2 d_X_init_23 B.notSynchronized
set_option maxHeartbeats 4000000 in
set_option maxRecDepth 100000 in
theorem m_init (l : Launch) (D : va_G) (b sz : Nat) (cJ cZ : ClassId) : Met l y_M_init w_M_init { frames := 1, cells := 1, slots := 65536, locals := 20 } (va_Pc [.ref b] (fun U => U.heap.size = sz ∧ b < sz ∧ va_P D xcl [(b, .inr (1, [.int 0, .null, .int 0, .int 0, .int 0, .int 0]))] U.heap ∧ va_K D xcl (xty cJ cZ) U)) (va_Qv (fun r : Nat => sz ≤ r) (fun r t => PM D b r cZ (fun _ => false) 0 0 0 0 false t.heap) (xA1 b sz)) 1 65536 (xA1 b sz) := by
  refine Met.ofW (cc := b_M_init) (maxL := 1) (ret := none) (by decide) rfl ?_
  intro p e s m args below meth c s₁ B hml hv
  obtain ⟨rfl, rfl, hlt, hP, hK⟩ := hv
  have hts := atoms_spec (ws := w_M_init) B.pre
  have hr := B.returns
  have hin : meth.name = "<init>" := (name_of_methodNamed B.named B.method).1
  have E : CallFix p m c b_M_init 1 s [Value.ref b].toArray XT R_M := ⟨B.exec, B.bytes, hml, findClass_of_methodNamed B.named, fun w hw => hts w (List.mem_cons_of_mem _ hw)⟩
  have hS : va_S (xA1 b s.heap.size) s.heap s.heap [] := va_S.rf
  have hA : ∀ q : Nat, s.heap.size ≤ q → xA1 b s.heap.size q := fun q h => Or.inr h
  have hD : va_D (xA1 b s.heap.size) [(b, .inr (1, [.int 0, .null, .int 0, .int 0, .int 0, .int 0]))] := xD1 (Or.inl rfl)
  refine xl_entry _ (Nat.le_of_ble_eq_true rfl) (fun ls hl => ?_)
  have hl : lv_has ls 1 [(0, .ref b)] := hl
  refine lv_aload_n E.1 E.2.1 d_M_init_0 rfl (lv_at hl 0 rfl) ?_
  refine W.objInit E.1 E.2.1 E.2.2.2.1 (E.2.2.2.2 _ ob_link_M) (E.2.2.2.2 _ ob_inst) (E.2.2.2.2 _ ob_code) rfl (by rw [hml]; exact hl.1) rfl d_M_init_1 (Nat.le_of_ble_eq_true rfl) (Nat.le_of_ble_eq_true rfl) ?_
  refine W.eq (g2 := F0 m 4 ls []) rfl ?_
  refine lv_aload_n E.1 E.2.1 d_M_init_4 rfl (lv_at hl 0 rfl) ?_
  refine lv_ldc (v := 65536) E.1 E.2.1 E.2.2.2.1 (E.2.2.2.2 _ co_M_7) d_M_init_5 ?_
  refine va_newa (atype := .boolean) (ty := .boolean) (a0 := (65536, .inl (fun _ => 0))) (N' := 65536) E.1 E.2.1 (E.2.2.2.2 _ ar_boolean) rfl hK hP hD hS hA (xnewZ 65536) (by decide) (nI_clamp (n := 65536) (by decide)) (Nat.le_of_ble_eq_true rfl) (Nat.le_of_ble_eq_true rfl) (Nat.le_of_ble_eq_true rfl) d_M_init_7 (fun r cA H1 hK1 hP1 hD1 hS1 => ?_)
  have hcA : cA = cZ := by
    have h0 : s.vm.findClass ("[" ++ FieldType.boolean.toString) = some cZ := (hK1.2 1 (cZ, .boolean) rfl).2
    have h2 : s.vm.findClass ("[" ++ FieldType.boolean.toString) = some cA := (hK1.2 2 (cA, .boolean) rfl).2
    exact Option.some.inj (h2.symm.trans h0)
  subst hcA
  have hP1 : va_P D xcl [(b, .inr (1, [.int 0, .null, .int 0, .int 0, .int 0, .int 0])), (r, .inl (cA, 65536, .inl (fun _ => 0)))] H1 := hP1
  have hD1 : va_D (xA1 b s.heap.size) [(b, .inr (1, [.int 0, .null, .int 0, .int 0, .int 0, .int 0])), (r, .inl (cA, 65536, .inl (fun _ => 0)))] := hD1
  have hwa : ¬ r = b := fun z => absurd (hD1.1 1 0 _ _ rfl rfl z) (by decide)
  have hw : s.heap.size ≤ r := (hD1.2 1 _ rfl).elim (fun z => absurd z hwa) id
  refine va_putF (D := D) (ci := 1) (v := .ref r) (ty := .array .boolean) (C := R_M) (T := F_M) (N := 6) E.1 E.2.1 E.2.2.2.2 in_M t_M t_M_ok n_M E.2.2.2.1 hK hP1 hD1 hS1 0 rfl rfl 1 (by decide) (E.2.2.2.2 _ fl_M_row) (fun _ h => h) rfl hin rfl (by decide +kernel) rfl rfl (Nat.le_of_ble_eq_true rfl) d_M_init_9 (fun H2 locs2 hP2 hD2 hS2 => ?_)
  have hP2 : va_P D xcl (xqM b r cA (fun _ => false) 0 0 0 0 false) H2 := hP2
  exact W.vret E.1 E.2.1 hr (fun t ht hW => ⟨⟨r, rfl, hw, by show PM D b r cA (fun _ => false) 0 0 0 0 false t.heap; rw [ht]; exact hP2⟩, hS2.F ht⟩) hS2.2.2 d_M_init_12 B.notSynchronized
end XL32

