/-! The law's beginning. -/
section XL36
theorem xpaid' {args : Array Value} {s : State} {y : MethodName} {cc' : ByteArray} {maxL : Nat} {ret : Option FieldType} (hts : ∀ w ∈ XT, w.before args s = true) (hc : Cond.code y cc' maxL ret ∈ XT) : ∀ w ∈ (Cond.code y cc' maxL ret :: XT), ∀ (a' : Array Value) (U : State), s.WarmedH U.vm → w.before a' U = true := xpaid xGT hts hc
theorem xarr {args : Array Value} {s : State} {ty : FieldType} (h : (Cond.arrayClass ty).before args s = true) : ∃ cA : ClassId, s.vm.findClass ("[" ++ ty.toString) = some cA ∧ ArrOfT s cA ty := by
  obtain ⟨cA, kA, comp, h1, h2, h3⟩ := Cond.arrayClass_spec h
  exact ⟨cA, h1, fun n z => ⟨fun k h => (by cases h), kA, h2, comp, h3⟩⟩
/-- what a call of a constructor asks -/
theorem xcI {s : State} {args : Array Value} {y : MethodName} {cc : ByteArray} {idx ms : Nat} (hts : ∀ w ∈ XT, w.before args s = true) (hc : Cond.code y cc 1 none ∈ XT) (hi : Cond.initialized y.cls ∈ XT) (hl : Cond.methodLink R_L idx y ∈ XT) (hin : Cond.instanceMethod y ∈ XT) (hy : y.name = "<init>") (hd : y.cls ≠ "java/lang/invoke/MethodHandle" ∧ y.cls ≠ "java/lang/invoke/VarHandle" ∧ (parseMethodDescriptor y.desc).map (fun d => d.parameters.length) = some 0) :
    CallB room_1 s args R_L idx y cc 1 none (Cond.code y cc 1 none :: XT) { frames := 1, cells := 1, slots := ms, locals := 20 } 1 ms 0 ∧ y.name = "<init>" ∧ (Cond.instanceMethod y).before args s = true := by
  refine ⟨⟨rfl, rfl, Nat.le_of_ble_eq_true rfl, Nat.le_of_ble_eq_true rfl, xpaid xGT hts hc, List.mem_cons_self, hts _ hc, hts _ hi, ⟨hd.1, hd.2.1⟩, fun sig h => ?_, hts _ hl⟩, hy, hts _ hin⟩
  have h2 := hd.2.2
  rw [h] at h2
  exact (Option.some.inj h2).symm
set_option maxHeartbeats 4000000 in
set_option maxRecDepth 100000 in
/-- from the entry, for every script of at most 3584 ints, the law comes to its end with true -/
theorem whole_start {p : Program} {e : Env} {s : State} {m : MethodId} {below : List Frame} {meth : Method} {c : Code} (l : Launch) (hfl : l.stackTraces = false) {scr L : Nat} {xs : Nat → Int32} (hL : L ≤ 3584) (C0 : lw_At p s m meth c scr L xs) : W p l e room_1 s m #[Value.ref scr] below meth c s.heap [] 0 0 (lw_Z below #[Value.ref scr] s) (entryFrame m ([Value.ref scr] : List Value).toArray 8) := by
  obtain ⟨hx, hb, hr, hml, hown, htb, hX, hsc, hlk, hgv⟩ := C0
  have E : CallFix p m c code 8 s #[Value.ref scr] XT R_L := ⟨hx, hb, hml, hown, fun w hw => htb w (List.mem_filter.mp hw).1⟩
  have hgs := flat_of_before _ hgv
  have hN : xNc s := ⟨va_Nc.of (hgs (.not (.castable E_IO E_IA)) (by decide +kernel)), va_Nc.of (hgs (.not (.castable E_UO E_IA)) (by decide +kernel))⟩
  have hQ0 : vx_Zq Bundle.tN "UNASSIGNED_STACK" Bundle.steD (xnew s) s s.heap ∧ vx_Zq Bundle.tN "SUPPRESSED_SENTINEL" Bundle.listD (xnew s) s s.heap :=
    ⟨vx_Zqof (htb _ (by decide +kernel)) (htb _ (by decide +kernel)) (hgs (.isRef (.static Bundle.tN "UNASSIGNED_STACK" Bundle.steD)) (by decide +kernel)) (fun a ha z => Nat.not_le.mpr ha z),
     vx_Zqof (htb _ (by decide +kernel)) (htb _ (by decide +kernel)) (hgs (.isRef (.static Bundle.tN "SUPPRESSED_SENTINEL" Bundle.listD)) (by decide +kernel)) (fun a ha z => Nat.not_le.mpr ha z)⟩
  obtain ⟨cX, iX, hKX⟩ := u_known E.2.2.2.2 in_X (E.2.2.2.2 _ is_X)
  obtain ⟨cM, iM, hKM⟩ := u_known E.2.2.2.2 in_M (E.2.2.2.2 _ is_M)
  obtain ⟨cJ, hJ, hJa⟩ := xarr (E.2.2.2.2 _ ar_long)
  obtain ⟨cZ, hZ, hZa⟩ := xarr (E.2.2.2.2 _ ar_boolean)
  obtain ⟨D, hD1, hD2⟩ : ∃ D : va_G, (D.1 0 = cX ∧ D.2 0 = iX) ∧ D.1 1 = cM ∧ D.2 1 = iM := ⟨(fun k => if k = 0 then cX else cM, fun k => if k = 0 then iX else iM), ⟨rfl, rfl⟩, rfl, rfl⟩
  have hK : va_K D xcl (xty cJ cZ) s := by
    refine ⟨fun k q hq => ?_, fun k q hq => ?_⟩
    · match k with
      | 0 =>
        cases Option.some.inj hq
        rw [hD1.1, hD1.2]
        exact hKX
      | 1 =>
        cases Option.some.inj hq
        rw [hD2.1, hD2.2]
        exact hKM
      | k + 2 => cases hq
    · match k with
      | 0 => cases Option.some.inj hq; exact ⟨hJa, hJ⟩
      | 1 => cases Option.some.inj hq; exact ⟨hZa, hZ⟩
      | k + 2 => cases hq
  have hS : va_S (xnew s) s.heap s.heap [] := va_S.rf
  have hP0 : ∀ H : Heap, va_P D xcl [] H := fun H k q h => by cases h
  have hD0 : ∀ A : Nat → Prop, va_D A [] := fun A => ⟨fun i j p q hi => (by cases hi), fun k q hk => (by cases hk)⟩
  refine xl_entry _ (Nat.le_of_ble_eq_true rfl) (fun ls hl => ?_)
  have hl : lv_has ls 8 [(0, .ref scr)] := hl
  refine va_new (ci := 0) (fs := [.null, .int 0, .int 0]) (C := R_X) (T := F_X) (N := 3) (A := xnew s) (H0 := s.heap) (ws := []) E.1 E.2.1 E.2.2.2.2 in_X t_X t_X_ok E.2.2.2.1 (E.2.2.2.2 _ cl_L_X) (E.2.2.2.2 _ is_X) (E.2.2.2.2 _ in_X_ini) hK (hP0 _) (hD0 _) hS (fun q h => h) rfl (fun j hj => by rcases (show j = 0 ∨ j = 1 ∨ j = 2 by omega) with rfl | rfl | rfl <;> rfl) (by decide) (by decide) d_L_law_0 (fun x H1 hP1 hA1 hS1 => ?_)
  have hP1 : va_P D xcl [(x, .inr (0, [.null, .int 0, .int 0]))] H1 := hP1
  have hxs : s.heap.size ≤ x := hA1.2 0 (x, .inr (0, [.null, .int 0, .int 0])) rfl
  have hxl : x < H1.size := (hP1 0 _ rfl).lt
  refine lv_dup E.1 E.2.1 d_L_law_3 rfl ?_
  refine va_callv (va_runI (As := []) (rest := [.ref x]) E (c_init l D x H1.size cJ cZ) (xcI E.2.2.2.2 cw_X_init in_X_ini lk_L_X_init im_X_init rfl (by decide +kernel)) ⟨fun a U g mk h => ⟨h.1, h.2.1, h.2.2.1, h.2.2.2.1, va_K.moved (u := U) (U := U.calling g mk a) (Vm.Alike.refl U.vm) h.2.2.2.2⟩, fun U hU hW => ⟨rfl, by rw [hU], by exact hxl, by rw [hU]; exact hP1, va_K.moved hW.alike hK⟩⟩ rfl rfl hl.1 rfl (lv_room (Nat.le_of_ble_eq_true rfl)) d_L_law_4 ⟨by decide, by decide⟩) hS1 (fun q _ h => h.elim (fun z => by rw [z]; exact hxs) (fun z => Nat.le_trans hS1.1 z)) (fun q h => h.elim (fun z => by rw [z]; exact hxs) (fun z => Nat.le_trans hS1.1 z)) (fun w t H2 locs2 ht hvm hw hB hz2 hk2 hS2 => ?_)
  have hPX2 : PX D x w cJ (fun _ => false) 0 0 H2 := by rw [← ht]; exact hB
  clear hB
  have hws : s.heap.size ≤ w := Nat.le_trans hS1.1 hw
  have hxw : x ≠ w := by omega
  refine va_forget hS2.2.2 ?_
  have hS2 : va_S (xnew s) s.heap H2 [] := ⟨hS2.1, hS2.2.1, fun _ h => by cases h⟩
  have hlt2 := hPX2.lt
  refine W.eq (g2 := F0 m 7 ls [.ref x]) rfl ?_
  refine lv_astore_n E.1 E.2.1 d_L_law_7 rfl hl (by decide) rfl (fun ls hl => ?_)
  have hl : lv_has ls 8 [(1, .ref x), (0, .ref scr)] := hl
  refine va_new (ci := 1) (fs := [.int 0, .null, .int 0, .int 0, .int 0, .int 0]) (C := R_M) (T := F_M) (N := 6) (A := fun q => H2.size ≤ q) (H0 := H2) (ws := []) E.1 E.2.1 E.2.2.2.2 in_M t_M t_M_ok E.2.2.2.1 (E.2.2.2.2 _ cl_L_M) (E.2.2.2.2 _ is_M) (E.2.2.2.2 _ in_M_ini) hK (hP0 _) (hD0 _) va_S.rf (fun q h => h) rfl (fun j hj => by rcases (show j = 0 ∨ j = 1 ∨ j = 2 ∨ j = 3 ∨ j = 4 ∨ j = 5 by omega) with rfl | rfl | rfl | rfl | rfl | rfl <;> rfl) (by decide) (by decide) d_L_law_8 (fun b H3 hP3 hA3 hS3 => ?_)
  have hP3 : va_P D xcl [(b, .inr (1, [.int 0, .null, .int 0, .int 0, .int 0, .int 0]))] H3 := hP3
  have hbs : H2.size ≤ b := hA3.2 0 (b, .inr (1, [.int 0, .null, .int 0, .int 0, .int 0, .int 0])) rfl
  have hbl : b < H3.size := (hP3 0 _ rfl).lt
  refine lv_dup E.1 E.2.1 d_L_law_11 rfl ?_
  refine va_callv (va_runI (As := []) (rest := [.ref b]) E (m_init l D b H3.size cJ cZ) (xcI E.2.2.2.2 cw_M_init in_M_ini lk_L_M_init im_M_init rfl (by decide +kernel)) ⟨fun a U g mk h => ⟨h.1, h.2.1, h.2.2.1, h.2.2.2.1, va_K.moved (u := U) (U := U.calling g mk a) (Vm.Alike.refl U.vm) h.2.2.2.2⟩, fun U hU hW => ⟨rfl, by rw [hU], by exact hbl, by rw [hU]; exact hP3, va_K.moved hW.alike hK⟩⟩ rfl rfl hl.1 rfl (lv_room (Nat.le_of_ble_eq_true rfl)) d_L_law_12 ⟨by decide, by decide⟩) hS3 (fun q _ h => h.elim (fun z => by rw [z]; exact hbs) (fun z => Nat.le_trans hS3.1 z)) (fun q h => h.elim (fun z => by rw [z]; exact hbs) (fun z => Nat.le_trans hS3.1 z)) (fun r t4 H4 locs4 ht4 hvm4 hrr hB4 hz4 hk4 hS4 => ?_)
  have hPM4 : PM D b r cZ (fun _ => false) 0 0 0 0 false H4 := by rw [← ht4]; exact hB4
  clear hB4
  have hlt4 := hPM4.lt
  have hPX4 : PX D x w cJ (fun _ => false) 0 0 H4 := hPX2.kept (hS4.2.1 x hlt2.1 (Nat.not_le.mpr hlt2.1)) (hS4.2.1 w hlt2.2 (Nat.not_le.mpr hlt2.2))
  have hsz := hS2.1
  have hS4' : va_S (xnew s) s.heap H4 [] := ⟨Nat.le_trans hS2.1 hS4.1, fun q h1 h2 => (hS4.2.1 q (Nat.lt_of_lt_of_le h1 hS2.1) (fun z => Nat.not_le.mpr (Nat.lt_of_lt_of_le h1 hS2.1) z)).trans (hS2.2.1 q h1 h2), fun _ h => by cases h⟩
  refine va_forget (fun q hq => Nat.le_trans hsz (hS4.2.2 q hq)) ?_
  refine W.eq (g2 := F0 m 15 ls [.ref b]) rfl ?_
  refine lv_astore_n E.1 E.2.1 d_L_law_15 rfl hl (by decide) rfl (fun ls hl => ?_)
  have hl : lv_has ls 8 [(2, .ref b), (1, .ref x), (0, .ref scr)] := hl
  refine lv_iconst (v := 1) E.1 E.2.1 d_L_law_16 (by decide) ?_
  refine va_newaK (atype := .long) (N := 1) (rest := []) E.1 E.2.1 (E.2.2.2.2 _ ar_long) (g := F0 m 17 ls [.int 1]) rfl d_L_law_17 rfl (by decide) (nI_clamp (n := 1) (by decide)) (by decide) (by decide) (by decide) (h := H4.size) rfl (fun H5 cA hc5 hz5 ho5 hA5 hn5 => ?_)
  have hcA : cA = cJ := Option.some.inj (hn5.symm.trans hJ)
  subst hcA
  have hO5 : xOut D H4.size cA (fun _ => 0) H5 := by
    intro k q hq
    match k with
    | 0 =>
      cases Option.some.inj hq
      show H5[H4.size]? = some (vp_cell cA (1, .inr (.inl (fun _ => 0))))
      rw [xnewL 1 cA]
      exact hc5
    | k + 1 => cases hq
  have hPX5 := hPX4.kept (ho5 x hPX4.lt.1) (ho5 w hPX4.lt.2)
  have hPM5 := hPM4.kept (ho5 b hlt4.1) (ho5 r hlt4.2)
  have hS5 : va_S (xnew s) s.heap H5 [] := ⟨by have := hS4'.1; omega, fun q h1 h2 => (ho5 q (Nat.lt_of_lt_of_le h1 hS4'.1)).trans (hS4'.2.1 q h1 h2), fun _ h => by cases h⟩
  refine W.eq (g2 := F0 m 19 ls [.ref H4.size]) rfl ?_
  refine lv_astore_n E.1 E.2.1 d_L_law_19 rfl hl (by decide) rfl (fun ls hl => ?_)
  have hl : lv_has ls 8 [(3, .ref H4.size), (2, .ref b), (1, .ref x), (0, .ref scr)] := hl
  refine lv_iconst (v := 0) E.1 E.2.1 d_L_law_20 (by decide) ?_
  refine lv_istore E.1 E.2.1 d_L_law_21 hl (by decide) rfl (fun ls hl => ?_)
  have hl : lv_has ls 8 [(4, .int 0), (3, .ref H4.size), (2, .ref b), (1, .ref x), (0, .ref scr)] := hl
  have hlx := hPX4.lt
  have C : xCx p l s m c scr L xs D x w b r H4.size cA cZ := ⟨E, hfl, hK, hN, hQ0, hX, hsc, hL, ⟨hxs, hws, by omega, by omega, by omega⟩, ⟨hxw, by omega⟩, ⟨by omega, by omega, by omega, by omega⟩, by omega, by omega, by omega, by omega⟩
  refine W.widen (k := 5 + 0) (n := 66570 + 6 * 0) (by decide) (by decide) ?_
  exact k_loop C hr hlk L 0 (fun _ => false, 0, 0) (fun _ => 0) 0 0 false H5 ls (Nat.zero_le _) (by omega) ⟨Nat.zero_le _, Nat.le_refl _⟩ hPX5 hPM5 hO5 hS5 hl
end XL36

