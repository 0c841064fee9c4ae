/-! The law's loop. -/
section XL35
theorem xand15 (y : Int32) : ∃ v : Nat, v < 16 ∧ y &&& 15 = nI v := by
  obtain ⟨k, hk, rfl⟩ := wb_of32 y
  refine ⟨k % 16, Nat.mod_lt _ (by decide), ?_⟩
  apply Int32.toBitVec_inj.mp
  show BitVec.ofNat 32 k &&& BitVec.ofNat 32 15 = BitVec.ofNat 32 (k % 16)
  apply BitVec.eq_of_toNat_eq
  rw [BitVec.toNat_and, BitVec.toNat_ofNat, BitVec.toNat_ofNat, BitVec.toNat_ofNat, Nat.mod_eq_of_lt hk]
  have h15 : 15 % 2 ^ 32 = 2 ^ 4 - 1 := by decide
  rw [h15, Nat.and_two_pow_sub_one_eq_mod]
  omega
theorem xstop {L i : Nat} (hL : L < 2 ^ 30) (hi : i < 2 ^ 30) : nI L - 7 < nI i ↔ L < i + 7 := by
  rw [Int32.lt_iff_toInt_lt, show nI L - 7 = nI L - nI 7 from rfl, pk_sub_toInt hL (by decide), nI_toInt (by omega)]
  omega
set_option maxHeartbeats 4000000 in
set_option maxRecDepth 100000 in
theorem k_head {p : Program} {l : Launch} {e : Env} {s : State} {m : MethodId} {below : List Frame} {meth : Method} {c : Code} {scr L : Nat} {xs : Nat → Int32} {D : va_G} {x w b r o : Nat} {cJ cZ : ClassId} {σ : xS} {f : Nat → Int64} {fa : Int32} {rd : Nat} {gd : Bool} {H : Heap} {ls : Array Slot} (C : xCx p l s m c scr L xs D x w b r o cJ cZ) (hr : meth.sig.returnType = ret) (hk : meth.locks = false) (j : Nat) (hjL : 7 * j ≤ L) (hok : xok σ) (hP : PX D x w cJ σ.1 σ.2.1 σ.2.2 H) (hPM : PM D b r cZ σ.1 σ.2.1 σ.2.2 fa rd gd H) (hO : xOut D o cJ f H) (hS : va_S (xnew s) s.heap H []) (hl : lv_has ls 8 [(4, .int (nI (7 * j))), (3, .ref o), (2, .ref b), (1, .ref x), (0, .ref scr)])
    (hnext : 7 * j + 7 ≤ L → ∀ (σ : xS) (H1 : Heap) (ls1 : Array Slot) (f1 : Nat → Int64) (fa1 : Int32) (rd1 : Nat) (gd1 : Bool), xok σ → PX D x w cJ σ.1 σ.2.1 σ.2.2 H1 → PM D b r cZ σ.1 σ.2.1 σ.2.2 fa1 rd1 gd1 H1 → xOut D o cJ f1 H1 → va_S (xnew s) s.heap H1 [] → lv_has ls1 8 [(4, .int (nI (7 * (j + 1)))), (3, .ref o), (2, .ref b), (1, .ref x), (0, .ref scr)] →
      W p l e room_1 s m #[Value.ref scr] below meth c H1 [] (5 + (j + 1)) (66570 + 6 * (j + 1)) (lw_Z below #[Value.ref scr] s) (F0 m 23 ls1 [])) :
    W p l e room_1 s m #[Value.ref scr] below meth c H [] (5 + j) (66570 + 6 * j) (lw_Z below #[Value.ref scr] s) (F0 m 23 ls []) := by
  have C0 := C
  obtain ⟨E, hL, hK, hN, hQ0, hX, hsc, hLb, hap⟩ := C
  have hbA : ¬ xnew s scr := fun z => Nat.not_le.mpr hsc z
  refine lv_iload E.1 E.2.1 d_L_law_23 (lv_at hl 0 rfl) ?_
  refine lv_aload_n E.1 E.2.1 d_L_law_25 rfl (lv_at hl 4 rfl) ?_
  refine va_slen E.1 E.2.1 hX hsc hbA hS d_L_law_26 ?_
  refine xl_ti (y := (nI L)) (rfl) ?_
  refine lv_bipush (v := 7) E.1 E.2.1 d_L_law_27 (by decide) ?_
  refine lv_isub E.1 E.2.1 d_L_law_29 ?_
  refine lv_icmp_gt (tgt := 1108) E.1 E.2.1 d_L_law_30 (by decide) (fun h1 => ?_) (fun h1 => ?_)
  · skip
    refine lv_iconst (v := 1) E.1 E.2.1 d_L_law_1108 (by decide) ?_
    refine W.widen (k := 601024) (n := 7293034) (by omega) (by omega) ?_
    exact lw_ret E.1 E.2.1 hr hk d_L_law_1109
  · skip
    have hj : 7 * j + 7 ≤ L := Nat.not_lt.mp (fun z => h1 ((xstop (by omega) (by omega)).mpr z))
    have next : xNext p l e s m below meth c scr D x w b r o cJ cZ j := by
      intro σ1 H1 ls f1 fa1 rd1 gd1 hok1 hP1 hPM1 hO1 hS1 hl
      refine lv_iinc (k := 0) (v := (nI (7 * j)) + 7) E.1 E.2.1 d_L_law_1102 hl rfl rfl (by decide) rfl (fun ls hl => ?_)
      have hl : lv_has ls 8 [(4, .int ((nI (7 * j)) + 7)), (3, .ref o), (2, .ref b), (1, .ref x), (0, .ref scr)] := hl
      refine lv_goto (tgt := 23) E.1 E.2.1 d_L_law_1105 (by decide) ?_
      rw [show nI (7 * j) + 7 = nI (7 * (j + 1)) from nI_add (7 * j) 7] at hl
      exact W.widen (k := 5 + (j + 1)) (n := 66570 + 6 * (j + 1)) (by omega) (by omega) (hnext hj σ1 H1 ls f1 fa1 rd1 gd1 hok1 hP1 hPM1 hO1 hS1 hl)
    refine lv_aload_n E.1 E.2.1 d_L_law_33 rfl (lv_at hl 4 rfl) ?_
    refine lv_iload E.1 E.2.1 d_L_law_34 (lv_at hl 0 rfl) ?_
    refine va_sld E.1 E.2.1 hX hsc hbA hS (vp_in_nI (n := 7 * j) (by omega) (by omega)) d_L_law_36 ?_
    refine xl_ti (y := xs (7 * j)) (by rw [nI_clamp (by omega)]) ?_
    refine lv_bipush (v := 15) E.1 E.2.1 d_L_law_37 (by decide) ?_
    refine lv_iand E.1 E.2.1 d_L_law_39 ?_
    obtain ⟨v, hv, hve⟩ := xand15 (xs (7 * j))
    refine xl_ti hve ?_
    obtain ⟨β, n, q⟩ := σ
    rcases (show v = 0 ∨ v = 1 ∨ v = 2 ∨ v = 3 ∨ v = 4 ∨ v = 5 ∨ v = 6 ∨ v = 7 ∨ v = 8 ∨ v = 9 ∨ v = 10 ∨ v = 11 ∨ v = 12 ∨ 12 < v by omega) with rfl | rfl | rfl | rfl | rfl | rfl | rfl | rfl | rfl | rfl | rfl | rfl | rfl | hv2
    · refine lv_tableIn (off := 68) (tgt := 108) E.1 E.2.1 d_L_law_40 (by decide) (by decide) (by decide) (by decide) ?_
      exact k_put C0 j hj hok hP hPM hO hS hl next
    · refine lv_tableIn (off := 168) (tgt := 208) E.1 E.2.1 d_L_law_40 (by decide) (by decide) (by decide) (by decide) ?_
      exact k_putRange C0 j hj hok hP hPM hO hS hl next
    · refine lv_tableIn (off := 346) (tgt := 386) E.1 E.2.1 d_L_law_40 (by decide) (by decide) (by decide) (by decide) ?_
      exact k_putLength C0 j hj hok hP hPM hO hS hl next
    · refine lv_tableIn (off := 402) (tgt := 442) E.1 E.2.1 d_L_law_40 (by decide) (by decide) (by decide) (by decide) ?_
      exact k_putNumber C0 j hj hok hP hPM hO hS hl next
    · refine lv_tableIn (off := 502) (tgt := 542) E.1 E.2.1 d_L_law_40 (by decide) (by decide) (by decide) (by decide) ?_
      exact k_fill C0 j hj hok hP hPM hO hS hl next
    · refine lv_tableIn (off := 546) (tgt := 586) E.1 E.2.1 d_L_law_40 (by decide) (by decide) (by decide) (by decide) ?_
      exact k_take C0 j hj hok hP hPM hO hS hl next
    · refine lv_tableIn (off := 601) (tgt := 641) E.1 E.2.1 d_L_law_40 (by decide) (by decide) (by decide) (by decide) ?_
      exact k_takeRange C0 j hj hok hP hPM hO hS hl next
    · refine lv_tableIn (off := 732) (tgt := 772) E.1 E.2.1 d_L_law_40 (by decide) (by decide) (by decide) (by decide) ?_
      exact k_takeLength C0 j hj hok hP hPM hO hS hl next
    · refine lv_tableIn (off := 776) (tgt := 816) E.1 E.2.1 d_L_law_40 (by decide) (by decide) (by decide) (by decide) ?_
      exact k_takeNumber C0 j hj hok hP hPM hO hS hl next
    · refine lv_tableIn (off := 831) (tgt := 871) E.1 E.2.1 d_L_law_40 (by decide) (by decide) (by decide) (by decide) ?_
      exact k_go C0 j hj hok hP hPM hO hS hl next
    · refine lv_tableIn (off := 887) (tgt := 927) E.1 E.2.1 d_L_law_40 (by decide) (by decide) (by decide) (by decide) ?_
      exact k_turn C0 j hj hok hP hPM hO hS hl next
    · refine lv_tableIn (off := 950) (tgt := 990) E.1 E.2.1 d_L_law_40 (by decide) (by decide) (by decide) (by decide) ?_
      exact k_cut C0 j hj hok hP hPM hO hS hl next
    · refine lv_tableIn (off := 1006) (tgt := 1046) E.1 E.2.1 d_L_law_40 (by decide) (by decide) (by decide) (by decide) ?_
      exact k_count C0 j hj hok hP hPM hO hS hl next
    · refine lv_tableOut (tgt := 1102) E.1 E.2.1 d_L_law_40 (Or.inr (by rw [nI_toInt (by omega)]; omega)) (by decide) ?_
      exact W.widen (by omega) (by omega) (next (β, n, q) H ls f fa rd gd hok hP hPM hO hS hl)
theorem k_loop {p : Program} {l : Launch} {e : Env} {s : State} {m : MethodId} {below : List Frame} {meth : Method} {c : Code} {scr L : Nat} {xs : Nat → Int32} {D : va_G} {x w b r o : Nat} {cJ cZ : ClassId} (C : xCx p l s m c scr L xs D x w b r o cJ cZ) (hr : meth.sig.returnType = ret) (hk : meth.locks = false) :
    ∀ (d j : Nat) (σ : xS) (f : Nat → Int64) (fa : Int32) (rd : Nat) (gd : Bool) (H : Heap) (ls : Array Slot), 7 * j ≤ L → L < 7 * (j + d) + 7 → xok σ → PX D x w cJ σ.1 σ.2.1 σ.2.2 H → PM D b r cZ σ.1 σ.2.1 σ.2.2 fa rd gd H → xOut D o cJ f H → va_S (xnew s) s.heap H [] → lv_has ls 8 [(4, .int (nI (7 * j))), (3, .ref o), (2, .ref b), (1, .ref x), (0, .ref scr)] →
      W p l e room_1 s m #[Value.ref scr] below meth c H [] (5 + j) (66570 + 6 * j) (lw_Z below #[Value.ref scr] s) (F0 m 23 ls []) := by
  intro d
  induction d with
  | zero =>
    intro j σ f fa rd gd H ls hjL hd hok hP hPM hO hS hl
    exact k_head C hr hk j hjL hok hP hPM hO hS hl (fun h => absurd h (by omega))
  | succ d ih =>
    intro j σ f fa rd gd H ls hjL hd hok hP hPM hO hS hl
    exact k_head C hr hk j hjL hok hP hPM hO hS hl (fun h σ1 H1 ls1 f1 fa1 rd1 gd1 hok1 hP1 hPM1 hO1 hS1 hl1 => ih (j + 1) σ1 f1 fa1 rd1 gd1 H1 ls1 (by omega) (by omega) hok1 hP1 hPM1 hO1 hS1 hl1)
end XL35

