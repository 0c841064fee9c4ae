/-! The law's walk: what stays, what a call changes. -/
section XLO
theorem so_write {σ : xS} {x : Int64} {k cd : Nat} (h : xok σ) : xok (sp_write σ x k cd).2.2 := by
  unfold sp_write
  split
  · exact h
  · rename_i g
    obtain ⟨h1, h2⟩ := h
    exact ⟨Nat.not_lt.mp g, Nat.le_trans h2 (Nat.le_add_right _ _)⟩
theorem so_put {σ : xS} {x : Int64} {k : Int32} (h : xok σ) : xok (sp_put σ x k).2.2 := by
  unfold sp_put
  split
  · exact h
  · exact so_write h
theorem so_putRange {σ : xS} {lo hi x : Int64} (h : xok σ) : xok (sp_putRange σ lo hi x).2.2 := by
  unfold sp_putRange
  split
  · exact h
  · exact so_write h
theorem so_putLength {σ : xS} {k : Int32} (h : xok σ) : xok (sp_putLength σ k).2.2 := by
  unfold sp_putLength
  split
  · exact h
  · dsimp only
    split
    · exact h
    · rename_i g
      obtain ⟨h1, h2⟩ := h
      exact ⟨Nat.not_lt.mp g, Nat.le_trans h2 (Nat.le_add_right _ _)⟩
theorem so_putNumber {σ : xS} {kind : Int32} {x : Int64} (h : xok σ) : xok (sp_putNumber σ kind x).2.2 := by
  unfold sp_putNumber
  split
  · exact h
  · split
    · exact so_write h
    · split
      · exact h
      · rename_i g
        obtain ⟨h1, h2⟩ := h
        exact ⟨Nat.not_lt.mp g, Nat.le_trans h2 (Nat.le_add_right _ _)⟩
theorem so_fill {σ : xS} (h : xok σ) : xok (sp_fill σ).2.2 := so_write h
theorem so_take {σ : xS} {k : Int32} (h : xok σ) : xok (sp_take σ k).2.2 := by
  unfold sp_take
  split
  · exact h
  · split
    · exact h
    · rename_i g
      exact ⟨h.1, Nat.not_lt.mp g⟩
theorem so_takeRange {σ : xS} {lo hi : Int64} (h : xok σ) : xok (sp_takeRange σ lo hi).2.2 := by
  unfold sp_takeRange
  split
  · exact h
  · split
    · exact h
    · rename_i g
      exact ⟨h.1, Nat.not_lt.mp (fun z => g (Or.inl z))⟩
theorem so_takeLength {σ : xS} (h : xok σ) : xok (sp_takeLength σ).2.2 := by
  cases hx : xlen σ.1 σ.2.1 σ.2.2 with
  | none =>
    have e : sp_takeLength σ = (1, 0, σ) := by
      unfold sp_takeLength
      rw [hx]
    rw [e]
    exact h
  | some r =>
    obtain ⟨v, wd⟩ := r
    have e : sp_takeLength σ = (0, lN v, (σ.1, σ.2.1, σ.2.2 + wd)) := by
      unfold sp_takeLength
      rw [hx]
    rw [e]
    exact ⟨h.1, (xlen_ok hx).2.2⟩
theorem so_takeNumber {σ : xS} {kind : Int32} (h : xok σ) : xok (sp_takeNumber σ kind).2.2 := by
  unfold sp_takeNumber
  by_cases h1 : kind < 0 ∨ 2 < kind
  · rw [if_pos h1]
    exact h
  · rw [if_neg h1]
    by_cases h2 : kind = 2
    · rw [if_pos h2]
      cases hx : xsmallAt σ.1 σ.2.1 σ.2.2 with
      | none => exact h
      | some r => exact ⟨h.1, (xsmallAt_w hx).2⟩
    · rw [if_neg h2]
      cases hx : xnumAt σ.1 σ.2.1 kind σ.2.2 with
      | none => exact h
      | some r => exact ⟨h.1, (xnumAt_w hx).2⟩
theorem xcut_ok {n : Nat} {p : Int32} (hn : n ≤ 65536) (h : ¬ (p < 0 ∨ nI n < p)) : p.toNatClampNeg ≤ n := by
  obtain ⟨j, hj, rfl⟩ := nI_of (fun z => h (Or.inl z))
  rw [nI_clamp hj]
  exact Nat.not_lt.mp (fun z => h (Or.inr ((nI_ltI (by omega) hj).mpr z)))
theorem so_go {σ : xS} {k : Int32} (h : xok σ) : xok (sp_go σ k).2.2 := by
  unfold sp_go
  split
  · exact h
  · rename_i g
    exact ⟨h.1, xcut_ok h.1 g⟩
theorem so_turn {σ : xS} {k : Int32} (h : xok σ) : xok (sp_turn σ k).2.2 := by
  unfold sp_turn
  split
  · exact h
  · exact h
theorem so_cut {σ : xS} {k : Int32} (h : xok σ) : xok (sp_cut σ k).2.2 := by
  unfold sp_cut
  split
  · exact h
  · rename_i g
    exact ⟨Nat.le_trans (xcut_ok h.1 g) h.1, Nat.min_le_right _ _⟩
theorem so_count {σ : xS} {k : Int32} (h : xok σ) : xok (sp_count σ k).2.2 := by
  unfold sp_count
  split
  · exact h
  · split <;> exact h
theorem s2_write (σ : xS) (x : Int64) (k : Nat) {cd : Nat} (h : cd ≤ 2) : (sp_write σ x k cd).1 ≤ 2 := by
  unfold sp_write
  split
  · exact h
  · exact Nat.zero_le 2
theorem s2_put (σ : xS) (x : Int64) (k : Int32) : (sp_put σ x k).1 ≤ 2 := by
  unfold sp_put
  split
  · exact Nat.le_of_ble_eq_true rfl
  · exact s2_write _ _ _ (by decide)
theorem s2_putRange (σ : xS) (lo hi x : Int64) : (sp_putRange σ lo hi x).1 ≤ 2 := by
  unfold sp_putRange
  split
  · exact Nat.le_of_ble_eq_true rfl
  · exact s2_write _ _ _ (by decide)
theorem s2_putLength (σ : xS) (k : Int32) : (sp_putLength σ k).1 ≤ 2 := by
  unfold sp_putLength
  split
  · exact Nat.le_of_ble_eq_true rfl
  · dsimp only
    split <;> simp
theorem s2_putNumber (σ : xS) (kind : Int32) (x : Int64) : (sp_putNumber σ kind x).1 ≤ 2 := by
  unfold sp_putNumber
  split
  · exact Nat.le_of_ble_eq_true rfl
  · split
    · exact s2_write _ _ _ (by decide)
    · split <;> simp
theorem s2_fill (σ : xS) : (sp_fill σ).1 ≤ 2 := s2_write _ _ _ (by decide)
theorem s2_take (σ : xS) (k : Int32) : (sp_take σ k).1 ≤ 2 := by
  unfold sp_take
  split
  · exact Nat.le_of_ble_eq_true rfl
  · split <;> simp
theorem s2_takeRange (σ : xS) (lo hi : Int64) : (sp_takeRange σ lo hi).1 ≤ 2 := by
  unfold sp_takeRange
  split
  · exact Nat.le_of_ble_eq_true rfl
  · split <;> simp
theorem s2_takeLength (σ : xS) : (sp_takeLength σ).1 ≤ 2 := by
  unfold sp_takeLength
  split <;> simp
theorem s2_takeNumber (σ : xS) (kind : Int32) : (sp_takeNumber σ kind).1 ≤ 2 := by
  unfold sp_takeNumber
  split
  · exact Nat.le_of_ble_eq_true rfl
  · split <;> simp
theorem s2_go (σ : xS) (k : Int32) : (sp_go σ k).1 ≤ 2 := by
  unfold sp_go
  split <;> simp
theorem s2_turn (σ : xS) (k : Int32) : (sp_turn σ k).1 ≤ 2 := by
  unfold sp_turn
  split <;> simp
theorem s2_cut (σ : xS) (k : Int32) : (sp_cut σ k).1 ≤ 2 := by
  unfold sp_cut
  split <;> simp
theorem s2_count (σ : xS) (k : Int32) : (sp_count σ k).1 ≤ 2 := by
  unfold sp_count
  split
  · simp
  · split <;> simp
end XLO
/-! THE CLAIM OUT OF ONE WALK OF THE LAW'S BODY (rows lw_ pasted from the skeleton). -/
def R_law : String := "PackedBitsLaw"
def lw_P (b : Addr) (xs : List Int32) (args : Array Value) (s : State) : Prop := args = #[.ref b] ∧ s.IntsAt b xs ∧ xs.length ≤ 3584 ∧ (Jvm.Cond.and given_1 narrow_1).before args s = true
def lw_Q (_ : Array Value) (s : State) (o : Outcome) (t : State) : Prop := o = .returned (some (.int 1)) ∧ Framed s o t [] 601024 7293034
def lw_Z (below : List Frame) (a : Array Value) (s : State) : State → Prop := fun t => ∃ o, t.status = .running ∧ Ended t below o ∧ lw_Q a s o t
theorem lw_ret {p : Program} {l : Launch} {e : Env} {s : State} {m : MethodId} {below : List Frame} {meth : Method} {c : Code} {b : Nat} (hx : p.tables.exec = Jvm.exec) (hb : c.code = code) (hr : meth.sig.returnType = ret) (hlocks : meth.locks = false) {pc : Nat} {H : Heap} {ls : Array Slot} (hdg : decode code pc = .ok (.ireturn, 1)) : W p l e room_1 s m #[Value.ref b] below meth c H [] 601024 7293034 (lw_Z below #[Value.ref b] s) (F0 m pc ls [.int 1]) := by
  intro T hT X
  obtain ⟨fs, hret, hrun, hended, hW, hframe⟩ := X.leave (v := some (.int 1)) (hlocks := hlocks) (fun h => by rw [hr] at h; cases h)
  have hmeth' : T.vm.method? m = some meth := X.method'
  refine ⟨T.setFrames fs, ?_, .returned (some (.int 1)), hrun, hended, rfl, ⟨_, rfl⟩, hW, hframe⟩
  jvm_step X.here [X.here.top, hx, hb, hdg, hmeth', hr, ret, narrow_b1]
  (try refine ⟨rfl, ?_⟩); (try refine ⟨rfl, ?_⟩)
  first | (intro acts; rw [hret _ acts rfl rfl rfl]) | rw [hret _ _ rfl rfl rfl]
  exact Steps.refl _
def lw_At (p : Program) (s : State) (m : MethodId) (meth : Method) (c : Code) (b L : Nat) (xs : Nat → Int32) : Prop :=
  p.tables.exec = Jvm.exec ∧ c.code = code ∧ meth.sig.returnType = ret ∧ c.maxLocals = 8 ∧ s.vm.findClass R_law = some m.cls ∧ (∀ w ∈ lw_tbl, w.before #[Value.ref b] s = true) ∧ va_X b L xs s s.heap ∧ b < s.heap.size ∧ meth.locks = false ∧ (Jvm.Cond.and given_1 narrow_1).before #[Value.ref b] s = true
section XLL
/-- what is new since s -/
def xnew (s : State) : Nat → Prop := fun q => s.heap.size ≤ q
/-- the law's cells are new, and apart: the class's two, the reference's two, its own row -/
def xAp (sz x w b r o : Nat) : Prop := (sz ≤ x ∧ sz ≤ w ∧ sz ≤ b ∧ sz ≤ r ∧ sz ≤ o) ∧ (x ≠ w ∧ b ≠ r) ∧ (o ≠ x ∧ o ≠ w ∧ o ≠ b ∧ o ≠ r) ∧ (b ≠ x ∧ b ≠ w ∧ r ≠ x ∧ r ≠ w)
/-- what holds all through the law's loop -/
def xCx (p : Program) (l : Launch) (s : State) (m : MethodId) (c : Code) (scr L : Nat) (xs : Nat → Int32) (D : va_G) (x w b r o : Nat) (cJ cZ : ClassId) : Prop :=
  CallFix p m c code 8 s #[Value.ref scr] XT R_L ∧ l.stackTraces = false ∧ va_K D xcl (xty cJ cZ) s ∧ xNc s ∧ (vx_Zq Bundle.tN "UNASSIGNED_STACK" Bundle.steD (xnew s) s s.heap ∧ vx_Zq Bundle.tN "SUPPRESSED_SENTINEL" Bundle.listD (xnew s) s s.heap) ∧ va_X scr L xs s s.heap ∧ scr < s.heap.size ∧ L ≤ 3584 ∧ xAp s.heap.size x w b r o
theorem xq_at {s : State} {H : Heap} {locs : List Loc} (h : vx_Zq Bundle.tN "UNASSIGNED_STACK" Bundle.steD (xnew s) s s.heap ∧ vx_Zq Bundle.tN "SUPPRESSED_SENTINEL" Bundle.listD (xnew s) s s.heap) (hS : va_S (xnew s) s.heap H locs) : ∀ U : State, U.heap = H → s.WarmedH U.vm → xq U := by
  intro U hU hW
  refine ⟨?_, ?_⟩
  · rw [hU]
    exact (vx_Zq.moved hW.alike (h.1.kept hS.2.1)).narrow (fun _ z => z.elim)
  · rw [hU]
    exact (vx_Zq.moved hW.alike (h.2.kept hS.2.1)).narrow (fun _ z => z.elim)
theorem PM.lt {D : va_G} {b r : Nat} {cZ : ClassId} {β : Nat → Bool} {n q : Nat} {fa : Int32} {rd : Nat} {gd : Bool} {H : Heap} (h : PM D b r cZ β n q fa rd gd H) : b < H.size ∧ r < H.size := ⟨(h 0 _ rfl).lt, (h 1 _ rfl).lt⟩
theorem PX.lt {D : va_G} {a w : Nat} {cJ : ClassId} {β : Nat → Bool} {n q : Nat} {H : Heap} (h : PX D a w cJ β n q H) : a < H.size ∧ w < H.size := by
  obtain ⟨f, -, h⟩ := h
  exact ⟨(h 0 _ rfl).lt, (h 1 _ rfl).lt⟩
/-- the words that a call of a method of the law asks -/
def xwW (idx : Nat) (y : MethodName) (cc : ByteArray) (maxL : Nat) (hs : List (Nat × Nat × Nat × Nat)) (n : Nat) : Prop :=
  (y.cls ≠ "java/lang/invoke/MethodHandle" ∧ y.cls ≠ "java/lang/invoke/VarHandle" ∧ (parseMethodDescriptor y.desc).map (fun d => d.parameters.length) = some n) ∧ Cond.codeWith y cc maxL (some .int) hs ∈ XT ∧ Cond.initialized y.cls ∈ XT ∧ Cond.methodLink R_L idx y ∈ XT ∧ Cond.static y ∈ XT
variable {p : Program} {l : Launch} {e : Env} {s : State} {m : MethodId} {below : List Frame} {meth : Method} {c : Code} {H : Heap} {cells slots : Nat} {Q : State → Prop}
variable {scr L : Nat} {xs : Nat → Int32} {D : va_G} {x w b r o : Nat} {cJ cZ : ClassId} {β β' : Nat → Bool} {n q n' q' : Nat} {f : Nat → Int64} {fa : Int32} {rd : Nat} {gd : Bool}
variable {pc : Nat} {ls : Array Slot} {rest st0 As : List Value} {y : MethodName} {cc : ByteArray} {maxL k idx : Nat} {z : Nat × Int64 × xS}
theorem xk_wrap {hs : List (Nat × Nat × Nat × Nat)} (C : xCx p l s m c scr L xs D x w b r o cJ cZ) (hM : xWr l y (Cond.codeWith y cc maxL (some .int) hs :: XT) (xrm 7) As D x w o cJ cZ β n q f z) (hw : xwW idx y cc maxL hs k) (hmx : maxL ≤ 100)
    (hP : PX D x w cJ β n q H) (hPM : PM D b r cZ β' n' q' fa rd gd H) (hO : xOut D o cJ f H) (hS : va_S (xnew s) s.heap H []) (hn : As.length = k) (hsize : ls.size = 8) (hstack : st0 = As.reverse ++ rest) (hW : (rest.map fun v => v.category).sum ≤ 8) (hc : cells + 1 ≤ 601024) (hsl : slots + 6 ≤ 7293034) (hdg : decode code pc = .ok (.invokestatic idx, 3))
    (kk : ∀ (H1 : Heap) (f1 : Nat → Int64), (z.1 = 0 → f1 0 = z.2.1) → PX D x w cJ z.2.2.1 z.2.2.2.1 z.2.2.2.2 H1 → PM D b r cZ β' n' q' fa rd gd H1 → xOut D o cJ f1 H1 → va_S (xnew s) s.heap H1 [] → W p l e room_1 s m #[Value.ref scr] below meth c H1 [] (cells + 1) (slots + 6) Q (F0 m (pc + 3) ls (.int (nI z.1) :: rest))) :
    W p l e room_1 s m #[Value.ref scr] below meth c H [] cells slots Q (F0 m pc ls st0) := by
  obtain ⟨E, hL, hK, hN, hQ0, hX, hsc, hLb, ⟨a1, a2, a3, a4, a5⟩, ⟨b1, b2⟩, ⟨c1, c2, c3, c4⟩, d1, d2, d3, d4⟩ := C
  obtain ⟨⟨h1, h2, h3⟩, h4, h5, h6, h7⟩ := hw
  have hts := E.2.2.2.2
  have hB := wL.call (o := o) hP hK (xq_at hQ0 hS) hO hN
  have hR1 : (xrm 7).frames + 1 ≤ room_1.frames ∧ 8 + (maxL + 11) + (xrm 7).locals ≤ room_1.locals := ⟨by decide, by show 8 + (maxL + 11) + 380 ≤ 582; omega⟩
  refine xl_goes (A0 := xnew s) (H0 := s.heap) (rest := rest) (xl_runS (As := As) E hM hR1 (fun w' hw' a' U hW' => ?_) (hts _ h5) ⟨h1, h2⟩ (xl_C.codeWith (hts _ h4) h3) (hts _ h6) (hts _ h7) ⟨fun a' U g mk h => ⟨h.1, hB.2 U g mk a' h.2⟩, fun U hU hW' => ⟨rfl, hB.1 U hU hW'⟩⟩ rfl hn hsize hstack (lv_room hW) hdg ⟨hc, hsl⟩) hS ?_ ?_ ?_ ?_
  · have hw'' : w' ∈ XT := by
      rcases List.mem_cons.mp hw' with rfl | h
      · exact h4
      · exact h
    exact xG_at hW' (xGT w' hw'') (hts w' hw'')
  · rintro q9 - ((rfl | rfl) | rfl)
    · exact a1
    · exact a2
    · exact a5
  · rintro q9 ((rfl | rfl) | rfl)
    · exact a1
    · exact a2
    · exact a5
  · rintro v st t locs1 h0 hal ⟨rfl, hP1, f1, hO1, hf1⟩ hS1 hz hkp
    refine va_forget hS1.2.2 (kk t.heap f1 hf1 hP1 (hPM.kept (hkp b hPM.lt.1 ?_) (hkp r hPM.lt.2 ?_)) hO1 ⟨hS1.1, hS1.2.1, fun _ h => by cases h⟩)
    · rintro ((g | g) | g)
      · exact d1 g
      · exact d2 g
      · exact c3 g.symm
    · rintro ((g | g) | g)
      · exact d3 g
      · exact d4 g
      · exact c4 g.symm
  · intro v st t locs1 h0 hal hth
    exact hth.elim
/-- a call of the reference that may write -/
theorem xk_model {ret : Option FieldType} {Rt : Option Value → State → State → Prop} (C : xCx p l s m c scr L xs D x w b r o cJ cZ) (hM : xM l y (Cond.code y cc maxL ret :: XT) (xrm 2) (.ref b :: As) (wM D b r cJ cZ β' n' q' fa rd gd) (xA2 b r) Rt (fun _ _ _ => False)) (hw : xwV XT R_L idx y cc maxL ret k) (hyM : y.cls = R_M) (hmx : maxL ≤ 100)
    (hP : PX D x w cJ β n q H) (hPM : PM D b r cZ β' n' q' fa rd gd H) (hO : xOut D o cJ f H) (hS : va_S (xnew s) s.heap H []) (hn : As.length = k) (hsize : ls.size = 8) (hstack : st0 = As.reverse ++ .ref b :: rest) (hW : (rest.map fun v => v.category).sum ≤ 8) (hc : cells + 1 ≤ 601024) (hsl : slots + 6 ≤ 7293034) (hdg : decode code pc = .ok (.invokevirtual idx, 3))
    (kk : ∀ (v : Option Value) (st t : State), Rt v st t → PX D x w cJ β n q t.heap → xOut D o cJ f t.heap → va_S (xnew s) s.heap t.heap [] → W p l e room_1 s m #[Value.ref scr] below meth c t.heap [] cells slots Q (F0 m (pc + 3) ls (v.toList ++ rest))) :
    W p l e room_1 s m #[Value.ref scr] below meth c H [] cells slots Q (F0 m pc ls st0) := by
  obtain ⟨E, hL, hK, hN, hQ0, hX, hsc, hLb, ⟨a1, a2, a3, a4, a5⟩, ⟨b1, b2⟩, ⟨c1, c2, c3, c4⟩, d1, d2, d3, d4⟩ := C
  have hol := hO.lt
  refine xg_goes (A0 := xnew s) (H0 := s.heap) (xc_V E xGT hM hw ⟨by decide, by show 8 + (maxL + 11) + 180 ≤ 582; omega, hc, hsl⟩ (wM.call hPM hK) (by rw [hyM]; exact PM.recv hPM hK) hn hsize hstack hW hdg) hS ?_ ?_ ?_ ?_
  · rintro q9 - (rfl | rfl)
    · exact a3
    · exact a4
  · rintro q9 (rfl | rfl)
    · exact a3
    · exact a4
  · intro v st t locs1 h0 hal hrt hS1 hz hkp
    refine va_forget hS1.2.2 (kk v st t hrt (hP.kept (hkp x hP.lt.1 ?_) (hkp w hP.lt.2 ?_)) (hO.kept (hkp o hol ?_)) ⟨hS1.1, hS1.2.1, fun _ h => by cases h⟩)
    · rintro (g | g)
      · exact d1 g.symm
      · exact d3 g.symm
    · rintro (g | g)
      · exact d2 g.symm
      · exact d4 g.symm
    · rintro (g | g)
      · exact c3 g
      · exact c4 g
  · intro v st t locs1 h0 hal hth
    exact hth.elim
theorem xk_thrown (C : xCx p l s m c scr L xs D x w b r o cJ cZ) (hPM : PM D b r cZ β' n' q' fa rd gd H) (hsize : ls.size = 8) (hW : (rest.map fun v => v.category).sum ≤ 8) (hc : cells + 1 ≤ 601024) (hsl : slots + 6 ≤ 7293034) (hdg : decode code pc = .ok (.invokevirtual 74, 3))
    (kk : W p l e room_1 s m #[Value.ref scr] below meth c H [] cells slots Q (F0 m (pc + 3) ls (.int fa :: rest))) :
    W p l e room_1 s m #[Value.ref scr] below meth c H [] cells slots Q (F0 m pc ls (.ref b :: rest)) := by
  obtain ⟨E, hL, hK, -⟩ := C
  refine xg_looks (xc_V (As := []) E xGT (m_thrown l D b r cJ cZ β' n' q' fa rd gd) vw_L_M_thrown ⟨by decide, by decide, by show cells + 1 ≤ 601024; omega, by show slots + 6 ≤ 7293034; omega⟩ (wM.call hPM hK) (PM.recv hPM hK) rfl hsize rfl hW hdg) (fun v st t h => h.2) (fun v st t h0 hal hrt => ?_) (fun x st t h0 hal hth hz => hth.elim)
  obtain ⟨rfl, -⟩ := hrt
  exact kk
end XLL
section XLN
/-- the walk from the end of a case on -/
def xNext (p : Program) (l : Launch) (e : Env) (s : State) (m : MethodId) (below : List Frame) (meth : Method) (c : Code) (scr : Nat) (D : va_G) (x w b r o : Nat) (cJ cZ : ClassId) (j : Nat) : Prop :=
  ∀ (σ : xS) (H1 : Heap) (ls1 : Array Slot) (f1 : Nat → Int64) (fa1 : Int32) (rd1 : Nat) (gd1 : Bool), xok σ → PX D x w cJ σ.1 σ.2.1 σ.2.2 H1 → PM D b r cZ σ.1 σ.2.1 σ.2.2 fa1 rd1 gd1 H1 → xOut D o cJ f1 H1 → va_S (xnew s) s.heap H1 [] → lv_has ls1 8 [(4, .int (nI (7 * j))), (3, .ref o), (2, .ref b), (1, .ref x), (0, .ref scr)] →
    W p l e room_1 s m #[Value.ref scr] below meth c H1 [] (5 + j + 1) (66570 + 6 * j + 6) (lw_Z below #[Value.ref scr] s) (F0 m 1102 ls1 [])
theorem xz_bool2 {v : Int64} {i : Int32} (h : v = 0 ∨ v = 1) (hi : i.toInt64 = v) (hn : ¬ i = 0) : (1 : Int64) = v := by
  rcases h with g | g
  · rw [g] at hi
    refine absurd ?_ hn
    rw [← Int32.toInt_inj]
    have h1 := congrArg Int64.toInt hi
    rw [Int32.toInt_toInt64] at h1
    exact h1
  · exact g.symm
end XLN
