/-! The law's own methods around the class's: out[0] holds the answer, the code says which throw was caught. -/
section XWR
/-- the law's row of one long -/
def xOut (D : va_G) (o : Nat) (cJ : ClassId) (f : Nat → Int64) (H : Heap) : Prop := va_P D xcl [(o, .inl (cJ, 1, .inr (.inl f)))] H
theorem xOut.kept {D : va_G} {o : Nat} {cJ : ClassId} {f : Nat → Int64} {H H1 : Heap} (h : xOut D o cJ f H) (ho : H1[o]? = H[o]?) : xOut D o cJ f H1 := by
  refine va_P.kept h (fun k z hk => ?_)
  match k with
  | 0 => cases Option.some.inj hk; exact ho
  | k + 1 => cases hk
theorem xOut.lt {D : va_G} {o : Nat} {cJ : ClassId} {f : Nat → Int64} {H : Heap} (h : xOut D o cJ f H) : o < H.size := (h 0 _ rfl).lt
theorem xOut.ge {D : va_G} {o : Nat} {cJ : ClassId} {f : Nat → Int64} {H H1 : Heap} (h : xOut D o cJ f H) (hk : ∀ (z : Nat) (cell : Cell), H[z]? = some cell → H1[z]? = some cell) : xOut D o cJ f H1 := by
  have hlt := h.lt
  exact h.kept (by rw [hk o _ (Array.getElem?_eq_getElem hlt), Array.getElem?_eq_getElem hlt])
/-- what the handlers' order stands on -/
def xNc (U : State) : Prop := va_Nc E_IO E_IA U ∧ va_Nc E_UO E_IA U
/-- the world of a method of the law -/
def wL (D : va_G) (a w o : Nat) (cJ cZ : ClassId) (β : Nat → Bool) (n q : Nat) (f : Nat → Int64) (U : State) : Prop := wXt D a w cJ cZ β n q U ∧ xOut D o cJ f U.heap ∧ xNc U
theorem wL.call {D : va_G} {a w o : Nat} {cJ cZ : ClassId} {β : Nat → Bool} {n q : Nat} {f : Nat → Int64} {s : State} {H : Heap} (hP : PX D a w cJ β n q H) (hK : va_K D xcl (xty cJ cZ) s) (hQ : ∀ U : State, U.heap = H → s.WarmedH U.vm → xq U) (hO : xOut D o cJ f H) (hN : xNc s) :
    (∀ U : State, U.heap = H → s.WarmedH U.vm → wL D a w o cJ cZ β n q f U) ∧ ∀ (U : State) (g : JFrame) (mk : MethodId) (z : Array Value), wL D a w o cJ cZ β n q f U → wL D a w o cJ cZ β n q f (U.calling g mk z) :=
  ⟨fun U hU hW => ⟨⟨(wX.call hP hK).1 U hU hW, hQ U hU hW⟩, by rw [hU]; exact hO, va_Nc.moved hW.alike hN.1, va_Nc.moved hW.alike hN.2⟩,
   fun U g mk z h => ⟨⟨(wX.call hP hK).2 U g mk z h.1.1, (xQc h.1.2).2 U g mk z h.1.2⟩, h.2.1, va_Nc.moved (u := U) (U := U.calling g mk z) (Vm.Alike.refl U.vm) h.2.2.1, va_Nc.moved (u := U) (U := U.calling g mk z) (Vm.Alike.refl U.vm) h.2.2.2⟩⟩
def xA3 (a w o : Nat) : Nat → Prop := fun q => xA2 a w q ∨ q = o
theorem xD3 {a w o : Nat} (h1 : a ≠ w) (h2 : o ≠ a) (h3 : o ≠ w) {e1 e2 e3 : va_E} : va_D (xA3 a w o) [(a, e1), (w, e2), (o, e3)] := by
  refine ⟨fun i j p q hi hj hpq => ?_, fun k q hk => ?_⟩
  · match i, j with
    | 0, 0 => rfl
    | 1, 1 => rfl
    | 2, 2 => rfl
    | 0, 1 => cases Option.some.inj hi; cases Option.some.inj hj; exact absurd hpq h1
    | 1, 0 => cases Option.some.inj hi; cases Option.some.inj hj; exact absurd hpq.symm h1
    | 0, 2 => cases Option.some.inj hi; cases Option.some.inj hj; exact absurd hpq.symm h2
    | 2, 0 => cases Option.some.inj hi; cases Option.some.inj hj; exact absurd hpq h2
    | 1, 2 => cases Option.some.inj hi; cases Option.some.inj hj; exact absurd hpq.symm h3
    | 2, 1 => cases Option.some.inj hi; cases Option.some.inj hj; exact absurd hpq h3
    | i + 3, _ => cases hi
    | 0, j + 3 => cases hj
    | 1, j + 3 => cases hj
    | 2, j + 3 => cases hj
  · match k with
    | 0 => cases Option.some.inj hk; exact Or.inl (Or.inl rfl)
    | 1 => cases Option.some.inj hk; exact Or.inl (Or.inr rfl)
    | 2 => cases Option.some.inj hk; exact Or.inr rfl
    | k + 3 => cases hk
/-- the end of a method of the law -/
def xWe (r : Nat × Int64 × xS) (D : va_G) (a w o : Nat) (cJ : ClassId) : Option Value → State → State → Prop := fun v _ t => v = some (.int (nI r.1)) ∧ PX D a w cJ r.2.2.1 r.2.2.2.1 r.2.2.2.2 t.heap ∧ ∃ f, xOut D o cJ f t.heap ∧ (r.1 = 0 → f 0 = r.2.1)
abbrev xWr (l : Launch) (y : MethodName) (ws : List Cond) (rm : Room) (As : List Value) (D : va_G) (a w o : Nat) (cJ cZ : ClassId) (β : Nat → Bool) (n q : Nat) (f : Nat → Int64) (r : Nat × Int64 × xS) : Prop :=
  xl_Met l y ws rm (va_Pc As (wL D a w o cJ cZ β n q f)) (xl_Q (xA3 a w o) (xWe r D a w o cJ) (fun _ _ _ => False)) (fun _ => 1) (fun _ => 6) (xA3 a w o)
def xEntry (h : Nat × Nat × Nat × Nat) : ExceptionTableEntry := ⟨h.1, h.2.1, h.2.2.1, h.2.2.2⟩
theorem xWr.of {l : Launch} {y : MethodName} {rm : Room} {As : List Value} {D : va_G} {a w o : Nat} {cJ cZ : ClassId} {β : Nat → Bool} {n q : Nat} {f : Nat → Int64} {r : Nat × Int64 × xS} {cc : ByteArray} {maxL : Nat} {hs : List (Nat × Nat × Nat × Nat)} (hy : plainName y.cls = true)
    (body : ∀ (p : Program) (e : Env) (s : State) (m : MethodId) (args : Array Value) (below : List Frame) (meth : Method) (c : Code), args = As.toArray → CallFix p m c cc maxL s args XT y.cls → meth.sig.returnType = some .int → meth.locks = false → c.exceptionTable.toList = hs.map xEntry → wL D a w o cJ cZ β n q f s →
      W p l e rm s m args below meth c s.heap [] 0 0 (xl_MQ below (xl_Q (xA3 a w o) (xWe r D a w o cJ) (fun _ _ _ => False)) args s (fun _ => 1) (fun _ => 6) (xA3 a w o)) (entryFrame m args maxL)) :
    xWr l y (Cond.codeWith y cc maxL (some .int) hs :: XT) rm As D a w o cJ cZ β n q f r := by
  refine xl_ofW (cc := cc) (maxL := maxL) (ret := some .int) hy (xl_isH rfl) ?_
  intro p e s m args below meth c s₁ B0 hml hv
  obtain ⟨hav, hB⟩ := hv
  have hts := atoms_spec (ws := Cond.codeWith y cc maxL (some .int) hs :: XT) B0.pre
  have htab : c.exceptionTable.toList = hs.map xEntry := by
    obtain ⟨m', meth', c', g0, g1, g2, -, -, g5, -, -, -⟩ := Cond.codeWith_spec (hts _ List.mem_cons_self)
    cases B0.named.symm.trans g0
    cases B0.method.symm.trans g1
    cases (Stand.of_body B0).code.symm.trans g2
    rw [← g5, List.map_map]
    exact (List.map_id' _).symm
  exact body p e s m args below meth c hav ⟨B0.exec, B0.bytes, hml, findClass_of_methodNamed B0.named, fun w hw => hts w (List.mem_cons_of_mem _ hw)⟩ B0.returns B0.notSynchronized htab hB
variable {p : Program} {l : Launch} {e : Env} {R : Room} {s : State} {m : MethodId} {args : Array Value} {below : List Frame} {meth : Method} {c : Code} {H : Heap} {locs : List Loc} {cells slots : Nat} {Q : State → Prop}
variable {cc : ByteArray} {nL : Nat} {own : String} {A : Nat → Prop} {Rt : Option Value → State → State → Prop} {Th : Addr → State → State → Prop} {pc : Nat} {ls : Array Slot} {rest : List Value}
theorem xw_ret {v : Int32} (E : CallFix p m c cc nL s args XT own) (hr : meth.sig.returnType = some .int) (hk : meth.locks = false) (hS : va_S A s.heap H locs) (hc : cells ≤ 1) (hs : slots ≤ 6) (h : ∀ t : State, t.heap = H → s.WarmedH t.vm → Rt (some (.int v)) s t) (hdg : decode cc pc = .ok (.ireturn, 1)) :
    W p l e R s m args below meth c H locs cells slots (xl_MQ below (xl_Q A Rt Th) args s (fun _ => 1) (fun _ => 6) A) (F0 m pc ls [.int v]) :=
  W.widen (k := 1) (n := 6) hc hs (xl_iret E.1 E.2.1 hr hk (fun _ => rfl) (fun _ => rfl) (fun t ht hW => xq_ret (hS.F ht) (h t ht hW)) hS.2.2 hdg)
variable {D : va_G} {a w o : Nat} {cJ cZ : ClassId} {β : Nat → Bool} {n q : Nat} {f : Nat → Int64}
/-- out[0] = x -/
theorem sl_out {x : Int64} (E : CallFix p m c cc nL s args XT own) (hK : va_K D xcl (xty cJ cZ) s) (hP : PX D a w cJ β n q H) (hO : xOut D o cJ f H) (h1 : a ≠ w) (h2 : o ≠ a) (h3 : o ≠ w) (hS : va_S (xA3 a w o) s.heap H locs) (hdg : decode cc pc = .ok (.lastore, 1))
    (kk : ∀ (H1 : Heap) (locs1 : List Loc) (f1 : Nat → Int64), f1 0 = x → PX D a w cJ β n q H1 → xOut D o cJ f1 H1 → va_S (xA3 a w o) s.heap H1 locs1 → W p l e R s m args below meth c H1 locs1 cells slots Q (F0 m (pc + 1) ls rest)) : W p l e R s m args below meth c H locs cells slots Q (F0 m pc ls (.long x :: .int 0 :: .ref o :: rest)) := by
  obtain ⟨g, hg, hP⟩ := hP
  have hP3 : va_P D xcl [(a, .inr (0, [.ref w, .int (nI n), .int (nI q)])), (w, .inl (cJ, 1024, .inr (.inl g))), (o, .inl (cJ, 1, .inr (.inl f)))] H := va_P.app hP hO
  refine va_last E.1 E.2.1 hK hP3 (xD3 h1 h2 h3) hS 2 0 rfl rfl (vp_in_nI (n := 0) (N := 1) (by decide) (by decide)) hdg (fun H1 locs1 hP1 _ hS1 => ?_)
  have hP1 : va_P D xcl [(a, .inr (0, [.ref w, .int (nI n), .int (nI q)])), (w, .inl (cJ, 1024, .inr (.inl g))), (o, .inl (cJ, 1, .inr (.inl (vp_updL f (0 : Int32).toNatClampNeg x))))] H1 := hP1
  exact kk H1 locs1 (vp_updL f (0 : Int32).toNatClampNeg x) (if_pos rfl) ⟨g, hg, hP1.sub [0, 1] rfl⟩ (hP1.sub [2] rfl) hS1
/-- the class threw, and the method of the law catches it: code r.1; nothing is lost -/
theorem xw_catch {r : Nat × Int64 × xS} {E' name : String} {x : Addr} {st t0 : State} (E : CallFix p m c cc nL s args XT R_L) (hal : s.vm.Alike t0.vm) (hst : st.heap = s.heap) (hT : xl_T E' x st.heap t0.heap t0.vm) (hP : PX D a w cJ β n q s.heap) (hO : xOut D o cJ f s.heap) (hr2 : r.2.2 = (β, n, q)) (hr1 : r.1 ≠ 0)
    (pre : List ExceptionTableEntry) (z : ExceptionTableEntry) (suf : List ExceptionTableEntry) (hsplit : c.exceptionTable.toList = pre ++ z :: suf) (hpass : ∀ y ∈ pre, xl_pass R_L E' pc args s y) (hz : covers z pc = true) (h0 : z.catchType ≠ 0) (hlink : Cond.classLink R_L z.catchType name ∈ XT) (hcast : Cond.castable E' name ∈ XT)
    (kk : (∀ (t : State), t.heap = t0.heap → ∀ v : Option Value, v = some (.int (nI r.1)) → xWe r D a w o cJ v s t) → W p l e R s m args below meth c t0.heap locs cells slots Q (F0 m z.handlerPc ls [.ref x])) :
    xl_W p l e R s m args below meth c t0.heap locs cells slots Q (F0 m pc ls rest) x := by
  obtain ⟨h1, h2, ce, h3, h4, h5⟩ := hT
  rw [hst] at h2
  refine xl_catch E.2.2.2.1 pre z suf hsplit hpass hz h0 (E.2.2.2.2 _ hlink) (E.2.2.2.2 _ hcast) h3 h5 (by rw [← hal.findClass]; exact h4) (kk (fun t ht v hv => ⟨hv, ?_, f, ?_, fun z => absurd z hr1⟩))
  · rw [hr2, ht]
    exact hP.ge h2
  · rw [ht]
    exact hO.ge h2
/-- a throw of the law's calls that came back as it should -/
theorem sk_write (σ : xS) (x : Int64) (k cd : Nat) : (sp_write σ x k cd).1 ≠ 0 → (sp_write σ x k cd).2.2 = σ := by
  unfold sp_write
  split <;> simp
theorem sk_put (σ : xS) (x : Int64) (k : Int32) : (sp_put σ x k).1 ≠ 0 → (sp_put σ x k).2.2 = σ := by
  unfold sp_put
  split
  · simp
  · exact sk_write σ _ _ _
theorem sk_putRange (σ : xS) (lo hi x : Int64) : (sp_putRange σ lo hi x).1 ≠ 0 → (sp_putRange σ lo hi x).2.2 = σ := by
  unfold sp_putRange
  split
  · simp
  · exact sk_write σ _ _ _
theorem sk_putLength (σ : xS) (k : Int32) : (sp_putLength σ k).1 ≠ 0 → (sp_putLength σ k).2.2 = σ := by
  unfold sp_putLength
  split
  · simp
  · dsimp only
    split <;> simp
theorem sk_putNumber (σ : xS) (kind : Int32) (x : Int64) : (sp_putNumber σ kind x).1 ≠ 0 → (sp_putNumber σ kind x).2.2 = σ := by
  unfold sp_putNumber
  split
  · simp
  · split
    · exact sk_write σ _ _ _
    · split <;> simp
theorem sk_fill (σ : xS) : (sp_fill σ).1 ≠ 0 → (sp_fill σ).2.2 = σ := sk_write σ _ _ _
theorem sk_take (σ : xS) (k : Int32) : (sp_take σ k).1 ≠ 0 → (sp_take σ k).2.2 = σ := by
  unfold sp_take
  split
  · simp
  · split <;> simp
theorem sk_takeRange (σ : xS) (lo hi : Int64) : (sp_takeRange σ lo hi).1 ≠ 0 → (sp_takeRange σ lo hi).2.2 = σ := by
  unfold sp_takeRange
  split
  · simp
  · split <;> simp
theorem sk_takeLength (σ : xS) : (sp_takeLength σ).1 ≠ 0 → (sp_takeLength σ).2.2 = σ := by
  unfold sp_takeLength
  split <;> simp
theorem sk_takeNumber (σ : xS) (kind : Int32) : (sp_takeNumber σ kind).1 ≠ 0 → (sp_takeNumber σ kind).2.2 = σ := by
  unfold sp_takeNumber
  split
  · simp
  · split <;> simp
theorem sk_go (σ : xS) (k : Int32) : (sp_go σ k).1 ≠ 0 → (sp_go σ k).2.2 = σ := by
  unfold sp_go
  split <;> simp
theorem sk_turn (σ : xS) (k : Int32) : (sp_turn σ k).1 ≠ 0 → (sp_turn σ k).2.2 = σ := by
  unfold sp_turn
  split <;> simp
theorem sk_cut (σ : xS) (k : Int32) : (sp_cut σ k).1 ≠ 0 → (sp_cut σ k).2.2 = σ := by
  unfold sp_cut
  split <;> simp
theorem sk_count (σ : xS) (k : Int32) : (sp_count σ k).1 ≠ 0 → (sp_count σ k).2.2 = σ := by
  unfold sp_count
  split
  · simp
  · split <;> simp
end XWR
section XWS
theorem sn_fill (σ : xS) : (sp_fill σ).1 ≠ 2 := by
  unfold sp_fill sp_write
  split <;> simp
theorem sn_takeLength (σ : xS) : (sp_takeLength σ).1 ≠ 2 := by
  unfold sp_takeLength
  split <;> simp
theorem sn_go (σ : xS) (k : Int32) : (sp_go σ k).1 ≠ 2 := by
  unfold sp_go
  split <;> simp
theorem sn_turn (σ : xS) (k : Int32) : (sp_turn σ k).1 ≠ 2 := by
  unfold sp_turn
  split <;> simp
theorem sn_cut (σ : xS) (k : Int32) : (sp_cut σ k).1 ≠ 2 := by
  unfold sp_cut
  split <;> simp
theorem sn_count (σ : xS) (k : Int32) : (sp_count σ k).1 ≠ 2 := by
  unfold sp_count
  split
  · simp
  · split <;> simp
/-- a turned bit is 0 or 1 -/
theorem sb_turn (σ : xS) (k : Int32) : (sp_turn σ k).2.1 = 0 ∨ (sp_turn σ k).2.1 = 1 := by
  unfold sp_turn
  split
  · exact Or.inl rfl
  · cases σ.1 k.toNatClampNeg
    · exact Or.inr rfl
    · exact Or.inl rfl
theorem xz_bool {σ : xS} {k z : Int32} (hz : z.toInt64 = (sp_turn σ k).2.1) (h : ¬ z = 0) : (1 : Int64) = (sp_turn σ k).2.1 := by
  rcases sb_turn σ k with g | g
  · rw [g] at hz
    refine absurd ?_ h
    rw [← Int32.toInt_inj]
    have h1 := congrArg Int64.toInt hz
    rw [Int32.toInt_toInt64] at h1
    exact h1
  · exact g.symm
end XWS
