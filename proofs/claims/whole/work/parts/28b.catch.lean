/-! A throw that is caught: the search through the handlers' rows, the step into the handler, the row over W. -/
section XLK
/-- the rows ahead let it pass, the row z takes it; each row that is asked leaves a note in the tables -/
theorem xl_search {e : Env} {s₀ : State} {f : JFrame} {a : Addr} {cell : Cell} (hobj : ∀ k, cell.vm ≠ .statics k) (hk0 : ∃ k, s₀.vm.classes[cell.cls]? = some k) (z : ExceptionTableEntry) (suf : List ExceptionTableEntry) (hz : covers z f.pc = true) (h0 : z.catchType ≠ 0) {cT : ClassId} (hl : s₀.vm.ClassLinks e.platform f.method.cls z.catchType cT) (hfit : s₀.vm.assignable cell.cls cT = true) :
    ∀ (pre : List ExceptionTableEntry) (S : State), s₀.WarmedH S.vm → S.heap[a]? = some cell → (∀ y ∈ pre, covers y f.pc = false ∨ (y.catchType ≠ 0 ∧ ∃ cN : ClassId, s₀.vm.ClassLinks e.platform f.method.cls y.catchType cN ∧ s₀.vm.assignable cell.cls cN = false)) →
      ∃ vm' : Vm, s₀.WarmedH vm' ∧ ∀ (Q : Handler → Pre) (E : CtlPost) (d : Bool) (acts : List Action), wp (findHandler.go f a (pre ++ z :: suf)) Q E e d acts S ↔ Q (.found z.handlerPc) d acts (S.setVm vm') := by
  obtain ⟨k0, hk0⟩ := hk0
  have here : ∀ (y : ExceptionTableEntry) (cN : ClassId) (S : State), s₀.WarmedH S.vm → s₀.vm.ClassLinks e.platform f.method.cls y.catchType cN → s₀.WarmedH (S.vm.noted f.method.cls y.catchType (.cls cN)) ∧ (∃ k, S.vm.classes[cell.cls]? = some k) ∧ ∃ k, S.vm.classes[cN]? = some k := by
    intro y cN S hW hy
    obtain ⟨k1, h1, -⟩ := hW.alike.2.2 _ _ hk0
    obtain ⟨dk, _, _, kt, hd, _, _, _, _, hkt, _, hopen⟩ := hy.here
    obtain ⟨k2, h2, -⟩ := hW.alike.2.2 _ _ hkt
    exact ⟨hW.noted hd hopen (State.rightAt_cls hy), ⟨k1, h1⟩, k2, h2⟩
  intro pre
  induction pre with
  | nil =>
    intro S hW hcell _
    obtain ⟨g1, g2, g3⟩ := here z cT S hW hl
    refine ⟨_, g1, fun Q E d acts => ?_⟩
    rw [List.nil_append, xl_go hz h0 (hW.classLinks hl) hcell hobj g2 g3, if_pos (by rw [hW.alike.assignable]; exact hfit)]
  | cons y ys ih =>
    intro S hW hcell hpass
    have hrest := fun q hq => hpass q (List.mem_cons_of_mem _ hq)
    rcases Bool.eq_false_or_eq_true (covers y f.pc) with hc | hc
    · rcases hpass y List.mem_cons_self with h | ⟨hy0, cN, hy, hno⟩
      · rw [h] at hc
        cases hc
      · obtain ⟨g1, g2, g3⟩ := here y cN S hW hy
        obtain ⟨vm', hW', hq⟩ := ih (S.setVm (S.vm.noted f.method.cls y.catchType (.cls cN))) g1 hcell hrest
        refine ⟨vm', hW', fun Q E d acts => ?_⟩
        rw [List.cons_append, xl_go hc hy0 (hW.classLinks hy) hcell hobj g2 g3, if_neg (by rw [hW.alike.assignable, hno]; decide)]
        exact hq Q E d acts
    · obtain ⟨vm', hW', hq⟩ := ih S hW hcell hrest
      refine ⟨vm', hW', fun Q E d acts => ?_⟩
      rw [List.cons_append, Jvm.W.findHandler_go_skip hc]
      exact hq Q E d acts
/-- the step into the handler -/
theorem xl_into {tb : Tables} {e : Env} {s target : State} {g : JFrame} {c : Code} {below : List Frame} {a : Addr} (h : At s g.method c below) {pc : Nat} {vm' : Vm} (hfind : xl_Finds e ((s.setTop g).pushFrame (.throwing a)) g a (.found pc) vm') (hrest : Steps tb e below ((s.setVm vm').setTop { g with pc := pc, stack := [.ref a] }) target) :
    Steps tb e below ((s.setTop g).pushFrame (.throwing a)) target := by
  have hstep : ∀ (S : State) (r : List Frame), xl_Finds e S g a (.found pc) vm' → (stepThrowing e S a (.java g :: r)).Is ((S.setVm vm').setFrames (.java { g with pc := pc, stack := [.ref a] } :: r)) [] := by
    intro S r hf
    simp only [stepThrowing, searchFrame, vmDo]
    generalize hr : Sem.go _ e false [] S = res
    obtain ⟨as, rfl, ha⟩ := Sem.eq_ok_of hr (a := Handler.found pc) (s' := S.setVm vm') (acts' := []) (by simp [hf _ _ _ _])
    exact ⟨rfl, ha⟩
  have hswap : ∀ (u : State) (F G : List Frame), ((u.setFrames F).setVm vm').setFrames G = (u.setVm vm').setFrames G := fun u F G => by
    rw [show (u.setFrames F).setVm vm' = (u.setVm vm').setFrames F from rfl, State.setFrames_setFrames]
  obtain ⟨hgo, hw⟩ := h.throwing a
  refine Steps.head hgo hw ?_
  rw [stepThread_throwing (frames_entered h.top _), (hstep _ _ hfind).1]
  obtain ⟨g₀, hg⟩ := Option.isSome_iff_exists.mp h.top
  obtain ⟨r, hr⟩ := State.topJava?_eq_some.mp hg
  have hr' : (s.setVm vm').frames = .java g₀ :: r := hr
  rw [State.setTop_of_frames _ hr'] at hrest
  rw [hr, List.tail_cons, State.pushFrame, hswap, State.setTop_of_frames _ hr, hswap]
  exact hrest
variable {p : Program} {l : Launch} {e : Env} {R : Room} {s : State} {m : MethodId} {args : Array Value} {below : List Frame} {meth : Method} {c : Code} {H : Heap} {locs : List Loc} {cells slots : Nat} {Q : State → Prop}
/-- how a row of the handlers' table lets an object of class E pass -/
def xl_pass (own E : String) (pc : Nat) (args : Array Value) (s : State) (z : ExceptionTableEntry) : Prop := covers z pc = false ∨ (z.catchType ≠ 0 ∧ ∃ nm : String, (Cond.classLink own z.catchType nm).before args s = true ∧ va_Nc E nm s)
theorem xl_catch {own E name : String} {x : Addr} {pc : Nat} {ls : Array Slot} {rest : List Value} (hown : s.vm.findClass own = some m.cls) (pre : List ExceptionTableEntry) (z : ExceptionTableEntry) (suf : List ExceptionTableEntry) (hsplit : c.exceptionTable.toList = pre ++ z :: suf)
    (hpass : ∀ y ∈ pre, xl_pass own E pc args s y) (hz : covers z pc = true) (h0 : z.catchType ≠ 0) (hlink : (Cond.classLink own z.catchType name).before args s = true) (hcast : (Cond.castable E name).before args s = true)
    {ce : Cell} (hcell : H[x]? = some ce) (hv : ce.vm = .none) (hcl : s.vm.findClass E = some ce.cls)
    (kk : W p l e R s m args below meth c H locs cells slots Q (F0 m z.handlerPc ls [.ref x])) : xl_W p l e R s m args below meth c H locs cells slots Q (F0 m pc ls rest) x := by
  intro T hT X
  have hpl : e.platform.magicAccessors = ({} : Platform).magicAccessors := by rw [X.admits.platform]
  obtain ⟨cE, cT, hE, hTn, hasg⟩ := Cond.castable_spec hcast
  cases hE.symm.trans hcl
  obtain ⟨cL, hL, hlinks⟩ := Cond.classLink_spec hown hlink e.platform hpl
  cases hTn.symm.trans hL
  have hk0 : ∃ k, s.vm.classes[ce.cls]? = some k := by
    obtain ⟨k, hk, -⟩ := Vm.findClass_spec hcl
    exact ⟨k, hk⟩
  have hS : ((T.setTop (F0 m pc ls rest)).pushFrame (.throwing x)).heap[x]? = some ce := by
    show T.heap[x]? = some ce
    rw [hT]
    exact hcell
  obtain ⟨vm', hW', hq⟩ := xl_search (e := e) (f := F0 m pc ls rest) (a := x) (fun k g => by rw [hv] at g; cases g) hk0 z suf hz h0 hlinks hasg pre ((T.setTop (F0 m pc ls rest)).pushFrame (.throwing x)) X.warmed hS
    (fun y hy => by
      rcases hpass y hy with g | ⟨g0, nm, g1, c1, c2, g2, g3, g4⟩
      · exact Or.inl g
      · obtain ⟨cN, hN, hlN⟩ := Cond.classLink_spec hown g1 e.platform hpl
        cases g2.symm.trans hcl
        cases g3.symm.trans hN
        exact Or.inr ⟨g0, _, hlN, g4⟩)
  have hfind : xl_Finds e ((T.setTop (F0 m pc ls rest)).pushFrame (.throwing x)) (F0 m pc ls rest) x (.found z.handlerPc) vm' := by
    intro Q E d acts
    rw [Jvm.W.findHandler_eq (meth := meth) (code := c) X.method' X.code, hsplit]
    exact hq Q E d acts
  obtain ⟨t, a1, b1⟩ := kk (T.setVm vm') hT (X.noted hW')
  exact ⟨t, xl_into (g := F0 m pc ls rest) X.here hfind a1, b1⟩
end XLK
