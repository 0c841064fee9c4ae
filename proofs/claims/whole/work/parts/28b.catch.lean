/-! A throw that is caught: the row of the handler, the rows ahead of it passed by. -/
section XLK
variable {p : Program} {l : Launch} {e : Env} {R : Room} {s : State} {m : MethodId} {args : Array Value} {below : List Frame} {meth : Method} {c : Code} {H : Heap} {locs : List Loc} {cells slots : Nat} {Q : State → Prop}
/-- how a row of the handlers' table lets an object of class E pass -/
def xl_pass (own E : String) (pc : Nat) (args : Array Value) (s : State) (z : ExceptionTableEntry) : Prop := covers z pc = false ∨ (z.catchType ≠ 0 ∧ ∃ nm : String, (Cond.classLink own z.catchType nm).before args s = true ∧ va_Nc E nm s)
theorem xl_catch {own E name : String} {x : Addr} {pc : Nat} {ls : Array Slot} {rest : List Value} (hown : s.vm.findClass own = some m.cls) (pre : List ExceptionTableEntry) (z : ExceptionTableEntry) (suf : List ExceptionTableEntry) (hsplit : c.exceptionTable.toList = pre ++ z :: suf)
    (hpass : ∀ y ∈ pre, xl_pass own E pc args s y) (hz : covers z pc = true) (h0 : z.catchType ≠ 0) (hlink : (Cond.classLink own z.catchType name).before args s = true) (hcast : (Cond.castable E name).before args s = true)
    {ce : Cell} (hcell : H[x]? = some ce) (hv : ce.vm = .none) (hcl : s.vm.findClass E = some ce.cls)
    (kk : W p l e R s m args below meth c H locs cells slots Q (F0 m z.handlerPc ls [.ref x])) : xl_W p l e R s m args below meth c H locs cells slots Q (F0 m pc ls rest) x := by
  intro T hT X
  have hpl : e.platform.magicAccessors = ({} : Platform).magicAccessors := by rw [X.admits.platform]
  obtain ⟨cE, cT, hE, hTn, hasg⟩ := Cond.castable_spec hcast
  cases hE.symm.trans hcl
  obtain ⟨cL, hL, hlinks⟩ := Cond.classLink_spec hown hlink e.platform hpl
  cases hTn.symm.trans hL
  have hk0 : ∃ k, s.vm.classes[ce.cls]? = some k := by
    obtain ⟨k, hk, -⟩ := Vm.findClass_spec hcl
    exact ⟨k, hk⟩
  obtain ⟨vm', X', st⟩ := X.thenCaughtThrough x (g := F0 m pc ls rest) rfl (Steps.refl _) (by rw [hT]; exact hcell) (by rw [hv]; rfl) hk0 pre z suf hsplit
    (fun y hy => by
      rcases hpass y hy with g | ⟨g0, nm, g1, c1, c2, g2, g3, g4⟩
      · exact Or.inl g
      · obtain ⟨cN, hN, hlN⟩ := Cond.classLink_spec hown g1 e.platform hpl
        cases g2.symm.trans hcl
        cases g3.symm.trans hN
        exact Or.inr ⟨g0, _, hlN, g4⟩) hz (Or.inr ⟨h0, _, hlinks, hasg⟩)
  obtain ⟨t, a1, b1⟩ := kk (T.setVm vm') hT X'
  exact ⟨t, st.trans a1, b1⟩
end XLK
