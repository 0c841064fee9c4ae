/-! 'throw new E(text)' and 'catch': rows over W. -/
section XLT
variable {p : Program} {l : Launch} {e : Env} {R : Room} {s : State} {m : MethodId} {args : Array Value} {below : List Frame} {meth : Method} {c : Code} {H : Heap} {locs : List Loc} {cells slots : Nat} {Q : State → Prop}
/-- what flies: an object x of the class E; what was there is there as it was -/
def xl_T (E : String) (x : Addr) (H0 H : Heap) (vm : Vm) : Prop := H0.size ≤ H.size ∧ (∀ (q : Nat) (cell : Cell), H0[q]? = some cell → H[q]? = some cell) ∧ ∃ ce : Cell, H[x]? = some ce ∧ vm.findClass E = some ce.cls ∧ ce.vm = .none
theorem xl_T.moved {E : String} {x : Addr} {H0 H1 : Heap} {u v : Vm} (h : xl_T E x H0 H1 u) (hv : v.findClass E = u.findClass E) : xl_T E x H0 H1 v := by
  obtain ⟨h1, h2, ce, h3, h4, h5⟩ := h
  exact ⟨h1, h2, ce, h3, hv.trans h4, h5⟩
set_option maxHeartbeats 2000000 in
theorem xl_throw {cc : ByteArray} {Qc : Array Value → State → Outcome → State → Prop} {kc ks : Outcome → Nat} {free : Addr → Prop} (hx : p.tables.exec = Jvm.exec) (hb : c.code = cc) (hl : l.stackTraces = false) {own cls tx : String} {names : List String} {ia ib ic q : Nat} (hown : s.vm.findClass own = some m.cls) (hcls : Bundle.fit cls = true) (hnames : ∀ n ∈ names, Bundle.fit n = true)
    (h : ∀ a ∈ Bundle.ownAtoms own ic cls names, a.before args s = true) (hcl : (Cond.classLink own ia cls).before args s = true) (hini : (Cond.initialized cls).before args s = true) (hZ : vk_R own ib tx q s)
    {pc : Nat} {ls : Array Slot} (hsz : ls.size = c.maxLocals)
    (hd0 : decode cc pc = .ok (.new ia, 3)) (hd3 : decode cc (pc + 3) = .ok (.dup, 1)) (hd4 : decode cc (pc + 4) = .ok (.ldc ib, 2)) (hd6 : decode cc (pc + 6) = .ok (.invokespecial ic, 3)) (hd9 : decode cc (pc + 9) = .ok (.athrow, 1))
    (hout : ∀ y ∈ c.exceptionTable.toList, covers y (pc + 9) = false) (hlocks : meth.locks = false)
    (hR : names.length + 3 < R.frames ∧ 1 + (13 * (names.length + 1) + 42) ≤ R.locals ∧ 1 ≤ R.cells ∧ 6 ≤ R.slots) (hk : ∀ x, kc (.threw x) = 1) (hs : ∀ x, ks (.threw x) = 6)
    (hq : ∀ (x : Addr) (t : State), xl_T cls x s.heap t.heap t.vm → s.heap.size ≤ x → Qc args s (.threw x) t) :
    W p l e R s m args below meth c s.heap [] 0 0 (xl_MQ below Qc args s kc ks free) (F0 m pc ls []) := by
  refine W.newc hx hb hown hcl (h (.instantiable cls 6) (by simp [Bundle.ownAtoms])) hini (g := F0 m pc ls []) rfl hd0 (by omega) (by omega) (fun cX kX h1 h2 _ _ => ?_)
  refine W.eq (g2 := F0 m (pc + 3) ls [.ref s.heap.size]) rfl ?_
  refine lv_dup hx hb hd3 rfl ?_
  refine va_ldcS hx hb hown hZ hd4 ?_
  intro T hT X
  have hcell : T.heap[s.heap.size]? = some (freshCell cX kX) := by rw [hT]; exact Array.getElem?_push_size
  have hl2 : 2 * (F0 m (pc + 6) ls [.ref q, .ref s.heap.size, .ref s.heap.size]).monitorRoom + ((Value.ref s.heap.size :: ([] : List Value)).map fun v => v.category).sum + (13 * (names.length + 1) + 42) ≤ R.locals := hR.2.1
  obtain ⟨U, st, hrun, hend, hW, hsame, ce, hce, hoc⟩ := X.ctorThrowS hx (by rw [X.admits.platform]; exact hl) hown hcls hnames h (fun x hx => by cases hx) h1 h2 hcell (Nat.le_refl _) (msg := .ref q) rfl
    (g := F0 m (pc + 6) ls [.ref q, .ref s.heap.size, .ref s.heap.size]) rfl hsz rfl rfl (rest := []) rfl (by rw [hb]; exact hd6) (by rw [hb]; exact hd9) hout hR.1 hl2 hlocks
  refine ⟨U, st, .threw s.heap.size, hrun, hend, hq _ _ ⟨hsame.2.1, fun q cell hc => hsame.old_cell hc, ce, hce, ?_, hoc.vm⟩ (Nat.le_refl _), [], ⟨hW, by rw [hk, hs]; exact hsame⟩, fun q hq => by cases hq⟩
  rw [hW.alike.findClass]
  exact hoc.cls
end XLT
section XLF
/-- the search for a handler, and the tables that it leaves -/
def xl_Finds (e : Env) (s : State) (f : JFrame) (a : Addr) (h : Handler) (vm' : Vm) : Prop :=
  ∀ (Q : Handler → Pre) (E : CtlPost) (d : Bool) (acts : List Action), wp (findHandler f a) Q E e d acts s ↔ Q h d acts (s.setVm vm')
theorem xl_go {Q : Handler → Pre} {E : CtlPost} {e : Env} {d : Bool} {acts : List Action} {s : State} {f : JFrame} {a : Addr} {x : ExceptionTableEntry} {t : List ExceptionTableEntry} {c : ClassId} {cell : Cell} (hx : covers x f.pc = true) (h0 : x.catchType ≠ 0)
    (hl : s.vm.ClassLinks e.platform f.method.cls x.catchType c) (hcell : s.heap[a]? = some cell) (hobj : ∀ k, cell.vm ≠ .statics k) (hk : ∃ k, s.vm.classes[cell.cls]? = some k) (hc : ∃ k, s.vm.classes[c]? = some k) :
    wp (findHandler.go f a (x :: t)) Q E e d acts s ↔ if s.vm.assignable cell.cls c = true then Q (.found x.handlerPc) d acts (s.setVm (s.vm.noted f.method.cls x.catchType (.cls c))) else wp (findHandler.go f a t) Q E e d acts (s.setVm (s.vm.noted f.method.cls x.catchType (.cls c))) := by
  simp only [covers] at hx
  obtain ⟨ha, ht⟩ := (resolveClass_links e.toSetting hl).op (op := VmOp.resolveClass f.method.cls x.catchType) rfl
  have hal : s.vm.Alike (s.vm.noted f.method.cls x.catchType (.cls c)) := (Vm.Alike.refl s.vm).noted _ _ _
  obtain ⟨k1, hk1⟩ := hk
  obtain ⟨k2, hk2⟩ := hc
  obtain ⟨k1', hk1', -⟩ := hal.2.2 _ _ hk1
  obtain ⟨k2', hk2', -⟩ := hal.2.2 _ _ hk2
  have hfit' : (s.vm.noted f.method.cls x.catchType (.cls c)).assignable cell.cls c = s.vm.assignable cell.cls c := by rw [hal.assignable]
  cases hfit : s.vm.assignable cell.cls c <;> rw [hfit] at hfit' <;>
    simp [findHandler.go, hx, h0, ha, ht, hcell, hobj, hk1', hk2', hfit', VmOp.dirties, VmOp.acts]
end XLF
