/-! Contracts of one form for all methods of the class and of the reference, and their rows. Words of a method: its code, and one list Ts. -/
section XC
/-- nothing old is written -/
def xNA : Nat → Prop := fun _ => False
def xrm (k : Nat) : Room := { frames := 6 + k, cells := 1, slots := 6, locals := 100 + 40 * k }
/-- the contract: arguments As, world B; what it may write A; what holds where it returned, where it threw -/
abbrev xM (l : Launch) (y : MethodName) (ws : List Cond) (rm : Room) (As : List Value) (B : State → Prop) (A : Nat → Prop) (Rt : Option Value → State → State → Prop) (Th : Addr → State → State → Prop) : Prop :=
  xl_Met l y ws rm (va_Pc As B) (xl_Q A Rt Th) (xl_k 0 1) (xl_k 0 6) A
theorem xq_ret {A : Nat → Prop} {Rt : Option Value → State → State → Prop} {Th : Addr → State → State → Prop} {as : Array Value} {st t : State} {v : Option Value} (hF : va_F A st t) (h : Rt v st t) : xl_Q A Rt Th as st (.returned v) t :=
  ⟨hF, fun w hw => by cases hw; exact h, fun x hx => by cases hx⟩
theorem xq_thr {A : Nat → Prop} {Rt : Option Value → State → State → Prop} {Th : Addr → State → State → Prop} {as : Array Value} {st t : State} {x : Addr} (hF : va_F A st t) (h : Th x st t) : xl_Q A Rt Th as st (.threw x) t :=
  ⟨hF, fun w hw => (by cases hw), fun y hy => by cases hy; exact h⟩
theorem xkept_F {A : Nat → Prop} {st t : State} (h1 : st.heap.size ≤ t.heap.size) (h2 : ∀ (q : Nat) (cell : Cell), st.heap[q]? = some cell → t.heap[q]? = some cell) : va_F A st t := by
  refine ⟨h1, fun q hq _ => ?_⟩
  rw [h2 q _ (Array.getElem?_eq_getElem hq)]
  exact (Array.getElem?_eq_getElem hq).symm
/-- the beginning of a contract's proof -/
theorem xM.of {l : Launch} {y : MethodName} {Ts : List Cond} {rm : Room} {As : List Value} {B : State → Prop} {A : Nat → Prop} {Rt : Option Value → State → State → Prop} {Th : Addr → State → State → Prop} {cc : ByteArray} {maxL : Nat} {ret : Option FieldType} (hy : plainName y.cls = true)
    (body : ∀ (p : Program) (e : Env) (s : State) (m : MethodId) (args : Array Value) (below : List Frame) (meth : Method) (c : Code), args = As.toArray → CallFix p m c cc maxL s args Ts y.cls → meth.sig.returnType = ret → meth.locks = false → c.exceptionTable.toList = [] → meth.name = y.name → B s →
      W p l e rm s m args below meth c s.heap [] 0 0 (xl_MQ below (xl_Q A Rt Th) args s (xl_k 0 1) (xl_k 0 6) A) (entryFrame m args maxL)) :
    xM l y (Cond.code y cc maxL ret :: Ts) rm As B A Rt Th := by
  refine xl_ofW (cc := cc) (maxL := maxL) (ret := ret) hy (xl_is rfl) ?_
  intro p e s m args below meth c s₁ B0 hml hv
  obtain ⟨hav, hB⟩ := hv
  have hts := atoms_spec (ws := Cond.code y cc maxL ret :: Ts) B0.pre
  have hemp : c.exceptionTable.toList = [] := by
    have h := B0.noHandlers (hts _ List.mem_cons_self)
    have h0 : c.exceptionTable.size = 0 := by simpa [Array.isEmpty] using h
    exact List.eq_nil_of_length_eq_zero (by simpa using h0)
  exact body p e s m args below meth c hav ⟨B0.exec, B0.bytes, hml, findClass_of_methodNamed B0.named, fun w hw => hts w (List.mem_cons_of_mem _ hw)⟩ B0.returns B0.notSynchronized hemp (name_of_methodNamed B0.named B0.method).1 hB
variable {p : Program} {l : Launch} {e : Env} {R : Room} {s : State} {m : MethodId} {args : Array Value} {below : List Frame} {meth : Method} {c : Code} {H : Heap} {locs : List Loc} {cells slots : Nat} {Q : State → Prop}
variable {cc : ByteArray} {nL : Nat} {Ts : List Cond} {own : String} {A : Nat → Prop} {Rt : Option Value → State → State → Prop} {Th : Addr → State → State → Prop} {pc : Nat} {ls : Array Slot}
theorem xr_iret {v : Int32} (E : CallFix p m c cc nL s args Ts own) (hr : meth.sig.returnType = some .int) (hk : meth.locks = false) (hS : va_S A s.heap H locs) (h : ∀ t : State, t.heap = H → s.WarmedH t.vm → Rt (some (.int v)) s t) (hdg : decode cc pc = .ok (.ireturn, 1)) :
    W p l e R s m args below meth c H locs 0 0 (xl_MQ below (xl_Q A Rt Th) args s (xl_k 0 1) (xl_k 0 6) A) (F0 m pc ls [.int v]) :=
  xl_iret E.1 E.2.1 hr hk (fun _ => rfl) (fun _ => rfl) (fun t ht hW => xq_ret (hS.F ht) (h t ht hW)) hS.2.2 hdg
theorem xr_zret {v : Int32} {ty : FieldType} (E : CallFix p m c cc nL s args Ts own) (hr : meth.sig.returnType = some ty) (hk : meth.locks = false) (hn : narrow ty (.int v) = .int v) (hS : va_S A s.heap H locs) (h : ∀ t : State, t.heap = H → s.WarmedH t.vm → Rt (some (.int v)) s t) (hdg : decode cc pc = .ok (.ireturn, 1)) :
    W p l e R s m args below meth c H locs 0 0 (xl_MQ below (xl_Q A Rt Th) args s (xl_k 0 1) (xl_k 0 6) A) (F0 m pc ls [.int v]) :=
  xl_zret E.1 E.2.1 hr hk hn (fun _ => rfl) (fun _ => rfl) (fun t ht hW => xq_ret (hS.F ht) (h t ht hW)) hS.2.2 hdg
theorem xr_lret {v : Int64} (E : CallFix p m c cc nL s args Ts own) (hr : meth.sig.returnType = some .long) (hk : meth.locks = false) (hS : va_S A s.heap H locs) (h : ∀ t : State, t.heap = H → s.WarmedH t.vm → Rt (some (.long v)) s t) (hdg : decode cc pc = .ok (.lreturn, 1)) :
    W p l e R s m args below meth c H locs 0 0 (xl_MQ below (xl_Q A Rt Th) args s (xl_k 0 1) (xl_k 0 6) A) (F0 m pc ls [.long v]) :=
  xl_lret E.1 E.2.1 hr hk (fun _ => rfl) (fun _ => rfl) (fun t ht hW => xq_ret (hS.F ht) (h t ht hW)) hS.2.2 hdg
theorem xr_vret (E : CallFix p m c cc nL s args Ts own) (hr : meth.sig.returnType = none) (hk : meth.locks = false) (hS : va_S A s.heap H locs) (h : ∀ t : State, t.heap = H → s.WarmedH t.vm → Rt none s t) (hdg : decode cc pc = .ok (.return_, 1)) :
    W p l e R s m args below meth c H locs 0 0 (xl_MQ below (xl_Q A Rt Th) args s (xl_k 0 1) (xl_k 0 6) A) (F0 m pc ls []) :=
  xl_vret E.1 E.2.1 hr hk (fun _ => rfl) (fun _ => rfl) (fun t ht hW => xq_ret (hS.F ht) (h t ht hW)) hS.2.2 hdg
/-- 'throw new E(text)' in a method of the claim's component, nothing written before -/
theorem xr_throw {cls tx : String} {ia ib ic : Nat} (E : CallFix p m c cc nL s args XT R_X) (hL : l.stackTraces = false) (hQ : xq s) (hh : c.exceptionTable.toList = []) (hk : meth.locks = false) (hw : xwT cls tx ia ib ic) (hsz : ls.size = nL)
    (hd0 : decode cc pc = .ok (.new ia, 3)) (hd3 : decode cc (pc + 3) = .ok (.dup, 1)) (hd4 : decode cc (pc + 4) = .ok (.ldc ib, 2)) (hd6 : decode cc (pc + 6) = .ok (.invokespecial ic, 3)) (hd9 : decode cc (pc + 9) = .ok (.athrow, 1))
    (hR : 5 < R.frames ∧ 82 ≤ R.locals ∧ 1 ≤ R.cells ∧ 6 ≤ R.slots) (h : ∀ (x : Addr) (t : State), xl_T cls x s.heap t.heap t.vm → Th x s t) :
    W p l e R s m args below meth c s.heap [] 0 0 (xl_MQ below (xl_Q A Rt Th) args s (xl_k 0 1) (xl_k 0 6) A) (F0 m pc ls []) := by
  obtain ⟨h1, h2, h3, h4, h5⟩ := hw
  have hts := E.2.2.2.2
  have hstr := hts _ h3
  obtain ⟨k, cf, i, q, -, -, -, -, -, hev⟩ := Cond.stringRef_spec (idx := []) E.2.2.2.1 hstr
  refine xl_throw (names := ["java/lang/RuntimeException", "java/lang/Exception"]) E.1 E.2.1 hL E.2.2.2.1 h5 (by decide +kernel) (fun w hw => ?_) (hts _ h1) (hts _ h2) (tx := tx) (q := q) ⟨hstr, hev⟩ (by rw [E.2.2.1]; exact hsz) hd0 hd3 hd4 hd6 hd9 (fun y hy => by rw [hh] at hy; cases hy) hk hR (fun _ => rfl) (fun _ => rfl) (fun x t hT _ => xq_thr (xkept_F hT.1 hT.2.1) (h x t hT))
  rcases h4 w hw with g | g
  · exact hts _ g
  · simp only [xst, List.mem_cons, List.not_mem_nil, or_false] at g
    rcases g with rfl | rfl | rfl | rfl
    · exact vx_isRefq hQ.1.1
    · exact vx_isRefq hQ.2.1
    · exact hQ.1.2.word
    · exact hQ.2.2.word
/-- a callee threw, and it isn't caught here; nothing was written before -/
theorem xr_leave {x : Addr} {stk : List Value} {st t0 : State} {E' : String} (hh : c.exceptionTable.toList = []) (hk : meth.locks = false) (hal : s.vm.Alike t0.vm) (hst : st.heap = s.heap) (h0 : xl_T E' x st.heap t0.heap t0.vm) (h : ∀ t : State, xl_T E' x s.heap t.heap t.vm → Th x s t) :
    xl_W p l e R s m args below meth c t0.heap [] (0 + 1) (0 + 6) (xl_MQ below (xl_Q A Rt Th) args s (xl_k 0 1) (xl_k 0 6) A) (F0 m pc ls stk) x := by
  refine xl_leave (fun y hy => by rw [hh] at hy; cases hy) hk rfl rfl (fun t ht hW => ?_) (fun q hq => by cases hq)
  have hT : xl_T E' x s.heap t.heap t.vm := by
    rw [ht, ← hst]
    exact h0.moved (by rw [hW.alike.findClass, hal.findClass])
  exact xq_thr (xkept_F hT.1 hT.2.1) (h t hT)
/-- .. behind a callee that may write -/
theorem xr_leaveW {x : Addr} {stk : List Value} {st t0 : State} {E' : String} (hh : c.exceptionTable.toList = []) (hk : meth.locks = false) (hal : s.vm.Alike t0.vm) (hst : st.heap = s.heap) (h0 : xl_T E' x st.heap t0.heap t0.vm) (hS : va_S A s.heap t0.heap locs) (h : ∀ t : State, xl_T E' x s.heap t.heap t.vm → Th x s t) :
    xl_W p l e R s m args below meth c t0.heap locs (0 + 1) (0 + 6) (xl_MQ below (xl_Q A Rt Th) args s (xl_k 0 1) (xl_k 0 6) A) (F0 m pc ls stk) x := by
  refine xl_leave (fun y hy => by rw [hh] at hy; cases hy) hk rfl rfl (fun t ht hW => ?_) hS.2.2
  have hT : xl_T E' x s.heap t.heap t.vm := by
    rw [ht, ← hst]
    exact h0.moved (by rw [hW.alike.findClass, hal.findClass])
  exact xq_thr (xkept_F hT.1 hT.2.1) (h t hT)
/-- the words that a call of a static method asks, of one list -/
def xwS (Ts : List Cond) (own : String) (index : Nat) (y : MethodName) (cc : ByteArray) (maxL : Nat) (ret : Option FieldType) (n : Nat) : Prop :=
  (y.cls ≠ "java/lang/invoke/MethodHandle" ∧ y.cls ≠ "java/lang/invoke/VarHandle" ∧ (parseMethodDescriptor y.desc).map (fun d => d.parameters.length) = some n) ∧ Cond.code y cc maxL ret ∈ Ts ∧ Cond.initialized y.cls ∈ Ts ∧ Cond.methodLink own index y ∈ Ts ∧ Cond.static y ∈ Ts
/-- .. of a method of an object -/
def xwV (Ts : List Cond) (own : String) (index : Nat) (y : MethodName) (cc : ByteArray) (maxL : Nat) (ret : Option FieldType) (n : Nat) : Prop :=
  (y.cls ≠ "java/lang/invoke/MethodHandle" ∧ y.cls ≠ "java/lang/invoke/VarHandle" ∧ (parseMethodDescriptor y.desc).map (fun d => d.parameters.length) = some n) ∧ Cond.code y cc maxL ret ∈ Ts ∧ Cond.initialized y.cls ∈ Ts ∧ Cond.methodLink own index y ∈ Ts ∧ Cond.instanceMethod y ∈ Ts ∧ Cond.selects y.cls y y ∈ Ts
def xGood (Ts : List Cond) : Prop := ∀ w ∈ Ts, xG w = true
theorem xGT : xGood XT := xT_good
theorem xpaid {y : MethodName} {cc' : ByteArray} {maxL : Nat} {ret : Option FieldType} (hG : xGood Ts) (hts : ∀ w ∈ Ts, w.before args s = true) (hc : Cond.code y cc' maxL ret ∈ Ts) : ∀ w ∈ (Cond.code y cc' maxL ret :: Ts), ∀ (a' : Array Value) (U : State), s.WarmedH U.vm → w.before a' U = true := by
  intro w hw a' U hW
  have hw' : w ∈ Ts := by
    rcases List.mem_cons.mp hw with rfl | h
    · exact hc
    · exact h
  exact xG_at hW (hG w hw') (hts w hw')
variable {y : MethodName} {cc' : ByteArray} {maxL n index : Nat} {ret : Option FieldType} {rm : Room} {As rest st0 : List Value} {B : State → Prop} {A1 : Nat → Prop} {Rt1 : Option Value → State → State → Prop} {Th1 : Addr → State → State → Prop} {b : Addr}
theorem xc_S (E : CallFix p m c cc nL s args Ts own) (hG : xGood Ts) (hM : xM l y (Cond.code y cc' maxL ret :: Ts) rm As B A1 Rt1 Th1) (hw : xwS Ts own index y cc' maxL ret n) (hR : rm.frames + 1 ≤ R.frames ∧ 8 + (maxL + 11) + rm.locals ≤ R.locals ∧ cells + rm.cells ≤ R.cells ∧ slots + rm.slots ≤ R.slots)
    (hB : (∀ U : State, U.heap = H → s.WarmedH U.vm → B U) ∧ ∀ (U : State) (g : JFrame) (mk : MethodId) (a : Array Value), B U → B (U.calling g mk a)) (hn : As.length = n) (hsize : ls.size = nL) (hstack : st0 = As.reverse ++ rest) (hW : (rest.map fun v => v.category).sum ≤ 8) (hdg : decode cc pc = .ok (.invokestatic index, 3)) :
    xl_Run p l e R s m args below meth c H locs cells slots (xl_k 0 1) (xl_k 0 6) (F0 m pc ls st0) rest (xl_Q A1 Rt1 Th1 As.toArray) A1 := by
  obtain ⟨⟨h1, h2, h3⟩, h4, h5, h6, h7⟩ := hw
  have hts := E.2.2.2.2
  exact xl_runS E hM ⟨hR.1, hR.2.1⟩ (xpaid hG hts h4) (hts _ h5) ⟨h1, h2⟩ (xl_C.code (hts _ h4) h3) (hts _ h6) (hts _ h7) ⟨fun a U g mk h => ⟨h.1, hB.2 U g mk a h.2⟩, fun U hU hW => ⟨rfl, hB.1 U hU hW⟩⟩ rfl hn hsize hstack (lv_room hW) hdg ⟨hR.2.2.1, hR.2.2.2⟩
theorem xc_V (E : CallFix p m c cc nL s args Ts own) (hG : xGood Ts) (hM : xM l y (Cond.code y cc' maxL ret :: Ts) rm (.ref b :: As) B A1 Rt1 Th1) (hw : xwV Ts own index y cc' maxL ret n) (hR : rm.frames + 1 ≤ R.frames ∧ 8 + (maxL + 11) + rm.locals ≤ R.locals ∧ cells + rm.cells ≤ R.cells ∧ slots + rm.slots ≤ R.slots)
    (hB : (∀ U : State, U.heap = H → s.WarmedH U.vm → B U) ∧ ∀ (U : State) (g : JFrame) (mk : MethodId) (a : Array Value), B U → B (U.calling g mk a)) (hb : ∃ cell : Cell, H[b]? = some cell ∧ cell.vm.isStatics = false ∧ s.vm.findClass y.cls = some cell.cls) (hn : As.length = n) (hsize : ls.size = nL) (hstack : st0 = As.reverse ++ .ref b :: rest) (hW : (rest.map fun v => v.category).sum ≤ 8) (hdg : decode cc pc = .ok (.invokevirtual index, 3)) :
    xl_Run p l e R s m args below meth c H locs cells slots (xl_k 0 1) (xl_k 0 6) (F0 m pc ls st0) rest (xl_Q A1 Rt1 Th1 (Value.ref b :: As).toArray) A1 := by
  obtain ⟨⟨h1, h2, h3⟩, h4, h5, h6, h7, h8⟩ := hw
  have hts := E.2.2.2.2
  exact xl_runV E hM ⟨hR.1, hR.2.1⟩ (xpaid hG hts h4) (hts _ h5) ⟨h1, h2⟩ (xl_C.code (hts _ h4) h3) (hts _ h6) (hts _ h7) (hts _ h8) ⟨fun a U g mk h => ⟨h.1, hB.2 U g mk a h.2⟩, hb, fun U hU hW => ⟨rfl, hB.1 U hU hW⟩⟩ rfl hn hsize hstack (lv_room hW) hdg ⟨hR.2.2.1, hR.2.2.2⟩
theorem xg_goes {a : Array Value} {A0 : Nat → Prop} {H0 : Heap} {free : Addr → Prop} (hr : xl_Run p l e R s m args below meth c H locs cells slots (xl_k 0 1) (xl_k 0 6) (F0 m pc ls st0) rest (xl_Q A1 Rt1 Th1 a) free) (hS : va_S A0 H0 H locs) (hA : ∀ q, q < H.size → A1 q → A0 q) (hf : ∀ q, free q → A0 q)
    (kr : ∀ (v : Option Value) (st t : State) (locs1 : List Loc), st.heap = H → s.vm.Alike t.vm → Rt1 v st t → va_S A0 H0 t.heap locs1 → H.size ≤ t.heap.size → (∀ q : Nat, q < H.size → ¬ A1 q → t.heap[q]? = H[q]?) → W p l e R s m args below meth c t.heap locs1 cells slots Q (F0 m (pc + 3) ls (v.toList ++ rest)))
    (kt : ∀ (x : Addr) (st t : State) (locs1 : List Loc), st.heap = H → s.vm.Alike t.vm → Th1 x st t → va_S A0 H0 t.heap locs1 → H.size ≤ t.heap.size → (∀ q : Nat, q < H.size → ¬ A1 q → t.heap[q]? = H[q]?) → xl_W p l e R s m args below meth c t.heap locs1 (cells + 1) (slots + 6) Q (F0 m pc ls rest) x) :
    W p l e R s m args below meth c H locs cells slots Q (F0 m pc ls st0) := xl_goes hr hS hA hf kr kt
theorem xg_looks {a : Array Value} (hr : xl_Run p l e R s m args below meth c H locs cells slots (xl_k 0 1) (xl_k 0 6) (F0 m pc ls st0) rest (xl_Q A1 Rt1 Th1 a) xNA) (hp : ∀ v st t, Rt1 v st t → t.heap = st.heap)
    (kr : ∀ (v : Option Value) (st t : State), st.heap = H → s.vm.Alike t.vm → Rt1 v st t → W p l e R s m args below meth c H locs cells slots Q (F0 m (pc + 3) ls (v.toList ++ rest)))
    (kt : ∀ (x : Addr) (st t : State), st.heap = H → s.vm.Alike t.vm → Th1 x st t → H.size ≤ t.heap.size → xl_W p l e R s m args below meth c t.heap locs (cells + 1) (slots + 6) Q (F0 m pc ls rest) x) :
    W p l e R s m args below meth c H locs cells slots Q (F0 m pc ls st0) := xl_looks hr hp kr kt
end XC
