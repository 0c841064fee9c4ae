/-! The worlds: an object of the class with its row of longs; the reference with its row of booleans. -/
section XWa
abbrev xcl : List vw_C := [(R_X, F_X, 3), (R_M, F_M, 6)]
abbrev xty (cJ cZ : ClassId) : List (ClassId × FieldType) := [(cJ, .long), (cZ, .boolean)]
/-- two places -/
def xA2 (a b : Nat) : Nat → Prop := fun q => q = a ∨ q = b
theorem xD2 {a b : Nat} (h : a ≠ b) {e1 e2 : va_E} : va_D (xA2 a b) [(a, e1), (b, e2)] := by
  refine ⟨fun i j p q hi hj hpq => ?_, fun k q hk => ?_⟩
  · match i, j with
    | 0, 0 => rfl
    | 0, 1 =>
      cases Option.some.inj hi
      cases Option.some.inj hj
      exact absurd hpq h
    | 1, 0 =>
      cases Option.some.inj hi
      cases Option.some.inj hj
      exact absurd hpq.symm h
    | 1, 1 => rfl
    | i + 2, _ => cases hi
    | 0, j + 2 => cases hj
    | 1, j + 2 => cases hj
  · match k with
    | 0 =>
      cases Option.some.inj hk
      exact Or.inl rfl
    | 1 =>
      cases Option.some.inj hk
      exact Or.inr rfl
    | k + 2 => cases hk
abbrev xqX (a w : Nat) (cJ : ClassId) (f : Nat → Int64) (n q : Nat) : va_W := [(a, .inr (0, [.ref w, .int (nI n), .int (nI q)])), (w, .inl (cJ, 1024, .inr (.inl f)))]
/-- the object at a, its longs at w: the row β of n bits, the place q -/
def PX (D : va_G) (a w : Nat) (cJ : ClassId) (β : Nat → Bool) (n q : Nat) (H : Heap) : Prop := ∃ f : Nat → Int64, xw f = β ∧ va_P D xcl (xqX a w cJ f n q) H
/-- .. and what the tables say -/
def wX (D : va_G) (a w : Nat) (cJ cZ : ClassId) (β : Nat → Bool) (n q : Nat) (U : State) : Prop := PX D a w cJ β n q U.heap ∧ va_K D xcl (xty cJ cZ) U
theorem PX.kept {D : va_G} {a w : Nat} {cJ : ClassId} {β : Nat → Bool} {n q : Nat} {H H1 : Heap} (h : PX D a w cJ β n q H) (ha : H1[a]? = H[a]?) (hw : H1[w]? = H[w]?) : PX D a w cJ β n q H1 := by
  obtain ⟨f, hf, hP⟩ := h
  refine ⟨f, hf, hP.kept (fun k z hk => ?_)⟩
  match k with
  | 0 => cases Option.some.inj hk; exact ha
  | 1 => cases Option.some.inj hk; exact hw
  | k + 2 => cases hk
theorem PX.ge {D : va_G} {a w : Nat} {cJ : ClassId} {β : Nat → Bool} {n q : Nat} {H H1 : Heap} (h : PX D a w cJ β n q H) (hk : ∀ (z : Nat) (cell : Cell), H[z]? = some cell → H1[z]? = some cell) : PX D a w cJ β n q H1 := by
  obtain ⟨f, hf, hP⟩ := h
  have hl : ∀ (k : Nat) (z : Nat × va_E), (xqX a w cJ f n q)[k]? = some z → H1[z.1]? = H[z.1]? := fun k z hz => by
    have hlt := (hP k z hz).lt
    rw [hk z.1 _ (Array.getElem?_eq_getElem hlt), Array.getElem?_eq_getElem hlt]
  exact ⟨f, hf, hP.kept hl⟩
theorem wX.call {D : va_G} {a w : Nat} {cJ cZ : ClassId} {β : Nat → Bool} {n q : Nat} {s : State} {H : Heap} (hP : PX D a w cJ β n q H) (hK : va_K D xcl (xty cJ cZ) s) :
    (∀ U : State, U.heap = H → s.WarmedH U.vm → wX D a w cJ cZ β n q U) ∧ ∀ (U : State) (g : JFrame) (mk : MethodId) (z : Array Value), wX D a w cJ cZ β n q U → wX D a w cJ cZ β n q (U.calling g mk z) :=
  ⟨fun U hU hW => ⟨by rw [hU]; exact hP, va_K.moved hW.alike hK⟩, fun U g mk z h => ⟨h.1, va_K.moved (u := U) (U := U.calling g mk z) (Vm.Alike.refl U.vm) h.2⟩⟩
/-- .. and what a throw looks at -/
def wXt (D : va_G) (a w : Nat) (cJ cZ : ClassId) (β : Nat → Bool) (n q : Nat) (U : State) : Prop := wX D a w cJ cZ β n q U ∧ xq U
theorem wXt.call {D : va_G} {a w : Nat} {cJ cZ : ClassId} {β : Nat → Bool} {n q : Nat} {s : State} (hP : PX D a w cJ β n q s.heap) (hK : va_K D xcl (xty cJ cZ) s) (hQ : xq s) :
    (∀ U : State, U.heap = s.heap → s.WarmedH U.vm → wXt D a w cJ cZ β n q U) ∧ ∀ (U : State) (g : JFrame) (mk : MethodId) (z : Array Value), wXt D a w cJ cZ β n q U → wXt D a w cJ cZ β n q (U.calling g mk z) :=
  ⟨fun U hU hW => ⟨(wX.call hP hK).1 U hU hW, (xQc hQ).1 U hU hW⟩, fun U g mk z h => ⟨(wX.call hP hK).2 U g mk z h.1, (xQc hQ).2 U g mk z h.2⟩⟩
theorem PX.recv {D : va_G} {a w : Nat} {cJ cZ : ClassId} {β : Nat → Bool} {n q : Nat} {s : State} {H : Heap} (hP : PX D a w cJ β n q H) (hK : va_K D xcl (xty cJ cZ) s) : ∃ cell : Cell, H[a]? = some cell ∧ cell.vm.isStatics = false ∧ s.vm.findClass R_X = some cell.cls := by
  obtain ⟨f, -, hP⟩ := hP
  exact va_recv hK hP (ci := 0) (q0 := 0) rfl rfl
/-- nothing of the world is asked -/
theorem xNo {s : State} {H : Heap} : (∀ U : State, U.heap = H → s.WarmedH U.vm → (fun _ : State => True) U) ∧ ∀ (U : State) (g : JFrame) (mk : MethodId) (z : Array Value), (fun _ : State => True) U → (fun _ : State => True) (U.calling g mk z) := ⟨fun _ _ _ => trivial, fun _ _ _ _ _ => trivial⟩
variable {p : Program} {l : Launch} {e : Env} {R : Room} {s : State} {m : MethodId} {args : Array Value} {below : List Frame} {meth : Method} {c : Code} {H : Heap} {locs : List Loc} {cells slots : Nat} {Q : State → Prop}
variable {cc : ByteArray} {nL : Nat} {pc : Nat} {ls : Array Slot} {rest : List Value} {D : va_G} {a w : Nat} {cJ cZ : ClassId} {β : Nat → Bool} {n q : Nat}
theorem gx_words {f : Nat → Int64} (E : CallFix p m c cc nL s args XT R_X) (hK : va_K D xcl (xty cJ cZ) s) (hP : va_P D xcl (xqX a w cJ f n q) H) (hdg : decode cc pc = .ok (.getfield ix_words, 3)) (k : W p l e R s m args below meth c H locs cells slots Q (F0 m (pc + 3) ls (.ref w :: rest))) : W p l e R s m args below meth c H locs cells slots Q (F0 m pc ls (.ref a :: rest)) :=
  va_get (D := D) (ci := 0) (v := .ref w) (C := R_X) (T := F_X) (N := 3) E.1 E.2.1 E.2.2.2.2 in_X E.2.2.2.1 hK hP 0 rfl rfl 0 (by decide) (E.2.2.2.2 _ fl_X_words) (fun _ h => h) rfl hdg k
theorem gx_size (E : CallFix p m c cc nL s args XT R_X) (hK : va_K D xcl (xty cJ cZ) s) (hP : PX D a w cJ β n q H) (hdg : decode cc pc = .ok (.getfield ix_size, 3)) (k : W p l e R s m args below meth c H locs cells slots Q (F0 m (pc + 3) ls (.int (nI n) :: rest))) : W p l e R s m args below meth c H locs cells slots Q (F0 m pc ls (.ref a :: rest)) := by
  obtain ⟨f, -, hP⟩ := hP
  exact va_get (D := D) (ci := 0) (v := .int (nI n)) (C := R_X) (T := F_X) (N := 3) E.1 E.2.1 E.2.2.2.2 in_X E.2.2.2.1 hK hP 0 rfl rfl 1 (by decide) (E.2.2.2.2 _ fl_X_size) (fun _ h => h) rfl hdg k
theorem gx_place (E : CallFix p m c cc nL s args XT R_X) (hK : va_K D xcl (xty cJ cZ) s) (hP : PX D a w cJ β n q H) (hdg : decode cc pc = .ok (.getfield ix_place, 3)) (k : W p l e R s m args below meth c H locs cells slots Q (F0 m (pc + 3) ls (.int (nI q) :: rest))) : W p l e R s m args below meth c H locs cells slots Q (F0 m pc ls (.ref a :: rest)) := by
  obtain ⟨f, -, hP⟩ := hP
  exact va_get (D := D) (ci := 0) (v := .int (nI q)) (C := R_X) (T := F_X) (N := 3) E.1 E.2.1 E.2.2.2.2 in_X E.2.2.2.1 hK hP 0 rfl rfl 2 (by decide) (E.2.2.2.2 _ fl_X_place) (fun _ h => h) rfl hdg k
theorem sx_size {k : Nat} (E : CallFix p m c cc nL s args XT R_X) (hK : va_K D xcl (xty cJ cZ) s) (hP : PX D a w cJ β n q H) (hne : a ≠ w) (hS : va_S (xA2 a w) s.heap H locs) (hdg : decode cc pc = .ok (.putfield ix_size, 3))
    (kk : ∀ (H1 : Heap) (locs1 : List Loc), PX D a w cJ β k q H1 → va_S (xA2 a w) s.heap H1 locs1 → W p l e R s m args below meth c H1 locs1 cells slots Q (F0 m (pc + 3) ls rest)) : W p l e R s m args below meth c H locs cells slots Q (F0 m pc ls (.int (nI k) :: .ref a :: rest)) := by
  obtain ⟨f, hf, hP⟩ := hP
  exact va_put (D := D) (ci := 0) (v := .int (nI k)) (ty := .int) (C := R_X) (T := F_X) (N := 3) E.1 E.2.1 E.2.2.2.2 in_X t_X t_X_ok n_X E.2.2.2.1 hK hP (xD2 hne) hS 0 rfl rfl 1 (by decide) (E.2.2.2.2 _ fl_X_size) (fun _ h => h) rfl (by decide +kernel) rfl rfl (Nat.le_of_ble_eq_true rfl) hdg (fun H1 locs1 hP1 _ hS1 => kk H1 locs1 ⟨f, hf, hP1⟩ hS1)
theorem sx_place {k : Nat} (E : CallFix p m c cc nL s args XT R_X) (hK : va_K D xcl (xty cJ cZ) s) (hP : PX D a w cJ β n q H) (hne : a ≠ w) (hS : va_S (xA2 a w) s.heap H locs) (hdg : decode cc pc = .ok (.putfield ix_place, 3))
    (kk : ∀ (H1 : Heap) (locs1 : List Loc), PX D a w cJ β n k H1 → va_S (xA2 a w) s.heap H1 locs1 → W p l e R s m args below meth c H1 locs1 cells slots Q (F0 m (pc + 3) ls rest)) : W p l e R s m args below meth c H locs cells slots Q (F0 m pc ls (.int (nI k) :: .ref a :: rest)) := by
  obtain ⟨f, hf, hP⟩ := hP
  exact va_put (D := D) (ci := 0) (v := .int (nI k)) (ty := .int) (C := R_X) (T := F_X) (N := 3) E.1 E.2.1 E.2.2.2.2 in_X t_X t_X_ok n_X E.2.2.2.1 hK hP (xD2 hne) hS 0 rfl rfl 2 (by decide) (E.2.2.2.2 _ fl_X_place) (fun _ h => h) rfl (by decide +kernel) rfl rfl (Nat.le_of_ble_eq_true rfl) hdg (fun H1 locs1 hP1 _ hS1 => kk H1 locs1 ⟨f, hf, hP1⟩ hS1)
end XWa
