/-! What each call does to the row of bits: code (0: it answers, else which throw), answer, and the new state. -/
abbrev xS : Type := (Nat → Bool) × Nat × Nat
def sp_write (σ : xS) (x : Int64) (k code : Nat) : Nat × Int64 × xS :=
  if 65536 < σ.2.1 + k then (code, 0, σ) else (0, lN (σ.2.1 + k), (xa σ.1 σ.2.1 x k, σ.2.1 + k, σ.2.2))
def sp_put (σ : xS) (x : Int64) (k : Int32) : Nat × Int64 × xS :=
  if k < 0 ∨ 64 < k then (1, 0, σ) else sp_write σ x k.toNatClampNeg 2
def sp_putRange (σ : xS) (low high n : Int64) : Nat × Int64 × xS :=
  if n < low ∨ high < n then (1, 0, σ) else sp_write σ (n - low) (nbl (uN (high - low))) 2
/-- the number that a length written for n stands for, its bits, how many they are -/
def xtold (n : Nat) : Nat := if n < 16384 then n else 16384 * min 4 (n / 16384)
def xlw (n : Nat) : Nat := if 128 ≤ n ∧ n < 16384 then 16 else 8
def xlc (n : Nat) : Nat := if n < 128 then n else if n < 16384 then 32768 + n else 192 + n / 16384
def sp_putLength (σ : xS) (n : Int32) : Nat × Int64 × xS :=
  if n < 0 then (1, 0, σ) else
    let t := xtold n.toNatClampNeg
    if 65536 < σ.2.1 + xlw t then (2, 0, σ) else (0, lN t, (xa σ.1 σ.2.1 (lN (xlc t)) (xlw t), σ.2.1 + xlw t, σ.2.2))
/-- the bit that a SMALL number as a number begins with -/
def xt (kind : Int32) : Nat := if kind = 2 then 1 else 0
def xnum (β : Nat → Bool) (n : Nat) (kind : Int32) (v : Int64) : Nat → Bool := xa (xa (xa β n 1 (xt kind)) (n + xt kind) (lN (nb kind v)) 8) (n + xt kind + 8) v (8 * nb kind v)
def sp_putNumber (σ : xS) (kind : Int32) (v : Int64) : Nat × Int64 × xS :=
  if kind < 0 ∨ 2 < kind then (1, 0, σ)
  else if kind = 2 ∧ (0 ≤ v ∧ v < 64) then sp_write σ v 7 2
  else if 65536 < σ.2.1 + (xt kind + 8 + 8 * nb kind v) then (2, 0, σ)
  else (0, lN (σ.2.1 + (xt kind + 8 + 8 * nb kind v)), (xnum σ.1 σ.2.1 kind v, σ.2.1 + (xt kind + 8 + 8 * nb kind v), σ.2.2))
def xfill (n : Nat) : Nat := if n = 0 then 8 else (8 - n % 8) % 8
def sp_fill (σ : xS) : Nat × Int64 × xS := sp_write σ 0 (xfill σ.2.1) 1
def sp_take (σ : xS) (k : Int32) : Nat × Int64 × xS :=
  if k < 0 ∨ 64 < k then (1, 0, σ)
  else if σ.2.1 < σ.2.2 + k.toNatClampNeg then (2, 0, σ)
  else (0, lN (xv σ.1 σ.2.2 k.toNatClampNeg), (σ.1, σ.2.1, σ.2.2 + k.toNatClampNeg))
def sp_takeRange (σ : xS) (low high : Int64) : Nat × Int64 × xS :=
  if high < low then (1, 0, σ)
  else if σ.2.1 < σ.2.2 + nbl (uN (high - low)) ∨ uN (high - low) < xv σ.1 σ.2.2 (nbl (uN (high - low))) then (2, 0, σ)
  else (0, low + lN (xv σ.1 σ.2.2 (nbl (uN (high - low)))), (σ.1, σ.2.1, σ.2.2 + nbl (uN (high - low))))
/-- a length at a: what it stands for, how many bits it has -/
def xlen (β : Nat → Bool) (n a : Nat) : Option (Nat × Nat) :=
  if n < a + 1 then none
  else if β a = false then (if n < a + 8 then none else some (xv β (a + 1) 7, 8))
  else if n < a + 2 then none
  else if β (a + 1) = false then (if n < a + 16 then none else if xv β (a + 2) 14 < 128 then none else some (xv β (a + 2) 14, 16))
  else if n < a + 8 then none
  else if xv β (a + 2) 6 < 1 ∨ 4 < xv β (a + 2) 6 then none else some (16384 * xv β (a + 2) 6, 8)
def sp_takeLength (σ : xS) : Nat × Int64 × xS := match xlen σ.1 σ.2.1 σ.2.2 with
  | none => (1, 0, σ)
  | some (v, w) => (0, lN v, (σ.1, σ.2.1, σ.2.2 + w))
/-- the sign of a number of b bytes -/
def xsx (kind : Int32) (v : Int64) (b : Nat) : Int64 := if kind = 1 then xsr (xsl v (nI (64 - 8 * b))) (nI (64 - 8 * b)) else v
/-- a number at a: it, and how many bits it has -/
def xnumAt (β : Nat → Bool) (n : Nat) (kind : Int32) (a : Nat) : Option (Int64 × Nat) := match xlen β n a with
  | none => none
  | some (b, w) =>
    if b < 1 ∨ 8 < b then none
    else if n < a + w + 8 * b then none
    else if nb kind (xsx kind (lN (xv β (a + w) (8 * b))) b) ≠ b then none
    else some (xsx kind (lN (xv β (a + w) (8 * b))) b, w + 8 * b)
def xsmallAt (β : Nat → Bool) (n a : Nat) : Option (Int64 × Nat) :=
  if n < a + 1 then none
  else if β a = false then (if n < a + 7 then none else some (lN (xv β (a + 1) 6), 7))
  else match xnumAt β n 0 (a + 1) with
    | none => none
    | some (v, w) => if 0 ≤ v ∧ v < 64 then none else some (v, w + 1)
def sp_takeNumber (σ : xS) (kind : Int32) : Nat × Int64 × xS :=
  if kind < 0 ∨ 2 < kind then (1, 0, σ)
  else match (if kind = 2 then xsmallAt σ.1 σ.2.1 σ.2.2 else xnumAt σ.1 σ.2.1 kind σ.2.2) with
    | none => (2, 0, σ)
    | some (v, w) => (0, v, (σ.1, σ.2.1, σ.2.2 + w))
def sp_go (σ : xS) (p : Int32) : Nat × Int64 × xS :=
  if p < 0 ∨ nI σ.2.1 < p then (1, 0, σ) else (0, lN σ.2.2, (σ.1, σ.2.1, p.toNatClampNeg))
def sp_turn (σ : xS) (i : Int32) : Nat × Int64 × xS :=
  if i < 0 ∨ nI σ.2.1 ≤ i then (1, 0, σ) else (0, lN (!σ.1 i.toNatClampNeg).toNat, (va_up σ.1 i.toNatClampNeg (!σ.1 i.toNatClampNeg), σ.2.1, σ.2.2))
def sp_cut (σ : xS) (n : Int32) : Nat × Int64 × xS :=
  if n < 0 ∨ nI σ.2.1 < n then (1, 0, σ) else (0, lN σ.2.1, (σ.1, n.toNatClampNeg, min σ.2.2 n.toNatClampNeg))
def sp_count (σ : xS) (w : Int32) : Nat × Int64 × xS :=
  if w = 0 then (0, lN σ.2.1, σ) else if w = 1 then (0, lN σ.2.2, σ) else (1, 0, σ)
/-- the row has at most 65536 bits, the place is one of them or its end -/
def xok (σ : xS) : Prop := σ.2.1 ≤ 65536 ∧ σ.2.2 ≤ σ.2.1
