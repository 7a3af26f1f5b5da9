/-! what the cells of each kind hold. Kinds 0 .. 39: those of the one that is proved; 40: the reference; 50 + f: the array in the reference's field f -/
def mT : List (Nat × Nat) := [(0, 400), (9, 0), (0, 8), (0, 8), (0, 8), (0, 8), (0, 8), (9, 0), (0, 20), (0, 20), (0, 20), (9, 0), (0, 40), (0, 40), (0, 40), (0, 40), (0, 40), (0, 40), (9, 0), (9, 0), (0, 64), (0, 64), (9, 0), (0, 4), (0, 4), (9, 0), (0, 8), (0, 10), (0, 10), (0, 10), (9, 0), (0, 64), (9, 0), (9, 0), (0, 204800), (0, 204800), (2, 8), (1, 40), (2, 40), (0, 6), (9, 0), (9, 0), (9, 0), (9, 0), (9, 0), (9, 0), (0, 8), (0, 8)]
def mTy (f : Nat) : Nat := (mT.getD f (8, 0)).1
def mLen (f : Nat) : Nat := (mT.getD f (8, 0)).2
/-- the data that the pure state holds: lengths of its arrays, its whole numbers -/
def sLen (f : Nat) : Nat := ([400, 0, 8, 8, 8, 8, 8, 0, 20, 20, 20, 0, 40, 40, 40, 40, 40, 40, 0, 0, 64, 64, 0, 4, 4, 0, 8, 10, 10, 10, 0, 0, 0, 0, 0, 0, 0, 0, 0, 0, 0, 0, 0, 0, 0, 0, 0, 0] : List Nat).getD f 0
def sFld (f : Nat) : Bool := ([false, true, false, false, false, false, false, true, false, false, false, true, false, false, false, false, false, false, true, true, false, false, true, false, false, true, false, false, false, false, true, false, true, false, false, false, false, false, false, false, false, false, false, false, false, false, false, false] : List Bool).getD f false
def mV (a : (Nat → Nat → Nat) × (Nat → Nat → Nat → Nat)) (gI : Nat → Int32) (f : Nat) : Value := if mTy f = 9 then .int (gI f) else if a.2 40 0 f = 0 then .null else .ref (a.2 40 0 f)
def mO (a : (Nat → Nat → Nat) × (Nat → Nat → Nat → Nat)) (gI : Nat → Int32) : List Value := (List.range 48).map (mV a gI)
abbrev ciM : Nat := 11
def mF (cA : Nat → ClassId) (a : (Nat → Nat → Nat) × (Nat → Nat → Nat → Nat)) (gI : Nat → Int32) (gJ : Nat → Int64) (_ : Nat → Nat) (k i : Nat) : Option va_E :=
  if i = 0 then (if k = 40 then some (.inr (ciM, mO a gI)) else if 50 ≤ k then (if mTy (k - 50) = 0 then some (.inl (cA 0, mLen (k - 50), .inl gI)) else if mTy (k - 50) = 1 then some (.inl (cA 1, mLen (k - 50), .inr (.inl gJ))) else if mTy (k - 50) = 2 then some (.inl (cA 2, mLen (k - 50), .inl gI)) else none) else none) else none
/-- an address, 0: null -/
def rf (n : Nat) : Option Nat := if n = 0 then none else some n
/-- a field: 0 a whole number, 1 a long, 3 a reference that is never null, else a reference -/
def xV (r : Nat → Nat) (gI : Nat → Int32) (gJ : Nat → Int64) (t f : Nat) : Value := if t = 0 then .int (gI f) else if t = 1 then .long (gJ f) else if t = 3 then .ref (r f) else va_rf (rf (r f))
def xO (r : Nat → Nat) (gI : Nat → Int32) (gJ : Nat → Int64) (ts : List Nat) : List Value := (List.range ts.length).map (fun f => xV r gI gJ (ts.getD f 0) f)
def xF (cA : Nat → ClassId) (r : Nat → Nat) (gI : Nat → Int32) (gJ : Nat → Int64) (k : Nat) : Option va_E :=
  match k with
  | 0 => some (.inr (10, xO r gI gJ [2, 2, 2, 2, 2, 2, 2, 2, 2, 2, 2, 2, 2, 0, 0, 0]))
  | 1 => some (.inl (cA 0, 400, .inl gI))
  | 2 => some (.inl (cA 4, 8, .inr (.inr (.inr (.inr (fun q => rf (r q)))))))
  | 3 => some (.inl (cA 0, 704, .inl gI))
  | 4 => some (.inr (0, xO (fun f => if r f = 0 then cA 100 else r f) gI gJ [0, 3, 0]))
  | 5 => some (.inl (cA 3, r 100, .inr (.inr (.inr (.inr (fun q => rf (r q)))))))
  | 6 => some (.inr (6, xO r gI gJ [0, 0, 0, 0, 0, 2, 2, 0, 0, 2, 0, 1, 1]))
  | 7 => some (.inr (8, xO r gI gJ [0, 0, 2]))
  | 8 => some (.inr (3, xO r gI gJ [2, 0, 0, 0, 0, 0, 0, 1]))
  | 9 => some (.inr (2, xO r gI gJ [0, 0]))
  | 10 => some (.inr (5, xO r gI gJ [0, 0, 0]))
  | 11 => some (.inr (4, xO r gI gJ [2, 0]))
  | 12 => some (.inl (cA 0, 64, .inl gI))
  | 13 => some (.inr (7, xO r gI gJ [2, 2, 0]))
  | 14 => some (.inl (cA 0, 64, .inl gI))
  | 15 => some (.inl (cA 0, 64, .inl gI))
  | 16 => some (.inr (1, xO r gI gJ [2, 2, 2, 2, 2, 0, 0]))
  | 17 => some (.inl (cA 1, 384, .inr (.inl gJ)))
  | 18 => some (.inl (cA 1, 384, .inr (.inl gJ)))
  | 19 => some (.inl (cA 0, 6, .inl gI))
  | 20 => some (.inl (cA 1, 201, .inr (.inl gJ)))
  | 21 => some (.inl (cA 1, 202, .inr (.inl gJ)))
  | 22 => some (.inr (9, xO r gI gJ [2, 2, 0]))
  | 23 => some (.inl (cA 0, 60, .inl gI))
  | 24 => some (.inl (cA 0, 60, .inl gI))
  | 25 => some (.inl (cA 0, 4, .inl gI))
  | 26 => some (.inl (cA 0, 8, .inl gI))
  | 27 => some (.inl (cA 0, 8, .inl gI))
  | 28 => some (.inl (cA 3, r 100, .inr (.inr (.inr (.inr (fun q => rf (r q)))))))
  | 29 => some (.inr (0, xO r gI gJ [0, 2, 0]))
  | 30 => some (.inl (cA 1, 1, .inr (.inl gJ)))
  | _ => none
