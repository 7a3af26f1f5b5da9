/-! calls that tell a row: c numbers so far, r what they are -/
theorem upS_32 (S : sS) (a b : Nat) : upS (upS S 32 0 a) 32 0 b = upS S 32 0 b := by
  funext f i
  unfold upS
  by_cases h : f = 32 ∧ i = 0
  · rw [if_pos h, if_pos h]
  · rw [if_neg h, if_neg h, if_neg h]
theorem InvM.row {S : sS} {d0 d : kD} {c : Nat} (h : InvM S d0) (hc : c ≤ 64) (h1 : dS (upS S 32 0 c) d) (e84 : d.1 84 = d0.1 84) (e85 : d.1 85 = d0.1 85) (e86 : d.1 86 = d0.1 86) (e88 : d.1 88 = d0.1 88) (eJ : d.2.1 87 = d0.2.1 87) : InvM (upS S 32 0 c) d :=
  h.chg h1 ((h.2.1.b.up 32 0 (mx := 64) rfl hc).g h.2.1.2.2) e84 e85 e86 e88 eJ (fun p hp m n => sHE_cg (S := S) (S' := upS S 32 0 c) rfl rfl rfl rfl rfl rfl rfl m n) (fun l hl => ⟨rfl, rfl, rfl, rfl⟩) (Nat.le_refl _) (Nat.le_refl _)
/-- the row begins anew -/
theorem PI.row0 {S : sS} {sr : Nat → Int32} {d0 d : kD} (h : PI S sr d0 d) (r : Nat → Int32) : PI (upS S 32 0 0) r d0 (uI d 40 0 32 (nI 0)) :=
  ⟨h.1.row (by omega) (h.1.1.putF 32 0 rfl) rfl rfl rfl rfl rfl, fun i hi => absurd hi (Nat.not_lt_zero _), h.2.2.thr _ _⟩
theorem PI.tell {S : sS} {r : Nat → Int32} {d0 d : kD} {c : Nat} (h : PI (upS S 32 0 c) r d0 d) (hc : c < 64) (v : Int32) : PI (upS S 32 0 (c + 1)) (va_up r c v) d0 (uI (uI d 81 0 c v) 40 0 32 (nI (c + 1))) := by
  have h1 : dS (upS (upS S 32 0 c) 32 0 (c + 1)) (uI (uI d 81 0 c v) 40 0 32 (nI (c + 1))) := (h.1.1.stI 81 0 c v (by omega)).putF 32 (c + 1) rfl
  have h2 := h.1.row (c := c + 1) (by omega) h1 rfl rfl rfl rfl rfl
  rw [upS_32] at h2
  refine ⟨h2, fun i hi => ?_, (h.2.2.stI _ _ _ _ (by omega)).thr _ _⟩
  have hi : i < c + 1 := hi
  rw [uI_k _ _ _ _ (by omega)]
  by_cases e : i = c
  · subst e; rw [uI_s]; simp [va_up]
  · rw [uI_f _ _ _ _ e]
    have := h.2.1 i (show i < c by omega)
    rw [this]; simp [va_up, e]
def mdR (x : Int64) (sr : Nat → Int32) : Nat → Nat × (Nat → Int32)
  | 0 => (0, sr)
  | m + 1 => if hasB x m = true then ((mdR x sr m).1 + 1, va_up (mdR x sr m).2 (mdR x sr m).1 (nI m)) else mdR x sr m
theorem mdR_le (x : Int64) (sr : Nat → Int32) : ∀ m, (mdR x sr m).1 ≤ m
  | 0 => Nat.le_refl _
  | m + 1 => by
    have := mdR_le x sr m
    rw [mdR]; split
    · show (mdR x sr m).1 + 1 ≤ m + 1; omega
    · omega
def aMinds (S : sS) (p : Int32) : Int32 := if ix p (S 7 0) = true then nI (mdR (sKept S (nx p) (S 19 0)) (fun _ => 0) 64).1 else -1
def nMinds (S : sS) (p : Int32) : sS := if ix p (S 7 0) = true then upS S 32 0 (mdR (sKept S (nx p) (S 19 0)) (fun _ => 0) 64).1 else S
def rMinds (S : sS) (sr : Nat → Int32) (p : Int32) : Nat → Int32 := if ix p (S 7 0) = true then (mdR (sKept S (nx p) (S 19 0)) (fun _ => 0) 64).2 else sr
/-! shutting -/
def shP (S : sS) (p day sh : Nat) : Bool := decide (popN (sKept S p day) = 0 ∨ ¬ (nI (popN (sKept S p day)) - nI (popN (sYes S p (sKept S p day) day 0))) * nI 1000 ≤ nI (sh * popN (sKept S p day)))
def shL (S : sS) (b day sh : Nat) : Nat → Nat → Bool
  | 0, _ => false
  | n + 1, p => if (nI (S 23 b) >>> (nI p &&& 31)) &&& nI 1 = 0 then shL S b day sh n (p + 1) else if shP S p day sh = true then true else shL S b day sh n (p + 1)
def sShut (S : sS) (b day sh : Nat) : Bool := shL S b day sh (S 7 0) 0
def aShut (S : sS) (b day sh : Int32) : Int32 := if ix b (S 25 0) = true then if ix day 400 = true then if ix sh 1001 = true then (if sShut S (nx b) (nx day) (nx sh) = true then nI 1 else nI 0) else -1 else -1 else -1
