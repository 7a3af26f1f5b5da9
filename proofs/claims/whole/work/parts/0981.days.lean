/-! days of a bridge -/
def twL (S : sS) (b day : Nat) : Nat → Nat
  | 0 => 0
  | p + 1 => if (nI (S 23 b) >>> (nI p &&& 31)) &&& nI 1 = nI 1 then max (twL S b day p) (sState S p (S 26 p) day) else twL S b day p
theorem twL_le (S : sS) (b day : Nat) : ∀ p, twL S b day p ≤ 2
  | 0 => by show 0 ≤ 2; omega
  | p + 1 => by
    have h := twL_le S b day p
    have h2 := sState_le S p (S 26 p) day
    rw [twL]; split <;> omega
def gdL (S : sS) (b sh a : Nat) : Nat → Nat × Nat × Nat
  | 0 => (0, 0, 0)
  | k + 1 => if sShut S b (a + k) sh = true then (if twL S b (a + k) (S 7 0) = 0 then ((gdL S b sh a k).1 + 1, (gdL S b sh a k).2.1, (gdL S b sh a k).2.2 + 1) else ((gdL S b sh a k).1 + 1, (gdL S b sh a k).2.1, (gdL S b sh a k).2.2)) else (if twL S b (a + k) (S 7 0) = 2 then ((gdL S b sh a k).1, (gdL S b sh a k).2.1 + 1, (gdL S b sh a k).2.2) else gdL S b sh a k)
theorem gdL_le (S : sS) (b sh a : Nat) : ∀ k, (gdL S b sh a k).1 ≤ k ∧ (gdL S b sh a k).2.1 ≤ k ∧ (gdL S b sh a k).2.2 ≤ k
  | 0 => by refine ⟨?_, ?_, ?_⟩ <;> exact Nat.le_refl 0
  | k + 1 => by
    obtain ⟨h1, h2, h3⟩ := gdL_le S b sh a k
    rw [gdL]
    split
    · split
      · refine ⟨?_, ?_, ?_⟩ <;> dsimp only <;> omega
      · refine ⟨?_, ?_, ?_⟩ <;> dsimp only <;> omega
    · split
      · refine ⟨?_, ?_, ?_⟩ <;> dsimp only <;> omega
      · refine ⟨?_, ?_, ?_⟩ <;> omega
def GD (S : sS) (d0 d : kD) (c : Nat × Nat × Nat) : Prop := InvM S d ∧ d.1 81 = d0.1 81 ∧ FrP d0 d ∧ d.1 40 0 43 = nI c.1 ∧ d.1 40 0 44 = nI c.2.1 ∧ d.1 40 0 45 = nI c.2.2
theorem GD.mi {S : sS} {d0 d d' : kD} {c : Nat × Nat × Nat} (h : GD S d0 d c) (h2 : MI S d d') : GD S d0 d' c := by
  obtain ⟨g1, g2, g3, g4, g5, g6⟩ := h
  have e40 := h2.2.1 40 (by omega)
  exact ⟨h2.1, (h2.2.1 81 (by omega)).trans g2, g3.trans h2.2.p, by rw [e40]; exact g4, by rw [e40]; exact g5, by rw [e40]; exact g6⟩
theorem GD.start {S : sS} {d0 : kD} (h : InvM S d0) : GD S d0 (uI (uI (uI d0 40 0 43 (nI 0)) 40 0 44 (nI 0)) 40 0 45 (nI 0)) (0, 0, 0) :=
  ⟨((h.thr 43 _ rfl).thr 44 _ rfl).thr 45 _ rfl, rfl, (((FrP.refl d0).thr _ _).thr _ _).thr _ _, rfl, rfl, rfl⟩
theorem GD.p3 {S : sS} {d0 d : kD} {a b c : Nat} (h : GD S d0 d (a, b, c)) : GD S d0 (uI d 40 0 43 (nI (a + 1))) (a + 1, b, c) := by
  obtain ⟨g1, g2, g3, g4, g5, g6⟩ := h
  exact ⟨g1.thr 43 _ rfl, g2, g3.thr _ _, uI_s _ _ _ _ _, by rw [uI_f _ _ _ _ (by decide)]; exact g5, by rw [uI_f _ _ _ _ (by decide)]; exact g6⟩
theorem GD.p4 {S : sS} {d0 d : kD} {a b c : Nat} (h : GD S d0 d (a, b, c)) : GD S d0 (uI d 40 0 44 (nI (b + 1))) (a, b + 1, c) := by
  obtain ⟨g1, g2, g3, g4, g5, g6⟩ := h
  exact ⟨g1.thr 44 _ rfl, g2, g3.thr _ _, by rw [uI_f _ _ _ _ (by decide)]; exact g4, uI_s _ _ _ _ _, by rw [uI_f _ _ _ _ (by decide)]; exact g6⟩
theorem GD.p5 {S : sS} {d0 d : kD} {a b c : Nat} (h : GD S d0 d (a, b, c)) : GD S d0 (uI d 40 0 45 (nI (c + 1))) (a, b, c + 1) := by
  obtain ⟨g1, g2, g3, g4, g5, g6⟩ := h
  exact ⟨g1.thr 45 _ rfl, g2, g3.thr _ _, by rw [uI_f _ _ _ _ (by decide)]; exact g4, by rw [uI_f _ _ _ _ (by decide)]; exact g5, uI_s _ _ _ _ _⟩
theorem GD.pi {S : sS} {sr : Nat → Int32} {d0 d : kD} {v : Int32} {c : Nat × Nat × Nat} (h : GD S (uI d0 40 0 33 v) d c) (hR : RowM S sr d0) : PI S sr d0 d :=
  ⟨h.1, fun i hi => by rw [h.2.1, uI_k _ _ _ _ (by omega)]; exact hR i hi, ((FrP.refl d0).thr _ _).trans h.2.2.1⟩
def gdR (S : sS) (b a z sh : Nat) : Nat × Nat × Nat := gdL S b sh a (z + 1 - a)
def aRun (S : sS) (b fr to sh : Int32) : Int32 := if ix b (S 25 0) = true then if spn fr to = true then if ix sh 1001 = true then nI (gdR S (nx b) (nx fr) (nx to) (nx sh)).1 else -1 else -1 else -1
def nRun (S : sS) (b fr to sh : Int32) : sS := if ix b (S 25 0) = true then if spn fr to = true then if ix sh 1001 = true then upS S 32 0 3 else S else S else S
def rRun (S : sS) (sr : Nat → Int32) (b fr to sh : Int32) : Nat → Int32 := if ix b (S 25 0) = true then if spn fr to = true then if ix sh 1001 = true then va_up (va_up (va_up (fun _ => 0) 0 (nI (gdR S (nx b) (nx fr) (nx to) (nx sh)).2.1)) 1 (nI (gdR S (nx b) (nx fr) (nx to) (nx sh)).2.2)) 2 (nI (S 24 (nx b) * (gdR S (nx b) (nx fr) (nx to) (nx sh)).1)) else sr else sr else sr
