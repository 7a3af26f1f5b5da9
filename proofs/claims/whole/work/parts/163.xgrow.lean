/-! a list's array grows -/
theorem xO_setZ {r : Nat → Nat} {z : Nat} {gI : Nat → Int32} {gJ : Nat → Int64} {ts : List Nat} {f q : Nat} (ht : ts.getD f 0 = 3) (hq : q ≠ 0) : xO (fun g => if va_up r f q g = 0 then z else va_up r f q g) gI gJ ts = (xO (fun g => if r g = 0 then z else r g) gI gJ ts).set f (.ref q) :=
  xO_set (by rw [xV_z ht]; simp [va_up, hq]) (fun j hj => by unfold xV; simp [va_up, hj])
/-- the new array, at the key (28, 0) so far, is the list's now -/
def rk (ad : kA) (j : Nat) : kA := (fun k i => if k = 28 ∧ i = 0 then 0 else if k = 5 ∧ i = j then ad.1 28 0 else ad.1 k i, fun k i => if k = 5 ∧ i = j then ad.2 28 0 else ad.2 k i)
theorem oW.rk {D : va_G} {cA : Nat → ClassId} {B0 : Nat} {ad : kA} {d : kD} {H : Heap} (h : oW D cA B0 ad d H) (j : Nat) : oW D cA B0 (rk ad j) d H :=
  h.rekey (k := 28) (i := 0) (k2 := 5) (i2 := j) ⟨by decide, by decide, by omega⟩ (fun _ _ _ _ _ => rfl) (by show (if (5 : Nat) = 28 ∧ j = 0 then 0 else if 5 = 5 ∧ j = j then ad.1 28 0 else ad.1 5 j) = _; rw [if_neg (by omega), if_pos ⟨rfl, rfl⟩]) (by show (if (28 : Nat) = 28 ∧ (0 : Nat) = 0 then 0 else if 28 = 5 ∧ 0 = j then ad.1 28 0 else ad.1 28 0) = 0; rw [if_pos ⟨rfl, rfl⟩]) (fun k' i' h1 h2 => by show (if k' = 28 ∧ i' = 0 then 0 else if k' = 5 ∧ i' = j then ad.1 28 0 else ad.1 k' i') = _; rw [if_neg h1, if_neg h2]) (by show (if 5 = 5 ∧ j = j then ad.2 28 0 else ad.2 5 j) = _; rw [if_pos ⟨rfl, rfl⟩]) (fun k' i' h2 => by show (if k' = 5 ∧ i' = j then ad.2 28 0 else ad.2 k' i') = _; rw [if_neg h2])
/-- the list has room for one more -/
def GrP (ad : kA) (j n : Nat) (ad' : kA) : Prop := ad'.1 5 j ≠ 0 ∧ ad'.2 4 j 1 = ad'.1 5 j ∧ (n + 1 ≤ ad'.2 5 j 100 ∧ ad'.2 5 j 100 ≤ 60) ∧ (∀ q, q < n → ad'.2 5 j q = ad.2 5 j q) ∧ (∀ k i, ¬ (k = 5 ∧ i = j) → ad'.1 k i = ad.1 k i) ∧ (∀ k i, k ≠ 28 → ¬ (k = 5 ∧ i = j) → ¬ (k = 4 ∧ i = j) → ad'.2 k i = ad.2 k i) ∧ ∀ f, f ≠ 1 → ad'.2 4 j f = ad.2 4 j f
/-- a new array stands at (28, 0), the list's field leads to it -/
theorem GrP.of {ad ad1 : kA} {j n q : Nat} (hdead : ad.1 28 0 = 0) (hq : q ≠ 0) (h1 : ∀ k i, ¬ (k = 28 ∧ i = 0) → ad1.1 k i = ad.1 k i) (h28 : ad1.1 28 0 = q) (h2 : ∀ k i, ¬ (k = 28 ∧ i = 0) → ad1.2 k i = ad.2 k i) (hc : n + 1 ≤ ad1.2 28 0 100 ∧ ad1.2 28 0 100 ≤ 60) (he : ∀ f, f < n → ad1.2 28 0 f = ad.2 5 j f) : GrP ad j n (rk (ad2 ad1 4 j 1 q) j) := by
  have a5 : (rk (ad2 ad1 4 j 1 q) j).1 5 j = q := by
    show (if (5 : Nat) = 28 ∧ j = 0 then 0 else if 5 = 5 ∧ j = j then ad1.1 28 0 else ad1.1 5 j) = _
    rw [if_neg (by omega), if_pos ⟨rfl, rfl⟩, h28]
  have b5 : (rk (ad2 ad1 4 j 1 q) j).2 5 j = ad1.2 28 0 := by
    show (if 5 = 5 ∧ j = j then up3 ad1.2 4 j 1 q 28 0 else up3 ad1.2 4 j 1 q 5 j) = _
    rw [if_pos ⟨rfl, rfl⟩, up3_ne _ _ _ (by omega)]
  have b4 : (rk (ad2 ad1 4 j 1 q) j).2 4 j = va_up (ad.2 4 j) 1 q := by
    show (if 4 = 5 ∧ j = j then up3 ad1.2 4 j 1 q 28 0 else up3 ad1.2 4 j 1 q 4 j) = _
    rw [if_neg (by omega), up3_same, h2 4 j (by omega)]
  refine ⟨by rw [a5]; exact hq, by rw [a5, b4]; simp [va_up], by rw [b5]; exact hc, fun f hf => by rw [b5]; exact he f hf, fun k i h => ?_, fun k i g1 g2 g3 => ?_, fun f hf => by rw [b4]; simp [va_up, hf]⟩
  · show (if k = 28 ∧ i = 0 then 0 else if k = 5 ∧ i = j then ad1.1 28 0 else ad1.1 k i) = _
    by_cases e : k = 28 ∧ i = 0
    · rw [if_pos e, e.1, e.2, hdead]
    · rw [if_neg e, if_neg h, h1 k i e]
  · show (if k = 5 ∧ i = j then up3 ad1.2 4 j 1 q 28 0 else up3 ad1.2 4 j 1 q k i) = _
    rw [if_neg g2, up3_ne _ _ _ g3, h2 k i (by omega)]
