/-! finding what is kept -/
theorem uJ_n (d : kD) {k i f k' i' f' : Nat} (v : Int64) (h : ¬ (k' = k ∧ i' = i ∧ f' = f)) : (uJ d k i f v).2.1 k' i' f' = d.2.1 k' i' f' := by
  show up3 d.2.1 k i f v k' i' f' = _
  by_cases e : k' = k ∧ i' = i
  · obtain ⟨rfl, rfl⟩ := e
    rw [up3_same]
    have : f' ≠ f := fun z => h ⟨rfl, rfl, z⟩
    simp [va_up, this]
  · rw [up3_ne _ _ _ e]
theorem uI_n (d : kD) {k i f k' i' f' : Nat} (v : Int32) (h : ¬ (k' = k ∧ i' = i ∧ f' = f)) : (uI d k i f v).1 k' i' f' = d.1 k' i' f' := by
  show up3 d.1 k i f v k' i' f' = _
  by_cases e : k' = k ∧ i' = i
  · obtain ⟨rfl, rfl⟩ := e
    rw [up3_same]
    have : f' ≠ f := fun z => h ⟨rfl, rfl, z⟩
    simp [va_up, this]
  · rw [up3_ne _ _ _ e]
theorem XK.uJ6 {cA : Nat → ClassId} {ad : kA} {S : sS} {d0 d : kD} (h : XK cA ad S d0 d) (p f : Nat) (v : Int64) (hf : f = 11 ∨ f = 12) : XK cA ad S d0 (uJ d 6 p f v) := by
  refine ⟨h.1.cg ((Fr.refl IX JX d).stJ 6 p f v (decide_eq_true (by omega))) (fun _ => rfl) (fun _ _ => rfl) (fun _ => rfl) (fun l => uJ_n _ _ (by omega)), h.2.stJ 6 p f v (decide_eq_true (by omega))⟩
theorem XK.uI25 {cA : Nat → ClassId} {ad : kA} {S : sS} {d0 d : kD} (h : XK cA ad S d0 d) (b : Nat) (v : Int32) : XK cA ad S d0 (uI d 25 0 b v) :=
  ⟨((FK.refl 25 d).st b v).inv (by decide) h.1, h.2.stI 25 0 b v (decide_eq_true (by omega))⟩
def K2 (S : sS) (day l : Nat) (d : kD) : Prop := (∀ p, p < S 7 0 → d.2.1 6 p 11 = sFr S p day (-1) l) ∧ ∀ q, q < l → d.2.1 8 q 7 = sBars S q
theorem K2.f8 {S : sS} {day l : Nat} {d d1 : kD} (h : K2 S day l d) (hf : F8 l d d1) (hb : d1.2.1 8 l 7 = sBars S l) : (∀ p, p < S 7 0 → d1.2.1 6 p 11 = sFr S p day (-1) l) ∧ ∀ q, q < l + 1 → d1.2.1 8 q 7 = sBars S q := by
  refine ⟨fun p hp => by rw [hf.2.1 _ _ _ (by omega)]; exact h.1 p hp, fun q hq => ?_⟩
  by_cases e : q = l
  · subst e; exact hb
  · rw [hf.2.1 _ _ _ (by omega)]; exact h.2 q (by omega)
theorem K2.no {S : sS} {day l : Nat} {d : kD} (h : (∀ p, p < S 7 0 → d.2.1 6 p 11 = sFr S p day (-1) l) ∧ ∀ q, q < l + 1 → d.2.1 8 q 7 = sBars S q) (hk : sKn S l day = false) : K2 S day (l + 1) d :=
  ⟨fun p hp => by rw [h.1 p hp, sFr, if_neg (fun q => by rw [hk] at q; exact absurd q.2.2 (by decide))], h.2⟩
theorem nI_ne_m1 {l : Nat} (h : l < 2 ^ 31) : ¬ nI l = -1 := by
  intro q
  have h2 := congrArg Int32.toInt q
  rw [nI_toInt h] at h2
  have : (-1 : Int32).toInt = -1 := by decide
  omega
theorem K2.yes {S : sS} {day l : Nat} {d : kD} (h : (∀ p, p < S 7 0 → d.2.1 6 p 11 = sFr S p day (-1) l) ∧ ∀ q, q < l + 1 → d.2.1 8 q 7 = sBars S q) (hl : l < 2 ^ 31) (hk : sKn S l day = true) : K2 S day (l + 1) (uJ d 6 (S 12 l) 11 (sFr S (S 12 l) day (-1) l &&& (sBars S l ^^^ (-1)))) := by
  refine ⟨fun p hp => ?_, fun q hq => by rw [uJ_n _ _ (by omega)]; exact h.2 q hq⟩
  by_cases e : p = S 12 l
  · subst e
    rw [uJ_s, sFr, if_pos ⟨nI_ne_m1 hl, rfl, hk⟩]
  · rw [uJ_n _ _ (by omega), sFr, if_neg (fun q => e q.2.1.symm)]; exact h.1 p hp
theorem K2.end {S : sS} {day : Nat} {d : kD} (h : K2 S day (S 18 0) d) : (∀ p, p < S 7 0 → d.2.1 6 p 11 = sFree S p day (-1)) ∧ ∀ q, q < S 18 0 → d.2.1 8 q 7 = sBars S q := h
def K3 (S : sS) (day n : Nat) (d : kD) : Prop := ((∀ p, p < S 7 0 → d.2.1 6 p 11 = sFree S p day (-1)) ∧ ∀ q, q < S 18 0 → d.2.1 8 q 7 = sBars S q) ∧ ∀ b, b < 4 → d.1 25 0 b = sCm S b day n
theorem K3.st {S : sS} {day n : Nat} {d : kD} (h : K3 S day n d) : K3 S day (n + 1) (uI d 25 0 (S 2 n) (sCm S (S 2 n) day n &&& sMi (sFree S n day (-1)) 8)) := by
  refine ⟨h.1, fun b hb => ?_⟩
  by_cases e : b = S 2 n
  · subst e; rw [uI_s, sCm, if_pos rfl]
  · rw [uI_f _ _ _ _ e, sCm, if_neg (fun q => e q.symm)]; exact h.2 b hb
def K4 (S : sS) (day n : Nat) (d : kD) : Prop := K3 S day (S 7 0) d ∧ ∀ p, p < n → d.2.1 6 p 12 = sKept S p day
theorem K4.st {S : sS} {day n : Nat} {d : kD} (h : K4 S day n d) : K4 S day (n + 1) (uJ d 6 n 12 (sFree S n day (-1) &&& mA (sCommon S (S 2 n) day) 8)) := by
  refine ⟨⟨⟨fun p hp => by rw [uJ_n _ _ (by omega)]; exact h.1.1.1 p hp, fun q hq => by rw [uJ_n _ _ (by omega)]; exact h.1.1.2 q hq⟩, h.1.2⟩, fun p hp => ?_⟩
  by_cases e : p = n
  · subst e; rw [uJ_s, ← kp_mA]; rfl
  · rw [uJ_n _ _ (by omega)]; exact h.2 p (by omega)
theorem K4.end {S : sS} {day : Nat} {d : kD} (h : K4 S day (S 7 0) d) : KP S day d := ⟨fun p hp => ⟨h.1.1.1 p hp, h.2 p hp⟩, h.1.2, h.1.1.2⟩
theorem fill_st {k0 n : Nat} {d : kD} {v : Int32} (h : ∀ f, f < n → d.1 k0 0 f = v) : ∀ f, f < n + 1 → (uI d k0 0 n v).1 k0 0 f = v := fun f hf => by
  by_cases e : f = n
  · subst e; rw [uI_s]
  · rw [uI_f _ _ _ _ e]; exact h f (by omega)
theorem fill_stJ {k0 n : Nat} {d : kD} {v : Int64} (h : ∀ f, f < n → d.2.1 k0 0 f = v) : ∀ f, f < n + 1 → (uJ d k0 0 n v).2.1 k0 0 f = v := fun f hf => by
  by_cases e : f = n
  · subst e; rw [uJ_s]
  · rw [uJ_f _ _ _ _ e]; exact h f (by omega)
theorem K1_st {n : Nat} {d : kD} {v : Int64} (h : ∀ p, p < n → d.2.1 6 p 11 = v) : ∀ p, p < n + 1 → (uJ d 6 n 11 v).2.1 6 p 11 = v := fun p hp => by
  by_cases e : p = n
  · subst e; rw [uJ_s]
  · rw [uJ_n _ _ (by omega)]; exact h p (by omega)
