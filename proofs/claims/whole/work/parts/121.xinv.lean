/-! the one that is proved: its layout, its data, what holds of them -/
def xSg (k : Nat) : Bool := ([true, true, true, false, false, false, false, false, false, false, false, true, true, true, true, true, true, true, true, true, true, true, true, true, true, true, true, true] : List Bool).getD k false
/-- where a field of the object leads -/
def xFk (f : Nat) : Nat × Nat := ([(1, 0), (2, 0), (4, 0), (4, 1), (4, 2), (4, 3), (11, 0), (13, 0), (16, 0), (22, 0), (25, 0), (26, 0), (27, 0)] : List (Nat × Nat)).getD f (0, 0)
def xKd (j : Nat) : Nat := ([6, 8, 9, 10] : List Nat).getD j 0
def xCt (S : sS) (j : Nat) : Nat := S (([7, 18, 25, 30] : List Nat).getD j 0) 0
/-- the last of the trees below k that stand at a pier -/
def trA (ad : kA) (S : sS) (p : Nat) : Nat → Nat
  | 0 => 0
  | k + 1 => if S 8 k = p then ad.1 7 k else trA ad S p k
/-- a list: its array, and what stands in it -/
def xLs (cA : Nat → ClassId) (ad : kA) (j n : Nat) : Prop := ((n = 0 ∧ ad.2 4 j 1 = 0) ∨ (ad.1 5 j ≠ 0 ∧ ad.2 4 j 1 = ad.1 5 j ∧ n ≤ ad.2 5 j 100 ∧ ad.2 5 j 100 ≤ 60 ∧ 1 ≤ ad.2 5 j 100)) ∧ ∀ q, q < n → ad.1 (xKd j) q ≠ 0 ∧ ad.2 5 j q = ad.1 (xKd j) q
def xAl (cA : Nat → ClassId) (ad : kA) (S : sS) : Prop :=
  (∀ k, xSg k = true → ad.1 k 0 ≠ 0) ∧ (∀ f, f < 13 → ad.2 0 0 f = ad.1 (xFk f).1 (xFk f).2) ∧ (∀ j, j < 4 → ad.1 4 j ≠ 0) ∧
  (∀ i, i < 8 → ad.1 3 i ≠ 0 ∧ ad.2 2 0 i = ad.1 3 i) ∧ (∀ j, j < 4 → xLs cA ad j (xCt S j)) ∧
  (∀ p, p < S 7 0 → ad.2 6 p 5 = ad.1 1 0 ∧ ad.2 6 p 6 = ad.1 3 p ∧ ad.2 6 p 9 = trA ad S p (S 11 0)) ∧
  (∀ l, l < S 18 0 → ad.2 8 l 0 = ad.1 6 (S 12 l)) ∧ (∀ t, t < S 11 0 → ad.1 7 t ≠ 0 ∧ ad.2 7 t 2 = trA ad S (S 8 t) t) ∧
  (ad.2 11 0 0 = ad.1 12 0 ∧ ad.2 13 0 0 = ad.1 14 0 ∧ ad.2 13 0 1 = ad.1 15 0) ∧ (∀ f, f < 5 → ad.2 16 0 f = ad.1 (17 + f) 0) ∧ (∀ f, f < 2 → ad.2 22 0 f = ad.1 (23 + f) 0) ∧
  (∀ j, j < 4 → ∀ q, xCt S j ≤ q → ad.1 (xKd j) q = 0) ∧ (∀ t, S 11 0 ≤ t → ad.1 7 t = 0) ∧ ad.1 28 0 = 0
section XAL
variable {cA : Nat → ClassId} {ad : kA} {S : sS}
theorem xAl.o (h : xAl cA ad S) {k : Nat} (hk : xSg k = true) : ad.1 k 0 ≠ 0 := h.1 k hk
theorem xAl.f (h : xAl cA ad S) (f : Nat) {k i : Nat} (hf : f < 13 ∧ xFk f = (k, i)) (ha : ad.1 k i ≠ 0) : ad.2 0 0 f = ad.1 k i ∧ ad.1 k i ≠ 0 := by
  have := h.2.1 f hf.1
  rw [hf.2] at this
  exact ⟨this, ha⟩
theorem xAl.li (h : xAl cA ad S) {j : Nat} (hj : j < 4) : ad.1 4 j ≠ 0 := h.2.2.1 j hj
theorem xAl.st (h : xAl cA ad S) {i : Nat} (hi : i < 8) : ad.1 3 i ≠ 0 := (h.2.2.2.1 i hi).1
theorem xAl.stq (h : xAl cA ad S) {i : Nat} (hi : i < 8) : ad.2 2 0 i = ad.1 3 i ∧ ad.1 3 i ≠ 0 := ⟨(h.2.2.2.1 i hi).2, (h.2.2.2.1 i hi).1⟩
theorem xAl.ls (h : xAl cA ad S) {j : Nat} (hj : j < 4) : xLs cA ad j (xCt S j) := h.2.2.2.2.1 j hj
theorem xAl.pier (h : xAl cA ad S) {p : Nat} (hp : p < S 7 0) : ad.1 6 p ≠ 0 := ((h.ls (j := 0) (by decide)).2 p hp).1
theorem xAl.look (h : xAl cA ad S) {p : Nat} (hp : p < S 18 0) : ad.1 8 p ≠ 0 := ((h.ls (j := 1) (by decide)).2 p hp).1
theorem xAl.brid (h : xAl cA ad S) {p : Nat} (hp : p < S 25 0) : ad.1 9 p ≠ 0 := ((h.ls (j := 2) (by decide)).2 p hp).1
theorem xAl.offr (h : xAl cA ad S) {p : Nat} (hp : p < S 30 0) : ad.1 10 p ≠ 0 := ((h.ls (j := 3) (by decide)).2 p hp).1
theorem xAl.pf (h : xAl cA ad S) {p : Nat} (hp : p < S 7 0) : ad.2 6 p 5 = ad.1 1 0 ∧ ad.1 1 0 ≠ 0 := ⟨(h.2.2.2.2.2.1 p hp).1, h.o rfl⟩
theorem xAl.ps (h : xAl cA ad S) {p : Nat} (hp : p < S 7 0) (hp8 : p < 8) : ad.2 6 p 6 = ad.1 3 p ∧ ad.1 3 p ≠ 0 := ⟨(h.2.2.2.2.2.1 p hp).2.1, h.st hp8⟩
theorem xAl.pt (h : xAl cA ad S) {p : Nat} (hp : p < S 7 0) : ad.2 6 p 9 = trA ad S p (S 11 0) := (h.2.2.2.2.2.1 p hp).2.2
theorem xAl.lp (h : xAl cA ad S) {l : Nat} (hl : l < S 18 0) (hp : S 12 l < S 7 0) : ad.2 8 l 0 = ad.1 6 (S 12 l) ∧ ad.1 6 (S 12 l) ≠ 0 := ⟨h.2.2.2.2.2.2.1 l hl, h.pier hp⟩
theorem xAl.tree (h : xAl cA ad S) {t : Nat} (ht : t < S 11 0) : ad.1 7 t ≠ 0 := (h.2.2.2.2.2.2.2.1 t ht).1
theorem xAl.tq (h : xAl cA ad S) {t : Nat} (ht : t < S 11 0) : ad.2 7 t 2 = trA ad S (S 8 t) t := (h.2.2.2.2.2.2.2.1 t ht).2
theorem xAl.g (h : xAl cA ad S) : (ad.2 11 0 0 = ad.1 12 0 ∧ ad.2 13 0 0 = ad.1 14 0 ∧ ad.2 13 0 1 = ad.1 15 0) ∧ (∀ f, f < 5 → ad.2 16 0 f = ad.1 (17 + f) 0) ∧ (∀ f, f < 2 → ad.2 22 0 f = ad.1 (23 + f) 0) := ⟨h.2.2.2.2.2.2.2.2.1, h.2.2.2.2.2.2.2.2.2.1, h.2.2.2.2.2.2.2.2.2.2.1⟩
theorem xAl.tn (h : xAl cA ad S) : ad.2 11 0 0 = ad.1 12 0 ∧ ad.1 12 0 ≠ 0 := ⟨h.g.1.1, h.o rfl⟩
theorem xAl.sm (h : xAl cA ad S) : ad.2 13 0 0 = ad.1 14 0 ∧ ad.1 14 0 ≠ 0 := ⟨h.g.1.2.1, h.o rfl⟩
theorem xAl.sl (h : xAl cA ad S) : ad.2 13 0 1 = ad.1 15 0 ∧ ad.1 15 0 ≠ 0 := ⟨h.g.1.2.2, h.o rfl⟩
theorem xAl.ah (h : xAl cA ad S) (f : Nat) {k : Nat} (hf : f < 5 ∧ 17 + f = k ∧ xSg k = true) : ad.2 16 0 f = ad.1 k 0 ∧ ad.1 k 0 ≠ 0 := by
  obtain ⟨h1, rfl, h3⟩ := hf
  exact ⟨h.g.2.1 f h1, h.o h3⟩
theorem xAl.wa (h : xAl cA ad S) (f : Nat) {k : Nat} (hf : f < 2 ∧ 23 + f = k ∧ xSg k = true) : ad.2 22 0 f = ad.1 k 0 ∧ ad.1 k 0 ≠ 0 := by
  obtain ⟨h1, rfl, h3⟩ := hf
  exact ⟨h.g.2.2 f h1, h.o h3⟩
end XAL
/-- the data are those of the pure state (the key (31, 0) has no cell: its long says that the trees' count is yet to be told) -/
def xD (S : sS) (d : kD) : Prop :=
  (d.1 0 0 13 = nI (S 1 0) ∧ (d.2.1 31 0 0 = 0 → d.1 0 0 14 = nI (S 11 0)) ∧ d.1 0 0 15 = nI (S 19 0)) ∧ (∀ i, i < 400 → d.1 1 0 i = nI (S 0 i)) ∧ (∀ j, j < 4 → d.1 4 j 2 = nI (xCt S j)) ∧
  (∀ p, p < S 7 0 → (∀ f, f < 5 → d.1 6 p f = nI (S (2 + f) p)) ∧ d.1 6 p 10 = nI (S 26 p)) ∧ (∀ t, t < S 11 0 → d.1 7 t 0 = nI (S 9 t) ∧ d.1 7 t 1 = nI (S 10 t)) ∧
  (∀ l, l < S 18 0 → ∀ f, f < 5 → d.1 8 l (1 + f) = nI (S (13 + f) l)) ∧ (∀ b, b < S 25 0 → d.1 9 b 0 = nI (S 23 b) ∧ d.1 9 b 1 = nI (S 24 b)) ∧ (∀ o, o < S 30 0 → ∀ f, f < 3 → d.1 10 o f = nI (S (27 + f) o)) ∧
  (∀ p, p < 8 → S 7 0 ≤ p → S 26 p = 0) ∧ d.2.1 21 0 0 = 0
section XD
variable {S : sS} {d : kD}
theorem xD.beds (h : xD S d) : d.1 0 0 13 = nI (S 1 0) := h.1.1
theorem xD.trees (h : xD S d) (h31 : d.2.1 31 0 0 = 0) : d.1 0 0 14 = nI (S 11 0) := h.1.2.1 h31
theorem xD.as (h : xD S d) : d.1 0 0 15 = nI (S 19 0) := h.1.2.2
theorem xD.flow (h : xD S d) {i : Nat} (hi : i < 400) : d.1 1 0 i = nI (S 0 i) := h.2.1 i hi
theorem xD.size (h : xD S d) {j : Nat} (hj : j < 4) : d.1 4 j 2 = nI (xCt S j) := h.2.2.1 j hj
theorem xD.pier (h : xD S d) {p : Nat} (hp : p < S 7 0) (f : Nat) {g : Nat} (hf : f < 5 ∧ 2 + f = g) : d.1 6 p f = nI (S g p) := by
  obtain ⟨h1, rfl⟩ := hf
  exact (h.2.2.2.1 p hp).1 f h1
theorem xD.truth (h : xD S d) {p : Nat} (hp : p < S 7 0) : d.1 6 p 10 = nI (S 26 p) := (h.2.2.2.1 p hp).2
theorem xD.tree (h : xD S d) {t : Nat} (ht : t < S 11 0) : d.1 7 t 0 = nI (S 9 t) ∧ d.1 7 t 1 = nI (S 10 t) := h.2.2.2.2.1 t ht
theorem xD.look (h : xD S d) {l : Nat} (hl : l < S 18 0) (f : Nat) {g : Nat} (hf : (1 ≤ f ∧ f < 6) ∧ 12 + f = g) : d.1 8 l f = nI (S g l) := by
  obtain ⟨⟨h1, h2⟩, rfl⟩ := hf
  have := h.2.2.2.2.2.1 l hl (f - 1) (by omega)
  rw [show 1 + (f - 1) = f by omega, show 13 + (f - 1) = 12 + f by omega] at this
  exact this
theorem xD.brid (h : xD S d) {b : Nat} (hb : b < S 25 0) : d.1 9 b 0 = nI (S 23 b) ∧ d.1 9 b 1 = nI (S 24 b) := h.2.2.2.2.2.2.1 b hb
theorem xD.offr (h : xD S d) {o : Nat} (ho : o < S 30 0) (f : Nat) {g : Nat} (hf : f < 3 ∧ 27 + f = g) : d.1 10 o f = nI (S g o) := by
  obtain ⟨h1, rfl⟩ := hf
  exact h.2.2.2.2.2.2.2.1 o ho f h1
end XD
/-- what changes: whole numbers by I, longs by J -/
def Fr (I J : Nat → Nat → Bool) (d d1 : kD) : Prop := (∀ k i f, I k f = false → d1.1 k i f = d.1 k i f) ∧ (∀ k i f, J k f = false → d1.2.1 k i f = d.2.1 k i f) ∧ d1.2.2 = d.2.2
theorem Fr.refl (I J : Nat → Nat → Bool) (d : kD) : Fr I J d d := ⟨fun _ _ _ _ => rfl, fun _ _ _ _ => rfl, rfl⟩
theorem Fr.trans {I J : Nat → Nat → Bool} {d d1 d2 : kD} (h : Fr I J d d1) (h2 : Fr I J d1 d2) : Fr I J d d2 := ⟨fun k i f q => (h2.1 k i f q).trans (h.1 k i f q), fun k i f q => (h2.2.1 k i f q).trans (h.2.1 k i f q), h2.2.2.trans h.2.2⟩
theorem Fr.mono {I J I' J' : Nat → Nat → Bool} {d d1 : kD} (h : Fr I J d d1) (hI : ∀ k f, I' k f = false → I k f = false) (hJ : ∀ k f, J' k f = false → J k f = false) : Fr I' J' d d1 := ⟨fun k i f q => h.1 k i f (hI k f q), fun k i f q => h.2.1 k i f (hJ k f q), h.2.2⟩
theorem Fr.stI {I J : Nat → Nat → Bool} {d d1 : kD} (h : Fr I J d d1) (k i f : Nat) (v : Int32) (hk : I k f = true) : Fr I J d (uI d1 k i f v) := by
  refine ⟨fun k' i' f' q => ?_, h.2.1, h.2.2⟩
  by_cases e : k' = k ∧ i' = i
  · obtain ⟨rfl, rfl⟩ := e
    have hf : f' ≠ f := fun z => by rw [z, hk] at q; cases q
    rw [uI_f _ _ _ _ hf]; exact h.1 _ _ _ q
  · show up3 d1.1 k i f v k' i' f' = _
    rw [up3_ne _ _ _ e]; exact h.1 _ _ _ q
theorem Fr.stJ {I J : Nat → Nat → Bool} {d d1 : kD} (h : Fr I J d d1) (k i f : Nat) (v : Int64) (hk : J k f = true) : Fr I J d (uJ d1 k i f v) := by
  refine ⟨h.1, fun k' i' f' q => ?_, h.2.2⟩
  by_cases e : k' = k ∧ i' = i
  · obtain ⟨rfl, rfl⟩ := e
    have hf : f' ≠ f := fun z => by rw [z, hk] at q; cases q
    rw [uJ_f _ _ _ _ hf]; exact h.2.1 _ _ _ q
  · show up3 d1.2.1 k i f v k' i' f' = _
    rw [up3_ne _ _ _ e]; exact h.2.1 _ _ _ q
/-- the walking of stories -/
def IW (k f : Nat) : Bool := decide (k = 3 ∨ (k = 6 ∧ (f = 7 ∨ f = 8)))
/-- finding what is kept: with it, what looks bar, what is shared -/
def IK (k f : Nat) : Bool := decide (k = 3 ∨ (k = 6 ∧ (f = 7 ∨ f = 8)) ∨ (k = 8 ∧ f = 6) ∨ k = 25)
def JK (k f : Nat) : Bool := decide ((k = 6 ∧ (f = 11 ∨ f = 12)) ∨ (k = 8 ∧ f = 7))
def J0 (_ _ : Nat) : Bool := false
/-- all that a reader may change -/
def IX (k f : Nat) : Bool := decide (k = 3 ∨ (k = 6 ∧ (f = 7 ∨ f = 8)) ∨ (k = 8 ∧ f = 6) ∨ (16 ≤ k ∧ k < 28))
def JX (k f : Nat) : Bool := decide (k < 28 ∧ ¬ (k = 21 ∧ f = 0))
theorem IW_IK {k f : Nat} (h : IK k f = false) : IW k f = false := decide_eq_false (fun q => of_decide_eq_false h (by omega))
theorem IK_IX {k f : Nat} (h : IX k f = false) : IK k f = false := decide_eq_false (fun q => of_decide_eq_false h (by omega))
theorem IW_IX {k f : Nat} (h : IX k f = false) : IW k f = false := IW_IK (IK_IX h)
theorem JK_JX {k f : Nat} (h : JX k f = false) : JK k f = false := decide_eq_false (fun q => of_decide_eq_false h (by omega))
theorem Fr.wk {d d1 : kD} (h : Fr IW J0 d d1) : Fr IK JK d d1 := h.mono (fun _ _ q => IW_IK q) (fun _ _ _ => rfl)
theorem Fr.kx {d d1 : kD} (h : Fr IK JK d d1) : Fr IX JX d d1 := h.mono (fun _ _ q => IK_IX q) (fun _ _ q => JK_JX q)
theorem Fr.wx {d d1 : kD} (h : Fr IW J0 d d1) : Fr IX JX d d1 := h.wk.kx
theorem xD.fr {S : sS} {d d1 : kD} (h : xD S d) (hf : Fr IX JX d d1) : xD S d1 := by
  obtain ⟨⟨h1, h2, h3⟩, h4, h5, h6, h7, h8, h9, h10, h14, h15⟩ := h
  have e := hf.1
  refine ⟨⟨?_, ?_, ?_⟩, fun i hi => ?_, fun j hj => ?_, fun p hp => ⟨fun f hf => ?_, ?_⟩, fun t ht => ⟨?_, ?_⟩, fun l hl f hf => ?_, fun b hb => ⟨?_, ?_⟩, fun o ho f hf => ?_, h14, by rw [hf.2.1 21 0 0 rfl]; exact h15⟩
  · rw [e 0 0 13 rfl]; exact h1
  · intro z; rw [hf.2.1 31 0 0 rfl] at z; rw [e 0 0 14 rfl]; exact h2 z
  · rw [e 0 0 15 rfl]; exact h3
  · rw [e 1 0 i (decide_eq_false (by omega))]; exact h4 i hi
  · rw [e 4 j 2 rfl]; exact h5 j hj
  · rw [e 6 p f (decide_eq_false (by omega))]; exact (h6 p hp).1 f hf
  · rw [e 6 p 10 rfl]; exact (h6 p hp).2
  · rw [e 7 t 0 rfl]; exact (h7 t ht).1
  · rw [e 7 t 1 rfl]; exact (h7 t ht).2
  · rw [e 8 l (1 + f) (decide_eq_false (by omega))]; exact h8 l hl f hf
  · rw [e 9 b 0 rfl]; exact (h9 b hb).1
  · rw [e 9 b 1 rfl]; exact (h9 b hb).2
  · rw [e 10 o f (decide_eq_false (by omega))]; exact h10 o ho f hf
def pkd (q : Nat × Nat) : Nat := q.2 * 256 + q.1
/-- a pier's stories: walked w days, marks up to k -/
def Wk (S : sS) (d : kD) (p w k : Nat) : Prop := w ≤ 400 ∧ k ≤ 10 ∧ d.1 6 p 7 = nI w ∧ d.1 6 p 8 = nI k ∧ (∀ m, m < 64 → d.1 3 p m = nI (pkd (sHE S p m w))) ∧ ∀ j, 1 ≤ j → j ≤ k → ∀ m, m < 64 → d.1 3 p (64 * j + m) = nI (pkd (sHE S p m (40 * j)))
def Lk (S : sS) (d : kD) (l : Nat) : Prop := d.1 8 l 6 = 0 ∨ (d.1 8 l 6 = 1 ∧ d.2.1 8 l 7 = sBars S l)
/-- its layout and its data, without what it keeps in store -/
def XB (cA : Nat → ClassId) (ad : kA) (S : sS) (d : kD) : Prop := xAl cA ad S ∧ xD S d ∧ sG S
/-- the rows of the piers that are not made yet are as at birth -/
def Zr (S : sS) (d : kD) : Prop := ∀ p, S 7 0 ≤ p → p < 8 → ∀ m, m < 64 → d.1 3 p m = 0
theorem Zr.cg {S S' : sS} {d d1 : kD} (h : Zr S d) (h7 : S 7 0 ≤ S' 7 0) (h3 : ∀ p, S' 7 0 ≤ p → d1.1 3 p = d.1 3 p) : Zr S' d1 := fun p hp h8 m hm => by rw [h3 p hp]; exact h p (by omega) h8 m hm
def InvX (cA : Nat → ClassId) (ad : kA) (S : sS) (d : kD) : Prop := XB cA ad S d ∧ (∀ p, p < S 7 0 → ∃ w k, Wk S d p w k) ∧ (∀ l, l < S 18 0 → Lk S d l) ∧ Zr S d
theorem Wk.cg {S : sS} {d d1 : kD} {p w k : Nat} (h : Wk S d p w k) (h3 : d1.1 3 p = d.1 3 p) (h7 : d1.1 6 p 7 = d.1 6 p 7) (h8 : d1.1 6 p 8 = d.1 6 p 8) : Wk S d1 p w k := by
  obtain ⟨a1, a2, a3, a4, a5, a6⟩ := h
  exact ⟨a1, a2, by rw [h7]; exact a3, by rw [h8]; exact a4, fun m hm => by rw [h3]; exact a5 m hm, fun j h1 h2 m hm => by rw [h3]; exact a6 j h1 h2 m hm⟩
/-- a reader's way: stories are walked -/
def XW (cA : Nat → ClassId) (ad : kA) (S : sS) (d0 d : kD) : Prop := InvX cA ad S d ∧ Fr IW J0 d0 d
theorem XW.start {cA : Nat → ClassId} {ad : kA} {S : sS} {d : kD} (h : InvX cA ad S d) : XW cA ad S d d := ⟨h, Fr.refl _ _ d⟩
theorem XW.trans {cA : Nat → ClassId} {ad : kA} {S : sS} {d d1 d2 : kD} (h : XW cA ad S d d1) (h2 : XW cA ad S d1 d2) : XW cA ad S d d2 := ⟨h2.1, h.2.trans h2.2⟩
/-- where the stories of a pier are: n days walked -/
def At (S : sS) (d : kD) (p n : Nat) : Prop := d.1 6 p 7 = nI n ∧ ∀ m, m < 64 → d.1 3 p m = nI (pkd (sHE S p m n))
/-- one pier's stories alone are walked -/
def F1 (p : Nat) (d0 d : kD) : Prop := (∀ k i f, ¬ ((k = 3 ∧ i = p) ∨ (k = 6 ∧ i = p ∧ (f = 7 ∨ f = 8))) → d.1 k i f = d0.1 k i f) ∧ d.2 = d0.2
theorem F1.refl (p : Nat) (d : kD) : F1 p d d := ⟨fun _ _ _ _ => rfl, rfl⟩
theorem F1.trans {p : Nat} {d d1 d2 : kD} (h : F1 p d d1) (h2 : F1 p d1 d2) : F1 p d d2 := ⟨fun k i f q => (h2.1 k i f q).trans (h.1 k i f q), h2.2.trans h.2⟩
theorem F1.w {p : Nat} {d d1 : kD} (h : F1 p d d1) : Fr IW J0 d d1 := ⟨fun k i f q => h.1 k i f (fun z => of_decide_eq_false q (by omega)), fun k i f _ => by rw [h.2], by rw [h.2]⟩
theorem F1.x {p : Nat} {d d1 : kD} (h : F1 p d d1) : Fr IX JX d d1 := h.w.wx
theorem F1.st {p : Nat} {d d1 : kD} (h : F1 p d d1) (k i f : Nat) (v : Int32) (hk : (k = 3 ∧ i = p) ∨ (k = 6 ∧ i = p ∧ (f = 7 ∨ f = 8))) : F1 p d (uI d1 k i f v) := by
  refine ⟨fun k' i' f' q => ?_, h.2⟩
  rw [← h.1 k' i' f' q]
  by_cases e : k' = k ∧ i' = i
  · obtain ⟨rfl, rfl⟩ := e
    exact uI_f _ _ _ _ (fun z => q (by rw [z]; exact hk))
  · show up3 d1.1 k i f v k' i' f' = _
    rw [up3_ne _ _ _ e]
theorem uI_i (d : kD) (k : Nat) {i i' : Nat} (f f' : Nat) (v : Int32) (h : i' ≠ i) : (uI d k i f v).1 k i' f' = d.1 k i' f' := by
  show up3 d.1 k i f v k i' f' = _
  rw [up3_ne _ _ _ (fun q => h q.2)]
theorem Zr.f1 {S : sS} {p : Nat} {d d1 : kD} (h : Zr S d) (hf : F1 p d d1) (hp : p < S 7 0) : Zr S d1 := h.cg (Nat.le_refl _) (fun q hq => by funext f; exact hf.1 _ _ _ (by omega))
theorem F1.inv {cA : Nat → ClassId} {ad : kA} {S : sS} {p w k : Nat} {d d1 : kD} (h : F1 p d d1) (hM : InvX cA ad S d) (hw : Wk S d1 p w k) (hp : p < S 7 0) : InvX cA ad S d1 := by
  refine ⟨⟨hM.1.1, hM.1.2.1.fr h.x, hM.1.2.2⟩, fun q hq => ?_, fun l hl => ?_, hM.2.2.2.f1 h hp⟩
  · by_cases e : q = p
    · subst e; exact ⟨w, k, hw⟩
    · obtain ⟨w', k', hw'⟩ := hM.2.1 q hq
      refine ⟨w', k', hw'.cg ?_ (h.1 _ _ _ (by omega)) (h.1 _ _ _ (by omega))⟩
      funext f; exact h.1 _ _ _ (by omega)
  · have := hM.2.2.1 l hl
    unfold Lk at *
    rw [h.1 8 l 6 (by omega), show d1.2.1 8 l 7 = d.2.1 8 l 7 by rw [h.2]]
    exact this
theorem Wk.at {S : sS} {d : kD} {p w k : Nat} (h : Wk S d p w k) : At S d p w := ⟨h.2.2.1, h.2.2.2.2.1⟩
/-! packed numbers -/
theorem pkd_lo {q : Nat × Nat} (h1 : q.1 ≤ 200) (h2 : q.2 ≤ 200) : nI (pkd q) &&& nI 255 = nI q.1 := by
  unfold pkd
  rw [pk_andN (by omega) 8 (by decide)]
  congr 1; omega
theorem pkd_hi {q : Nat × Nat} (h1 : q.1 ≤ 200) (h2 : q.2 ≤ 200) : nI (pkd q) >>> (nI 8 &&& 31) = nI q.2 := by
  unfold pkd
  rw [pk_shrN (by omega) _ 8 (by decide)]
  congr 1; omega
theorem pkd_mk {a b : Nat} (h1 : a ≤ 200) (h2 : b ≤ 200) : (nI a <<< (nI 8 &&& 31)) ||| nI b = nI (pkd (b, a)) := by
  rw [pk_shlN _ 8 (by decide) (by omega)]
  unfold pkd
  apply Int32.toBitVec_inj.mp
  apply BitVec.eq_of_toNat_eq
  show ((BitVec.ofNat 32 (a * 2 ^ 8)) ||| (BitVec.ofNat 32 b)).toNat = (BitVec.ofNat 32 (a * 256 + b)).toNat
  rw [BitVec.toNat_or, BitVec.toNat_ofNat, BitVec.toNat_ofNat, BitVec.toNat_ofNat, Nat.mod_eq_of_lt (show a * 2 ^ 8 < 2 ^ 32 by omega), Nat.mod_eq_of_lt (show b < 2 ^ 32 by omega), Nat.mod_eq_of_lt (show a * 256 + b < 2 ^ 32 by omega)]
  apply Nat.eq_of_testBit_eq
  intro i
  have e1 := Nat.testBit_two_pow_mul_add (i := 8) a (b := b) (by omega) i
  have e2 := Nat.testBit_two_pow_mul_add (i := 8) a (b := 0) (by omega) i
  rw [Nat.add_zero] at e2
  rw [show a * 256 + b = 2 ^ 8 * a + b by omega, Nat.testBit_or, Nat.mul_comm a (2 ^ 8), e2, e1]
  by_cases hi : i < 8
  · rw [if_pos hi, if_pos hi, Nat.zero_testBit, Bool.false_or]
  · rw [if_neg hi, if_neg hi, Nat.testBit_lt_two_pow (show b < 2 ^ i from Nat.lt_of_lt_of_le (show b < 2 ^ 8 by omega) (Nat.pow_le_pow_right (by decide) (by omega))), Bool.or_false]
theorem hasB_0 {x : Int64} {m : Nat} (hm : m < 64) (h : lsr x m &&& 1 = 0) : hasB x m = false := by
  unfold hasB; rw [h]; decide
theorem hasB_1 {x : Int64} {m : Nat} (hm : m < 64) (h : ¬ lsr x m &&& 1 = 0) : hasB x m = true := by
  have hn : x.toBitVec.toNat < 2 ^ 64 := x.toBitVec.isLt
  have h2 := lsr_lN hn hm
  rw [← lN_of x] at h2
  have h3 : x.toBitVec.toNat / 2 ^ m < 2 ^ 64 := Nat.lt_of_le_of_lt (Nat.div_le_self _ _) hn
  unfold hasB
  rw [h2, show (1 : Int64) = lN 1 from rfl, and_lN h3 (by decide), Nat.and_one_is_mod] at h ⊢
  rcases Nat.mod_two_eq_zero_or_one (x.toBitVec.toNat / 2 ^ m) with q | q
  · rw [q] at h; exact absurd rfl h
  · rw [q]; decide
/-- the minds of the A that are told -/
def mA (b : Int32) : Nat → Int64
  | 0 => 0
  | a + 1 => if (b >>> (nI a &&& 31)) &&& nI 1 = 0 then mA b a else mA b a ||| lsl 255 (8 * a)
/-! trees -/
theorem trA_cases {cA : Nat → ClassId} {ad : kA} {S : sS} (hA : xAl cA ad S) (p day : Nat) : ∀ k, k ≤ S 11 0 → (trA ad S p k = 0 ∧ sW S p day k = S 3 p) ∨ ∃ t, t < k ∧ trA ad S p k = ad.1 7 t ∧ ad.1 7 t ≠ 0 ∧ ad.2 7 t 2 = trA ad S p t ∧ sW S p day k = (if S 9 t ≤ day then sW S p day t + S 10 t else sW S p day t)
  | 0, _ => Or.inl ⟨rfl, rfl⟩
  | k + 1, hk => by
    by_cases e : S 8 k = p
    · refine Or.inr ⟨k, Nat.lt_succ_self k, by rw [trA, if_pos e], hA.tree (by omega), by rw [hA.tq (by omega), e], ?_⟩
      rw [sW]
      by_cases q : S 9 k ≤ day
      · rw [if_pos ⟨e, q⟩, if_pos q]
      · rw [if_neg (fun z => q z.2), if_neg q]
    · have e1 : trA ad S p (k + 1) = trA ad S p k := by rw [trA, if_neg e]
      have e2 : sW S p day (k + 1) = sW S p day k := by rw [sW, if_neg (fun z => e z.1)]
      rcases trA_cases hA p day k (by omega) with q | ⟨t, h1, h2, h3, h4, h5⟩
      · exact Or.inl ⟨by rw [e1]; exact q.1, by rw [e2]; exact q.2⟩
      · exact Or.inr ⟨t, by omega, by rw [e1]; exact h2, h3, h4, by rw [e2]; exact h5⟩
def stW (S : sS) (p e : Nat) : Nat := if e ≤ S 5 p then 0 else if e ≤ S 5 p + S 6 p then 1 else 2
theorem stW_le (S : sS) (p e : Nat) : stW S p e ≤ 2 := by unfold stW; split <;> (try split) <;> omega
def gW (S : sS) (p m day w : Nat) : Nat := min (S 4 p) ((m / 8 + 1) * S 0 day * w / 100)
def sSt (S : sS) (p : Nat) (x : Int64) (day st : Nat) : Int64 := sBits (fun m => hasB x m && decide (sState S p m day = st)) 64
section XT
variable {p : Program} {l : Launch} {e : Env} {R : Room} {s : State} {m : MethodId} {args : Array Value} {below : List Frame} {meth : Method} {c : Code} {H : Heap} {locs : List Loc} {cells slots : Nat} {Q : State → Prop} {pc : Nat} {ls : Array Slot} {rest : List Value}
theorem n_topq {a b : Nat} (h : a = b) (k : W p l e R s m args below meth c H locs cells slots Q (F0 m pc ls (va_rf (rf b) :: rest))) : W p l e R s m args below meth c H locs cells slots Q (F0 m pc ls (va_rf (rf a) :: rest)) := by rw [h]; exact k
variable {cc : ByteArray} {D : va_G} {cA : Nat → ClassId} {B0 : Nat} {ad : kA} {d : kD}
theorem o_qret {post : Option Nat → kD → Prop} {r : Option Nat} {rt : FieldType} {v : Value} (hv : v = va_rf r) (hexec : p.tables.exec = Jvm.exec) (hb : c.code = cc) (hr : meth.sig.returnType = some rt) (hlocks : meth.locks = false) (hn : (∃ n, rt = .object n) ∨ ∃ t, rt = .array t) (hW : oW D cA B0 ad d H) (hS : va_S (oA B0) s.heap H locs) (hp : post r d) (hdg : decode cc pc = .ok (.areturn, 1)) : W p l e R s m args below meth c H locs cells slots (MQ below (oQq D cA B0 ad post) args s cells slots (oA B0)) (F0 m pc ls [v]) :=
  W.aret hexec hb hr hn (va_rf_or r |>.elim (fun z => Or.inl (hv.trans z)) (fun z => Or.inr ⟨z.choose, hv.trans z.choose_spec⟩)) (fun t ht _ => ⟨⟨r, d, by rw [hv], hp, by show oW D cA B0 ad d t.heap; rw [ht]; exact hW⟩, hS.F ht⟩) hS.2.2 hdg hlocks
end XT
section XQ
variable {p : Program} {l : Launch} {e : Env} {R : Room} {s : State} {m : MethodId} {args : Array Value} {below : List Frame} {meth : Method} {c : Code} {H : Heap} {locs : List Loc} {cells slots : Nat} {Q : State → Prop} {pc : Nat} {ls : Array Slot} {rest : List Value} {cc : ByteArray}
theorem x_aload_n (hexec : p.tables.exec = Jvm.exec) (hb : c.code = cc) {k : Fin 4} {i t : Nat} (hdg : decode cc pc = .ok (.aload_n k, 1)) (hi : (k : Nat) = i) (hl : ls[i]? = some (.val (va_rf (rf t))))
    (kk : W p l e R s m args below meth c H locs cells slots Q (F0 m (pc + 1) ls (va_rf (rf t) :: rest))) : W p l e R s m args below meth c H locs cells slots Q (F0 m pc ls rest) := by
  cases h : rf t with
  | none => rw [h] at hl kk; exact lv_aload_nN hexec hb hdg hi hl kk
  | some q => rw [h] at hl kk; exact lv_aload_n hexec hb hdg hi hl kk
theorem x_aload (hexec : p.tables.exec = Jvm.exec) (hb : c.code = cc) {i t : Nat} (hdg : decode cc pc = .ok (.aload i, 2)) (hl : ls[i]? = some (.val (va_rf (rf t))))
    (kk : W p l e R s m args below meth c H locs cells slots Q (F0 m (pc + 2) ls (va_rf (rf t) :: rest))) : W p l e R s m args below meth c H locs cells slots Q (F0 m pc ls rest) := by
  cases h : rf t with
  | none => rw [h] at hl kk; exact lv_aloadN hexec hb hdg hl kk
  | some q => rw [h] at hl kk; exact lv_aload hexec hb hdg hl kk
theorem x_astore_n (hexec : p.tables.exec = Jvm.exec) (hb : c.code = cc) {k : Fin 4} {i nL t : Nat} {lv lv' : List (Nat × Value)} (hdg : decode cc pc = .ok (.astore_n k, 1)) (hi : (k : Nat) = i) (h : lv_has ls nL lv) (hn : i < nL) (hl : (i, va_rf (rf t)) :: lv.filter (fun q => !(q.1 == i) && !(q.1 + 1 == i && q.2.category == 2)) = lv')
    (kk : ∀ ls' : Array Slot, lv_has ls' nL lv' → W p l e R s m args below meth c H locs cells slots Q (F0 m (pc + 1) ls' rest)) : W p l e R s m args below meth c H locs cells slots Q (F0 m pc ls (va_rf (rf t) :: rest)) := by
  cases hq : rf t with
  | none => rw [hq] at hl; exact lv_astore_nN hexec hb hdg hi h hn hl kk
  | some q => rw [hq] at hl; exact lv_astore_n hexec hb hdg hi h hn hl kk
theorem x_astore (hexec : p.tables.exec = Jvm.exec) (hb : c.code = cc) {i nL t : Nat} {lv lv' : List (Nat × Value)} (hdg : decode cc pc = .ok (.astore i, 2)) (h : lv_has ls nL lv) (hn : i < nL) (hl : (i, va_rf (rf t)) :: lv.filter (fun q => !(q.1 == i) && !(q.1 + 1 == i && q.2.category == 2)) = lv')
    (kk : ∀ ls' : Array Slot, lv_has ls' nL lv' → W p l e R s m args below meth c H locs cells slots Q (F0 m (pc + 2) ls' rest)) : W p l e R s m args below meth c H locs cells slots Q (F0 m pc ls (va_rf (rf t) :: rest)) := by
  cases hq : rf t with
  | none => rw [hq] at hl; exact lv_astoreN hexec hb hdg h hn hl kk
  | some q => rw [hq] at hl; exact lv_astore hexec hb hdg h hn hl kk
end XQ
