/-! the walking of a pier's stories -/
theorem w_st {a dd w wd t s10 st sk : Nat} (hw : w + sk = t) (h1 : sk = if a ≤ dd then st + s10 else st) (h2 : wd = if a ≤ dd then s10 else 0) : w + wd + st = t := by
  by_cases z : a ≤ dd
  · rw [if_pos z] at h1 h2; omega
  · rw [if_neg z] at h1 h2; omega
def Mk (S : sS) (d : kD) (p k : Nat) : Prop := ∀ j, 1 ≤ j → j ≤ k → ∀ m, m < 64 → d.1 3 p (64 * j + m) = nI (pkd (sHE S p m (40 * j)))
theorem Wk.mk {S : sS} {d : kD} {p w k : Nat} (h : Wk S d p w k) : Mk S d p k := h.2.2.2.2.2
/-- the stories of the minds below n are set, nothing above them -/
def BT (g : Nat → Nat) (p n : Nat) (d0 d : kD) : Prop := F1 p d0 d ∧ (∀ m, m < n → d.1 3 p m = nI (g m)) ∧ (∀ f, n ≤ f → d.1 3 p f = d0.1 3 p f) ∧ d.1 6 = d0.1 6
theorem BT.start (g : Nat → Nat) (p : Nat) (d : kD) : BT g p 0 d d := ⟨F1.refl p d, fun _ h => absurd h (Nat.not_lt_zero _), fun _ _ => rfl, rfl⟩
theorem BT.st {g : Nat → Nat} {p n v : Nat} {d0 d : kD} (h : BT g p n d0 d) (hv : v = g n) : BT g p (n + 1) d0 (uI d 3 p n (nI v)) := by
  obtain ⟨h1, h2, h3, h4⟩ := h
  refine ⟨h1.st 3 p n _ (Or.inl ⟨rfl, rfl⟩), fun m hm => ?_, fun f hf => ?_, by rw [uI_k _ _ _ _ (by decide)]; exact h4⟩
  · by_cases e : m = n
    · subst e; rw [uI_s, hv]
    · rw [uI_f _ _ _ _ e]; exact h2 m (by omega)
  · rw [uI_f _ _ _ _ (by omega)]; exact h3 f (by omega)
theorem BT.rd {g : Nat → Nat} {p n f : Nat} {d0 d : kD} (h : BT g p n d0 d) {v : Int32} (hv : d0.1 3 p f = v) (hf : n ≤ f) : d.1 3 p f = v := by rw [h.2.2.1 f hf]; exact hv
theorem F1.p7 {p : Nat} {d d1 : kD} (h : F1 p d d1) (v : Int32) : F1 p d (uI d1 6 p 7 v) := h.st 6 p 7 v (Or.inr ⟨rfl, rfl, Or.inl rfl⟩)
theorem F1.p8 {p : Nat} {d d1 : kD} (h : F1 p d d1) (v : Int32) : F1 p d (uI d1 6 p 8 v) := h.st 6 p 8 v (Or.inr ⟨rfl, rfl, Or.inr rfl⟩)
theorem BT.back {S : sS} {p mk k : Nat} {d0 d : kD} (h : BT (fun m => pkd (sHE S p m (40 * mk))) p 64 d0 d) (hMk : Mk S d0 p k) : At S (uI d 6 p 7 (nI (40 * mk))) p (40 * mk) ∧ Mk S (uI d 6 p 7 (nI (40 * mk))) p k ∧ F1 p d0 (uI d 6 p 7 (nI (40 * mk))) ∧ (uI d 6 p 7 (nI (40 * mk))).1 6 p 8 = d0.1 6 p 8 := by
  refine ⟨⟨uI_s _ _ _ _ _, fun m hm => by rw [uI_k _ _ _ _ (by decide)]; exact h.2.1 m hm⟩, fun j h1 h2 m hm => ?_, h.1.p7 _, ?_⟩
  · rw [uI_k _ _ _ _ (by decide), h.2.2.1 _ (by omega)]; exact hMk j h1 h2 m hm
  · rw [uI_f _ _ _ _ (by decide), h.2.2.2]
/-- a mark is put: the rows of mark k + 1, below m -/
def PM (S : sS) (p k n : Nat) (d0 d : kD) : Prop := F1 p d0 d ∧ d.1 6 p 7 = d0.1 6 p 7 ∧ d.1 6 p 8 = nI (k + 1) ∧ (∀ m, m < n → d.1 3 p (64 * (k + 1) + m) = nI (pkd (sHE S p m (40 * (k + 1))))) ∧ ∀ f, f < 64 * (k + 1) → d.1 3 p f = d0.1 3 p f
theorem PM.start (S : sS) (p k : Nat) (d : kD) : PM S p k 0 d (uI d 6 p 8 (nI (k + 1))) := ⟨(F1.refl p d).p8 _, uI_f _ _ _ _ (by decide), uI_s _ _ _ _ _, fun _ h => absurd h (Nat.not_lt_zero _), fun f _ => by rw [uI_k _ _ _ _ (by decide)]⟩
theorem PM.st {S : sS} {p k n a v : Nat} {d0 d : kD} (h : PM S p k n d0 d) (ha : a = 64 * (k + 1) + n) (hv : v = pkd (sHE S p n (40 * (k + 1)))) : PM S p k (n + 1) d0 (uI d 3 p a (nI v)) := by
  subst ha
  obtain ⟨h1, h2, h3, h4, h5⟩ := h
  refine ⟨h1.st 3 p _ _ (Or.inl ⟨rfl, rfl⟩), by rw [uI_k _ _ _ _ (by decide)]; exact h2, by rw [uI_k _ _ _ _ (by decide)]; exact h3, fun m hm => ?_, fun f hf => by rw [uI_f _ _ _ _ (by omega)]; exact h5 f hf⟩
  by_cases e : m = n
  · subst e; rw [uI_s, hv]
  · rw [uI_f _ _ _ _ (by omega)]; exact h4 m (by omega)
theorem PM.end {S : sS} {p k : Nat} {d0 d : kD} (h : PM S p k 64 d0 d) (hMk : Mk S d0 p k) : Mk S d p (k + 1) := by
  intro j h1 h2 m hm
  by_cases e : j = k + 1
  · subst e; exact h.2.2.2.1 m hm
  · rw [h.2.2.2.2 _ (by omega)]; exact hMk j h1 (by omega) m hm
/-- a day is walked: the minds below n -/
def WL (S : sS) (p day n : Nat) (d0 d : kD) : Prop := F1 p d0 d ∧ (∀ m, m < n → m < 64 → d.1 3 p m = nI (pkd (sHE S p m (day + 1)))) ∧ (∀ f, n ≤ f → d.1 3 p f = d0.1 3 p f) ∧ (∀ f, 64 ≤ f → d.1 3 p f = d0.1 3 p f) ∧ d.1 6 = d0.1 6
theorem WL.start (S : sS) (p day : Nat) (d : kD) : WL S p day 0 d d := ⟨F1.refl p d, fun _ h => absurd h (Nat.not_lt_zero _), fun _ _ => rfl, fun _ _ => rfl, rfl⟩
theorem WL.st {S : sS} {p day n v : Nat} {d0 d : kD} (h : WL S p day n d0 d) (hn : n < 64) (hv : v = pkd (sHE S p n (day + 1))) : WL S p day (n + 1) d0 (uI d 3 p n (nI v)) := by
  obtain ⟨h1, h2, h3, h4, h5⟩ := h
  refine ⟨h1.st 3 p n _ (Or.inl ⟨rfl, rfl⟩), fun m hm hm6 => ?_, fun f hf => ?_, fun f hf => ?_, by rw [uI_k _ _ _ _ (by decide)]; exact h5⟩
  · by_cases e : m = n
    · subst e; rw [uI_s, hv]
    · rw [uI_f _ _ _ _ e]; exact h2 m (by omega) hm6
  · rw [uI_f _ _ _ _ (by omega)]; exact h3 f (by omega)
  · rw [uI_f _ _ _ _ (by omega)]; exact h4 f hf
theorem sGoal_8 (S : sS) (p fi b day : Nat) {a : Nat} (hf : fi = 8 * a) (hb : b < 8) : sGoal S p (fi + b) day = gW S p fi day (sW S p day (S 11 0)) := by
  unfold sGoal gW
  rw [show (fi + b) / 8 = fi / 8 by omega]
theorem sHE_8 (S : sS) (p fi b day : Nat) {a : Nat} (hf : fi = 8 * a) (hb : b < 8) : (sStep (sHE S p (fi + b) day).1 (gW S p fi day (sW S p day (S 11 0))) b, max (sHE S p (fi + b) day).2 (sStep (sHE S p (fi + b) day).1 (gW S p fi day (sW S p day (S 11 0))) b)) = sHE S p (fi + b) (day + 1) := by
  rw [sHE, sGoal_8 S p fi b day hf hb, show (fi + b) % 8 = b by omega]
theorem gW_le {S : sS} (hG : sG S) {p : Nat} (hp : p < 8) (m day w : Nat) : gW S p m day w ≤ 200 := Nat.le_trans (Nat.min_le_left _ _) (hG.a 4 p (n := 8) (mx := 200) (by decide) hp)
theorem WL.end {S : sS} {p day w k : Nat} {d0 d : kD} (h : WL S p day 64 d0 d) (hw : Wk S d0 p w k) (hd : day < 400) : Wk S (uI d 6 p 7 (nI (day + 1))) p (day + 1) k ∧ F1 p d0 (uI d 6 p 7 (nI (day + 1))) := by
  refine ⟨⟨by omega, hw.2.1, uI_s _ _ _ _ _, ?_, fun m hm => ?_, fun j h1 h2 m hm => ?_⟩, h.1.p7 _⟩
  · rw [uI_f _ _ _ _ (by decide), h.2.2.2.2]; exact hw.2.2.2.1
  · rw [uI_k _ _ _ _ (by decide)]; exact h.2.1 m hm hm
  · rw [uI_k _ _ _ _ (by decide), h.2.2.2.1 _ (by omega)]; exact hw.mk j h1 h2 m hm
def gEv (S : sS) (p day : Nat) (x : Int64) : Nat → Nat
  | 0 => 0
  | m + 1 => if hasB x m = true then max (gEv S p day x m) (sEver S p m day) else gEv S p day x m
theorem gEv_le {S : sS} (hG : sG S) {p : Nat} (hp : p < 8) (day : Nat) (x : Int64) : ∀ m, gEv S p day x m ≤ 200
  | 0 => Nat.zero_le _
  | m + 1 => by
    have h1 := gEv_le hG hp day x m
    have h2 : sEver S p m day ≤ 200 := (sHE_le hG hp (day + 1)).2
    rw [gEv]; split <;> omega
