/-! looks to come: sights of a day -/
theorem plV_mono (S : sS) (p er : Nat) (dy : Nat → Nat) (n : Nat) : ∀ k {x y : Int64} i, (∀ m, m < 64 → hasB x m = true → hasB y m = true) → plV S p er dy n k x i ≤ plV S p er dy n k y i
  | 0, x, y, i, h => popN_mono h
  | k + 1, x, y, i, h => by
    rw [plV_suc, plV_suc]
    have key : ∀ c, (∀ j, bhV S p er dy n k x (i + j) ≤ bhV S p er dy n k y (i + j)) → minL (fun j => bhV S p er dy n k x (i + j)) (popN x) c ≤ minL (fun j => bhV S p er dy n k y (i + j)) (popN y) c := by
      intro c hb
      induction c with
      | zero => exact popN_mono h
      | succ c ih => rw [minL, minL]; have := hb c; omega
    refine key _ (fun j => ?_)
    refine wvL_max 64 (fun m hm hb => ?_)
    have h1 := plV_mono S p er dy n k (x := sLeft S p x (dy (i + j)) er m) (y := sLeft S p y (dy (i + j)) er m) (i + j + 1) (fun q hq hh => by
      rw [hasB_left hq, Bool.and_eq_true] at hh ⊢
      exact ⟨h q hq hh.1, hh.2⟩)
    exact Nat.le_trans h1 (wvL_ub (f := fun y => plV S p er dy n k y (i + j + 1)) (h m hm hb) 64 hm)
theorem stB_sub {ys x y : Int64} (h : ∀ m, m < 64 → hasB x m = true → hasB y m = true) (hy : stB ys y = true) : stB ys x = true := by
  have hy := of_decide_eq_true hy
  apply decide_eq_true
  rcases hy with q | q
  · left
    apply hasB_z
    intro k hk
    rw [hasB_and _ _ hk]
    cases a : hasB x k
    · rfl
    · have := hasB_zero k hk
      rw [← q, hasB_and _ _ hk, h k hk a, Bool.true_and] at this
      rw [this]; rfl
  · right
    apply hasB_ext
    intro k hk
    rw [hasB_and _ _ hk]
    cases a : hasB x k
    · rfl
    · have hb := h k hk a
      rw [← q, hasB_and _ _ hk, Bool.and_eq_true] at hb
      rw [hb.2]; rfl
theorem anyL_ex {g : Nat → Bool} : ∀ n, anyL g n = true ↔ ∃ j, j < n ∧ g j = true
  | 0 => ⟨fun h => by (rw [anyL] at h; cases h), fun ⟨j, h, _⟩ => absurd h (Nat.not_lt_zero _)⟩
  | n + 1 => by
    rw [anyL, Bool.or_eq_true, anyL_ex n]
    constructor
    · rintro (⟨j, h1, h2⟩ | h)
      · exact ⟨j, by omega, h2⟩
      · exact ⟨n, Nat.lt_succ_self n, h⟩
    · rintro ⟨j, h1, h2⟩
      by_cases e : j = n
      · subst e; exact Or.inr h2
      · exact Or.inl ⟨j, by omega, h2⟩
theorem stV_sub (S : sS) (p er : Nat) (dy : Nat → Nat) (n : Nat) (ys : Int64) : ∀ k {x y : Int64} i, (∀ m, m < 64 → hasB x m = true → hasB y m = true) → stV S p er dy n ys k y i = true → stV S p er dy n ys k x i = true
  | 0, x, y, i, h, hy => stB_sub h hy
  | k + 1, x, y, i, h, hy => by
    rw [stV_suc, Bool.or_eq_true] at hy ⊢
    rcases hy with q | q
    · exact Or.inl (stB_sub h q)
    · right
      rw [anyL_ex] at q ⊢
      obtain ⟨j, hj, hs⟩ := q
      refine ⟨j, hj, ?_⟩
      unfold sbV at hs ⊢
      rw [allL_t] at hs ⊢
      intro m hm
      cases a : hasB x m
      · rfl
      · have h1 := hs m hm
        rw [h m hm a, Bool.not_true, Bool.false_or] at h1
        rw [Bool.not_true, Bool.false_or]
        exact stV_sub S p er dy n ys k _ (fun q hq hh => by
          rw [hasB_left hq, Bool.and_eq_true] at hh ⊢
          exact ⟨h q hq hh.1, hh.2⟩) h1
/-- the minds of x that have a hole -/
def sHB (S : sS) (p : Nat) (x : Int64) (day h : Nat) : Int64 := sBits (fun m => hasB x m && decide (sHole S p m day = h)) 64
theorem hasB_HB {S : sS} {p : Nat} {x : Int64} {day h k : Nat} (hk : k < 64) : hasB (sHB S p x day h) k = (hasB x k && decide (sHole S p k day = h)) := by
  unfold sHB
  rw [hasB_sBits _ 64 (Nat.le_refl _) k hk, decide_eq_true hk, Bool.true_and]
def sNA (S : sS) (p : Nat) (x : Int64) (day h : Nat) : Int64 := sBits (fun m => hasB x m && decide (sHole S p m day < h)) 64
theorem hasB_NA {S : sS} {p : Nat} {x : Int64} {day h k : Nat} (hk : k < 64) : hasB (sNA S p x day h) k = (hasB x k && decide (sHole S p k day < h)) := by
  unfold sNA
  rw [hasB_sBits _ 64 (Nat.le_refl _) k hk, decide_eq_true hk, Bool.true_and]
theorem sNA_0 (S : sS) (p : Nat) (x : Int64) (day : Nat) : sNA S p x day 0 = 0 := hasB_z (fun k hk => by rw [hasB_NA hk, decide_eq_false (Nat.not_lt_zero _), Bool.and_false])
theorem sNA_s (S : sS) (p : Nat) (x : Int64) (day h : Nat) : sNA S p x day h ||| sHB S p x day h = sNA S p x day (h + 1) := by
  apply hasB_ext
  intro k hk
  rw [hasB_or _ _ hk, hasB_NA hk, hasB_HB hk, hasB_NA hk]
  cases hasB x k
  · rfl
  · rw [Bool.true_and, Bool.true_and, Bool.true_and]
    by_cases a : sHole S p k day < h
    · rw [decide_eq_true a, decide_eq_true (show sHole S p k day < h + 1 by omega), Bool.true_or]
    · by_cases b : sHole S p k day = h
      · rw [decide_eq_true b, decide_eq_true (show sHole S p k day < h + 1 by omega), Bool.or_true]
      · rw [decide_eq_false a, decide_eq_false b, decide_eq_false (show ¬ sHole S p k day < h + 1 by omega)]; rfl
theorem left_NA {S : sS} {p : Nat} {x : Int64} {day er m : Nat} (hG : sG S) (hp : p < 8) : sNA S p x day (min 200 (sHole S p m day + er) + 1) &&& (sNA S p x day (max 0 (sHole S p m day - er)) ^^^ (-1)) = sLeft S p x day er m := by
  apply hasB_ext
  intro k hk
  rw [hasB_and _ _ hk, hasB_not _ hk, hasB_NA hk, hasB_NA hk, hasB_left hk]
  have h2 : sHole S p k day ≤ 200 := (sHE_le hG hp (day + 1)).1
  cases hasB x k
  · rfl
  · rw [Bool.true_and, Bool.true_and, Bool.true_and]
    have e : decide (adf (sHole S p k day) (sHole S p m day) ≤ er) = (decide (sHole S p k day < min 200 (sHole S p m day + er) + 1) && !decide (sHole S p k day < max 0 (sHole S p m day - er))) := by
      by_cases a : sHole S p k day < min 200 (sHole S p m day + er) + 1
      · by_cases b : sHole S p k day < max 0 (sHole S p m day - er)
        · rw [decide_eq_true b, decide_eq_false (show ¬ adf (sHole S p k day) (sHole S p m day) ≤ er by unfold adf; omega)]; simp
        · rw [decide_eq_true a, decide_eq_false b, decide_eq_true (show adf (sHole S p k day) (sHole S p m day) ≤ er by unfold adf; omega)]; rfl
      · rw [decide_eq_false a, decide_eq_false (show ¬ adf (sHole S p k day) (sHole S p m day) ≤ er by unfold adf; omega)]; rfl
    rw [e]
/-- what changes as days are added -/
def IA (k f : Nat) : Bool := decide (k = 3 ∨ (k = 6 ∧ (f = 7 ∨ f = 8)) ∨ k = 16 ∨ k = 19)
def JA (k f : Nat) : Bool := decide (17 ≤ k ∧ k ≤ 21 ∧ k ≠ 19 ∧ ¬ (k = 21 ∧ f = 0))
def XA (cA : Nat → ClassId) (ad : kA) (S : sS) (d0 d : kD) : Prop := InvX cA ad S d ∧ Fr IA JA d0 d
theorem Fr.ax {d d1 : kD} (h : Fr IA JA d d1) : Fr IX JX d d1 := h.mono (fun k f q => decide_eq_false (fun z => of_decide_eq_false q (by omega))) (fun k f q => decide_eq_false (fun z => of_decide_eq_false q (by omega)))
theorem Fr.wa {d d1 : kD} (h : Fr IW J0 d d1) : Fr IA JA d d1 := h.mono (fun k f q => decide_eq_false (fun z => of_decide_eq_false q (by omega))) (fun _ _ _ => rfl)
theorem XA.start {cA : Nat → ClassId} {ad : kA} {S : sS} {d : kD} (h : InvX cA ad S d) : XA cA ad S d d := ⟨h, Fr.refl _ _ d⟩
theorem XA.trans {cA : Nat → ClassId} {ad : kA} {S : sS} {d d1 d2 : kD} (h : XA cA ad S d d1) (h2 : XA cA ad S d1 d2) : XA cA ad S d d2 := ⟨h2.1, h.2.trans h2.2⟩
theorem XA.w {cA : Nat → ClassId} {ad : kA} {S : sS} {d d1 d2 : kD} (h : XA cA ad S d d1) (h2 : XW cA ad S d1 d2) : XA cA ad S d d2 := ⟨h2.1, h.2.trans h2.2.wa⟩
theorem XX.a {cA : Nat → ClassId} {ad : kA} {S : sS} {d d1 d2 : kD} (h : XX cA ad S d d1) (h2 : XA cA ad S d1 d2) : XX cA ad S d d2 := ⟨h2.1, h.2.trans h2.2.ax⟩
theorem KP.fa {S : sS} {day : Nat} {d d1 : kD} (h : KP S day d) (hf : Fr IA JA d d1) : KP S day d1 :=
  ⟨fun p hp => ⟨by rw [hf.2.1 _ _ _ rfl]; exact (h.1 p hp).1, by rw [hf.2.1 _ _ _ rfl]; exact (h.1 p hp).2⟩, fun b hb => by rw [hf.1 25 0 b rfl]; exact h.2.1 b hb, fun l hl => by rw [hf.2.1 _ _ _ rfl]; exact h.2.2 l hl⟩
theorem XA.uJ {cA : Nat → ClassId} {ad : kA} {S : sS} {d0 d : kD} (h : XA cA ad S d0 d) (k i f : Nat) (v : Int64) (hk : JA k f = true) : XA cA ad S d0 (uJ d k i f v) := by
  have hq := of_decide_eq_true hk
  exact ⟨h.1.cg ((Fr.refl IX JX d).stJ k i f v (decide_eq_true (by omega))) (fun _ => rfl) (fun _ _ => rfl) (fun _ => rfl) (fun l => uJ_n _ _ (by omega)), h.2.stJ k i f v hk⟩
theorem XA.uI {cA : Nat → ClassId} {ad : kA} {S : sS} {d0 d : kD} (h : XA cA ad S d0 d) (k i f : Nat) (v : Int32) (hk : k = 16 ∨ k = 19) : XA cA ad S d0 (uI d k i f v) :=
  ⟨h.1.cg ((Fr.refl IX JX d).stI k i f v (decide_eq_true (by omega))) (fun p => by rw [uI_k _ _ _ _ (by omega)]) (fun p f => by rw [uI_k _ _ _ _ (by omega)]) (fun l => by rw [uI_k _ _ _ _ (by omega)]) (fun _ => rfl), h.2.stI k i f v (decide_eq_true (by omega))⟩
/-- a filled array of longs -/
def FKJ (k0 : Nat) (d0 d : kD) : Prop := d.1 = d0.1 ∧ (∀ k i f, ¬ (k = k0 ∧ i = 0) → d.2.1 k i f = d0.2.1 k i f) ∧ d.2.2 = d0.2.2
theorem FKJ.refl (k : Nat) (d : kD) : FKJ k d d := ⟨rfl, fun _ _ _ _ => rfl, rfl⟩
theorem FKJ.st {k0 : Nat} {d d1 : kD} (h : FKJ k0 d d1) (f : Nat) (v : Int64) : FKJ k0 d (uJ d1 k0 0 f v) := ⟨h.1, fun k i f' q => by rw [← h.2.1 k i f' q]; exact uJ_n _ _ (fun z => q ⟨z.1, z.2.1⟩), h.2.2⟩
theorem FKJ.a {cA : Nat → ClassId} {ad : kA} {S : sS} {d0 d d1 : kD} (h : XA cA ad S d0 d) (hF : FKJ 20 d d1) : XA cA ad S d0 d1 := by
  refine ⟨h.1.cg ⟨fun k i f _ => by rw [hF.1], fun k i f q => hF.2.1 k i f (fun z => of_decide_eq_false q (by omega)), hF.2.2⟩ (fun p => by rw [hF.1]) (fun p f => by rw [hF.1]) (fun l => by rw [hF.1]) (fun l => hF.2.1 _ _ _ (by omega)), h.2.trans ⟨fun k i f _ => by rw [hF.1], fun k i f q => hF.2.1 k i f (fun z => of_decide_eq_false q (by omega)), hF.2.2⟩⟩
/-- the minds below k are sorted by their holes -/
def WH (S : sS) (p : Nat) (x : Int64) (day k : Nat) (d : kD) : Prop := ∀ h, h < 201 → d.2.1 20 0 h = sBits (fun m => hasB x m && decide (sHole S p m day = h)) k
theorem WH.no {S : sS} {p : Nat} {x : Int64} {day k : Nat} {d : kD} (h : WH S p x day k d) (hn : hasB x k = false) : WH S p x day (k + 1) d := fun q hq => by
  rw [sBits, if_neg (by rw [hn, Bool.false_and]; decide)]; exact h q hq
theorem WH.yes {S : sS} {p : Nat} {x : Int64} {day k : Nat} {d : kD} (h : WH S p x day k d) (hn : hasB x k = true) (hh : sHole S p k day ≤ 200) {v : Int64} (hv : v = sBits (fun m => hasB x m && decide (sHole S p m day = sHole S p k day)) k ||| lsl 1 k) : WH S p x day (k + 1) (uJ d 20 0 (sHole S p k day) v) := fun q hq => by
  by_cases e : q = sHole S p k day
  · subst e
    rw [uJ_s, sBits, if_pos (by rw [hn, decide_eq_true rfl]; rfl), hv]
  · rw [uJ_f _ _ _ _ e, sBits, if_neg (by rw [decide_eq_false (fun z => e z.symm), Bool.and_false]; decide)]; exact h q hq
def NAt (S : sS) (p : Nat) (x : Int64) (day k : Nat) (d : kD) : Prop := ∀ h, h ≤ k → d.2.1 21 0 h = sNA S p x day h
theorem NAt.st {S : sS} {p : Nat} {x : Int64} {day k : Nat} {d : kD} (h : NAt S p x day k d) {v : Int64} (hv : v = sNA S p x day (k + 1)) : NAt S p x day (k + 1) (uJ d 21 0 (k + 1) v) := fun q hq => by
  by_cases e : q = k + 1
  · subst e; rw [uJ_s, hv]
  · rw [uJ_f _ _ _ _ e]; exact h q (by omega)
/-- sorted by holes -/
def SH (S : sS) (p : Nat) (x : Int64) (day : Nat) (d : kD) : Prop := (∀ h, h < 201 → d.2.1 20 0 h = sHB S p x day h) ∧ ∀ h, h ≤ 201 → d.2.1 21 0 h = sNA S p x day h
/-- the sights of a slot, each with a mind that has it; those of the holes below b -/
def SI (S : sS) (p er : Nat) (x : Int64) (day s c b : Nat) (d : kD) : Prop := c ≤ ctB (fun m => hasB x m && decide (sHole S p m day < b)) 64 ∧ ∃ rep : Nat → Nat, (∀ i, i < c → rep i < 64 ∧ hasB x (rep i) = true ∧ d.2.1 17 0 (64 * s + i) = sHB S p x day (sHole S p (rep i) day) ∧ d.2.1 18 0 (64 * s + i) = sLeft S p x day er (rep i)) ∧ ∀ m, m < 64 → hasB x m = true → sHole S p m day < b → ∃ i, i < c ∧ sHole S p (rep i) day = sHole S p m day
theorem ctB_le (p : Nat → Bool) : ∀ n, ctB p n ≤ n
  | 0 => Nat.le_refl _
  | n + 1 => by have := ctB_le p n; rw [ctB]; split <;> omega
theorem ctB_all {p : Nat → Bool} : ∀ n, ctB p n = n → ∀ k, k < n → p k = true
  | 0, _, k, hk => absurd hk (Nat.not_lt_zero _)
  | n + 1, h, k, hk => by
    have h1 := ctB_le p n
    rw [ctB] at h
    by_cases q : p n = true
    · rw [if_pos q] at h
      by_cases e : k = n
      · rw [e]; exact q
      · exact ctB_all n (by omega) k (by omega)
    · rw [if_neg q] at h; omega
theorem SI.start (S : sS) (p er : Nat) (x : Int64) (day s : Nat) (d : kD) : SI S p er x day s 0 0 d := ⟨Nat.zero_le _, fun _ => 0, fun _ h => absurd h (Nat.not_lt_zero _), fun _ _ _ h => absurd h (Nat.not_lt_zero _)⟩
theorem SI.le {S : sS} {p er : Nat} {x : Int64} {day s c b : Nat} {d : kD} (h : SI S p er x day s c b d) : c ≤ 64 := Nat.le_trans h.1 (ctB_le _ 64)
theorem ctB_sub {p q : Nat → Bool} : ∀ n, (∀ k, k < n → p k = true → q k = true) → ctB p n ≤ ctB q n
  | 0, _ => Nat.le_refl _
  | n + 1, h => by
    have h1 := ctB_sub n (fun k hk => h k (by omega))
    rw [ctB, ctB]
    by_cases z : p n = true
    · rw [if_pos z, if_pos (h n (Nat.lt_succ_self n) z)]; omega
    · rw [if_neg z]; split <;> omega
theorem ctB_sub1 {p q : Nat → Bool} {j : Nat} (hp : p j = false) (hq : q j = true) : ∀ n, j < n → (∀ k, k < n → p k = true → q k = true) → ctB p n + 1 ≤ ctB q n
  | 0, h, _ => absurd h (Nat.not_lt_zero _)
  | n + 1, hj, h => by
    rw [ctB, ctB]
    by_cases e : j = n
    · subst e
      have h1 := ctB_sub j (fun k hk => h k (by omega))
      rw [if_neg (by rw [hp]; decide), if_pos hq]; omega
    · have h1 := ctB_sub1 hp hq n (by omega) (fun k hk => h k (by omega))
      by_cases z : p n = true
      · rw [if_pos z, if_pos (h n (Nat.lt_succ_self n) z)]; omega
      · rw [if_neg z]; split <;> omega
theorem SI.no {S : sS} {p er : Nat} {x : Int64} {day s c b : Nat} {d : kD} (h : SI S p er x day s c b d) (hn : sHB S p x day b = 0) : SI S p er x day s c (b + 1) d := by
  obtain ⟨h1, rep, h2, h3⟩ := h
  refine ⟨Nat.le_trans h1 (ctB_sub 64 (fun k hk q => ?_)), rep, h2, fun m hm hb hl => ?_⟩
  · rw [Bool.and_eq_true] at q ⊢
    exact ⟨q.1, decide_eq_true (by have := of_decide_eq_true q.2; omega)⟩
  · by_cases e : sHole S p m day = b
    · exfalso
      have := hasB_zero m hm
      rw [← hn, hasB_HB hm, hb, decide_eq_true e] at this; cases this
    · exact h3 m hm hb (by omega)
theorem SI.yes {S : sS} {p er : Nat} {x : Int64} {day s c b m0 : Nat} {d : kD} (h : SI S p er x day s c b d) (hm0 : m0 < 64) (hb0 : hasB x m0 = true) (hh : sHole S p m0 day = b) {v w : Int64} (hv : v = sHB S p x day (sHole S p m0 day)) (hw : w = sLeft S p x day er m0) : SI S p er x day s (c + 1) (b + 1) (uJ (uJ d 17 0 (64 * s + c) v) 18 0 (64 * s + c) w) := by
  obtain ⟨h1, rep, h2, h3⟩ := h
  refine ⟨?_, fun i => if i = c then m0 else rep i, fun i hi => ?_, fun m hm hb hl => ?_⟩
  · refine Nat.le_trans (Nat.succ_le_succ h1) (ctB_sub1 (j := m0) ?_ ?_ 64 hm0 (fun k hk q => ?_))
    · rw [decide_eq_false (by omega), Bool.and_false]
    · rw [hb0, decide_eq_true (by omega)]; rfl
    · rw [Bool.and_eq_true] at q ⊢
      exact ⟨q.1, decide_eq_true (by have := of_decide_eq_true q.2; omega)⟩
  · by_cases e : i = c
    · subst e
      dsimp only
      rw [if_pos rfl]
      exact ⟨hm0, hb0, by rw [uJ_k _ _ _ _ (by decide), uJ_s, hv], by rw [uJ_s, hw]⟩
    · dsimp only
      rw [if_neg e]
      have := h2 i (by omega)
      exact ⟨this.1, this.2.1, by rw [uJ_k _ _ _ _ (by decide), uJ_f _ _ _ _ (by omega)]; exact this.2.2.1, by rw [uJ_f _ _ _ _ (by omega), uJ_k _ _ _ _ (by decide)]; exact this.2.2.2⟩
  · by_cases e : sHole S p m day = b
    · exact ⟨c, Nat.lt_succ_self c, by dsimp only; rw [if_pos rfl, hh, e]⟩
    · obtain ⟨i, hi, hr⟩ := h3 m hm hb (by omega)
      exact ⟨i, by omega, by dsimp only; rw [if_neg (by omega)]; exact hr⟩
/-- all sights of a slot -/
def SL (S : sS) (p er : Nat) (x : Int64) (day s : Nat) (d : kD) : Prop := ∃ c, c ≤ 64 ∧ d.1 19 0 s = nI c ∧ ∃ rep : Nat → Nat, (∀ i, i < c → rep i < 64 ∧ hasB x (rep i) = true ∧ d.2.1 17 0 (64 * s + i) = sHB S p x day (sHole S p (rep i) day) ∧ d.2.1 18 0 (64 * s + i) = sLeft S p x day er (rep i)) ∧ ∀ m, m < 64 → hasB x m = true → ∃ i, i < c ∧ sHole S p (rep i) day = sHole S p m day
theorem SI.end {S : sS} {p er : Nat} {x : Int64} {day s c b : Nat} {d : kD} (h : SI S p er x day s c b d) (hG : sG S) (hp : p < 8) (he : 200 < b ∨ 64 ≤ c) (v : Int32) : SL S p er x day s (uI (uI d 19 0 s (nI c)) 16 0 5 v) := by
  have hc := h.le
  obtain ⟨h1, rep, h2, h3⟩ := h
  refine ⟨c, hc, by rw [uI_k _ _ _ _ (by decide), uI_s], rep, h2, fun m hm hb => h3 m hm hb ?_⟩
  have hh : sHole S p m day ≤ 200 := (sHE_le hG hp (day + 1)).1
  rcases he with q | q
  · omega
  · have h4 : ctB (fun m => hasB x m && decide (sHole S p m day < b)) 64 = 64 := by
      have := ctB_le (fun m => hasB x m && decide (sHole S p m day < b)) 64
      omega
    have := ctB_all 64 h4 m hm
    rw [Bool.and_eq_true] at this
    exact of_decide_eq_true this.2
theorem SL.fr {S : sS} {p er : Nat} {x : Int64} {day s : Nat} {d d1 : kD} (h : SL S p er x day s d) (h19 : d1.1 19 0 s = d.1 19 0 s) (hj : ∀ i, i < 64 → d1.2.1 17 0 (64 * s + i) = d.2.1 17 0 (64 * s + i) ∧ d1.2.1 18 0 (64 * s + i) = d.2.1 18 0 (64 * s + i)) : SL S p er x day s d1 := by
  obtain ⟨c, hc, e, rep, h2, h3⟩ := h
  refine ⟨c, hc, by rw [h19]; exact e, rep, fun i hi => ?_, h3⟩
  have := h2 i hi
  have hq := hj i (by omega)
  exact ⟨this.1, this.2.1, by rw [hq.1]; exact this.2.2.1, by rw [hq.2]; exact this.2.2.2⟩
def NS (d0 d : kD) : Prop := d.1 16 = d0.1 16 ∧ d.1 19 = d0.1 19 ∧ d.2.1 17 = d0.2.1 17 ∧ d.2.1 18 = d0.2.1 18
theorem NS.of1 {p : Nat} {d0 d : kD} (h : F1 p d0 d) : NS d0 d := ⟨by funext i f; exact h.1 _ _ _ (by omega), by funext i f; exact h.1 _ _ _ (by omega), by rw [h.2], by rw [h.2]⟩
theorem NS.fkj {d0 d d1 : kD} (h : NS d0 d) (hF : FKJ 20 d d1) : NS d0 d1 := ⟨by rw [hF.1]; exact h.1, by rw [hF.1]; exact h.2.1, by rw [← h.2.2.1]; funext i f; exact hF.2.1 _ _ _ (by omega), by rw [← h.2.2.2]; funext i f; exact hF.2.1 _ _ _ (by omega)⟩
theorem NS.uJ {d0 d : kD} (h : NS d0 d) (k i f : Nat) (v : Int64) (hk : k ≠ 17 ∧ k ≠ 18) : NS d0 (uJ d k i f v) := ⟨h.1, h.2.1, by rw [uJ_k _ _ _ _ (by omega)]; exact h.2.2.1, by rw [uJ_k _ _ _ _ (by omega)]; exact h.2.2.2⟩
theorem HB_ex {S : sS} {p : Nat} {x : Int64} {day h : Nat} (hn : ¬ sHB S p x day h = 0) : ∃ m, m < 64 ∧ hasB x m = true ∧ sHole S p m day = h := by
  obtain ⟨m, hm, hb⟩ := hasB_nz hn
  rw [hasB_HB hm, Bool.and_eq_true] at hb
  exact ⟨m, hm, hb.1, of_decide_eq_true hb.2⟩
theorem n_max0 {a b : Nat} (ha : a < 2 ^ 30) (hb : b < 2 ^ 30) : (if nI 0 < nI a - nI b then nI a - nI b else nI 0) = nI (max 0 (a - b)) := by
  by_cases h : b ≤ a
  · rw [pk_sub h, n_max (by decide) (by omega)]
  · have h2 : ¬ nI 0 < nI a - nI b := by
      rw [Int32.lt_iff_toInt_lt, pk_sub_toInt ha hb, show (nI 0).toInt = 0 from by decide]; omega
    rw [if_neg h2, show a - b = 0 by omega]; rfl
/-- the slots below s stand -/
def OL (s : Nat) (d0 d : kD) : Prop := (∀ q, q < s → d.1 19 0 q = d0.1 19 0 q) ∧ ∀ j, j < 64 * s → d.2.1 17 0 j = d0.2.1 17 0 j ∧ d.2.1 18 0 j = d0.2.1 18 0 j
theorem OL.ns {s : Nat} {d0 d : kD} (h : NS d0 d) : OL s d0 d := ⟨fun q _ => by rw [h.2.1], fun j _ => ⟨by rw [h.2.2.1], by rw [h.2.2.2]⟩⟩
theorem OL.st {s : Nat} {d0 d : kD} (h : OL s d0 d) (c : Nat) (v w : Int64) : OL s d0 (uJ (uJ d 17 0 (64 * s + c) v) 18 0 (64 * s + c) w) := ⟨h.1, fun j hj => ⟨by rw [uJ_k _ _ _ _ (by decide), uJ_f _ _ _ _ (by omega)]; exact (h.2 j hj).1, by rw [uJ_f _ _ _ _ (by omega), uJ_k _ _ _ _ (by decide)]; exact (h.2 j hj).2⟩⟩
theorem OL.end {s : Nat} {d0 d : kD} (h : OL s d0 d) (c : Nat) (v : Int32) : OL s d0 (uI (uI d 19 0 s (nI c)) 16 0 5 v) := ⟨fun q hq => by rw [uI_k _ _ _ _ (by decide), uI_f _ _ _ _ (by omega)]; exact h.1 q hq, h.2⟩
theorem SL.old {S : sS} {p er : Nat} {x : Int64} {day q s : Nat} {d d1 : kD} (h : SL S p er x day q d) (hq : q < s) (ho : OL s d d1) : SL S p er x day q d1 := h.fr (ho.1 q hq) (fun i hi => ho.2 _ (by omega))
theorem sWorst_pos {S : sS} {p : Nat} {x : Int64} {day er : Nat} (hx : ¬ x = 0) : 1 ≤ sWorst S p x day er := by
  obtain ⟨m, hm, hb⟩ := hasB_nz hx
  exact Nat.le_trans (popN_has hm (left_self hm hb)) (wvL_ub (f := popN) hb 64 hm)
theorem nxL_stop {S : sS} {p : Nat} {x : Int64} {er a : Nat} (hx : ¬ x = 0) {k : Nat} (h : (nxL S p x er a k).1 ≤ 1) : ∀ j, k ≤ j → nxL S p x er a j = nxL S p x er a k
  | 0, hj => by rw [show k = 0 by omega]
  | j + 1, hj => by
    by_cases e : k = j + 1
    · rw [e]
    · have ih := nxL_stop hx h j (by omega)
      have h1 := sWorst_pos (S := S) (p := p) (day := a + j) (er := er) hx
      rw [nxL, ih, if_neg (by omega)]
theorem lt_ext {g : Nat → Nat} {i w : Nat} (h : ∀ j, j < i → g j ≤ w) : ∀ j, j < i + 1 → g j ≤ max w (g i) := fun j hj => by
  rcases Nat.lt_or_ge j i with z | z
  · have := h j z; omega
  · rw [show j = i by omega]; omega
