/-! calls that change nothing -/
def XX (cA : Nat → ClassId) (ad : kA) (S : sS) (d0 d : kD) : Prop := InvX cA ad S d ∧ Fr IX JX d0 d
theorem XX.start {cA : Nat → ClassId} {ad : kA} {S : sS} {d : kD} (h : InvX cA ad S d) : XX cA ad S d d := ⟨h, Fr.refl _ _ d⟩
theorem XX.trans {cA : Nat → ClassId} {ad : kA} {S : sS} {d d1 d2 : kD} (h : XX cA ad S d d1) (h2 : XX cA ad S d1 d2) : XX cA ad S d d2 := ⟨h2.1, h.2.trans h2.2⟩
theorem XX.w {cA : Nat → ClassId} {ad : kA} {S : sS} {d d1 d2 : kD} (h : XX cA ad S d d1) (h2 : XW cA ad S d1 d2) : XX cA ad S d d2 := ⟨h2.1, h.2.trans h2.2.wx⟩
theorem XX.k {cA : Nat → ClassId} {ad : kA} {S : sS} {d d1 d2 : kD} (h : XX cA ad S d d1) (h2 : XK cA ad S d1 d2) : XX cA ad S d d2 := ⟨h2.1, h.2.trans h2.2.kx⟩
/-- the row: c numbers, r -/
def TR (c : Nat) (r : Nat → Int32) (d : kD) : Prop := d.1 11 0 1 = nI c ∧ ∀ i, i < c → d.1 12 0 i = r i
/-- the steps -/
def SP (S : sS) (d : kD) : Prop := d.1 13 0 2 = nI (S 22 0) ∧ ∀ i, i < 64 → d.1 14 0 i = nI (S 20 i) ∧ d.1 15 0 i = nI (S 21 i)
def RowX (S : sS) (sr : Nat → Int32) (d : kD) : Prop := TR (S 32 0) sr d ∧ SP S d
theorem TR.fr {c : Nat} {r : Nat → Int32} {d d1 : kD} (h : TR c r d) (hf : Fr IX JX d d1) : TR c r d1 := ⟨by rw [hf.1 11 0 1 rfl]; exact h.1, fun i hi => by rw [hf.1 12 0 i rfl]; exact h.2 i hi⟩
theorem SP.fr {S : sS} {d d1 : kD} (h : SP S d) (hf : Fr IX JX d d1) : SP S d1 := ⟨by rw [hf.1 13 0 2 rfl]; exact h.1, fun i hi => ⟨by rw [hf.1 14 0 i rfl]; exact (h.2 i hi).1, by rw [hf.1 15 0 i rfl]; exact (h.2 i hi).2⟩⟩
/-- a call leaves the others alone -/
def FrX (d d1 : kD) : Prop := (∀ k, 28 ≤ k → d1.1 k = d.1 k) ∧ (∀ k, 28 ≤ k → d1.2.1 k = d.2.1 k) ∧ d1.2.2 = d.2.2
theorem FrX.refl (d : kD) : FrX d d := ⟨fun _ _ => rfl, fun _ _ => rfl, rfl⟩
theorem FrX.trans {d d1 d2 : kD} (h : FrX d d1) (h2 : FrX d1 d2) : FrX d d2 := ⟨fun k hk => (h2.1 k hk).trans (h.1 k hk), fun k hk => (h2.2.1 k hk).trans (h.2.1 k hk), h2.2.2.trans h.2.2⟩
theorem FrX.stI {d d1 : kD} (h : FrX d d1) (k i f : Nat) (v : Int32) (hk : k < 28) : FrX d (uI d1 k i f v) := ⟨fun k' hk' => by rw [uI_k _ _ _ _ (by omega)]; exact h.1 k' hk', h.2⟩
theorem FrX.stJ {d d1 : kD} (h : FrX d d1) (k i f : Nat) (v : Int64) (hk : k < 28) : FrX d (uJ d1 k i f v) := ⟨h.1, fun k' hk' => by rw [uJ_k _ _ _ _ (by omega)]; exact h.2.1 k' hk', h.2.2⟩
theorem Fr.frx {d d1 : kD} (h : Fr IX JX d d1) : FrX d d1 := ⟨fun k hk => by funext i f; exact h.1 k i f (decide_eq_false (by omega)), fun k hk => by funext i f; exact h.2.1 k i f (decide_eq_false (by omega)), h.2.2⟩
def PX (cA : Nat → ClassId) (ad : kA) (S : sS) (sr : Nat → Int32) (d0 d : kD) : Prop := InvX cA ad S d ∧ RowX S sr d ∧ FrX d0 d
theorem XX.pub {cA : Nat → ClassId} {ad : kA} {S : sS} {sr : Nat → Int32} {d0 d : kD} (h : XX cA ad S d0 d) (hR : RowX S sr d0) : PX cA ad S sr d0 d := ⟨h.1, ⟨hR.1.fr h.2, hR.2.fr h.2⟩, h.2.frx⟩
/-! bits: what of x lies in y, what not -/
theorem pop_split (x y : Int64) : popN (x &&& y) + popN (x &&& (y ^^^ (-1))) = popN x := by
  have key : ∀ n, n ≤ 64 → ctB (hasB (x &&& y)) n + ctB (hasB (x &&& (y ^^^ (-1)))) n = ctB (hasB x) n := by
    intro n
    induction n with
    | zero => intro _; rfl
    | succ n ih =>
      intro hn
      have h1 := ih (by omega)
      have e1 := hasB_and x y (k := n) (by omega)
      have e2 := hasB_and x (y ^^^ (-1)) (k := n) (by omega)
      rw [hasB_not y (by omega)] at e2
      rw [ctB, ctB, ctB, e1, e2]
      cases hasB x n <;> cases hasB y n <;> simp only [Bool.and_self, Bool.and_true, Bool.and_false, Bool.false_and, Bool.true_and, Bool.not_true, Bool.not_false, Bool.false_eq_true, ↓reduceIte] <;> omega
  exact key 64 (Nat.le_refl _)
/-- what the other looks bar -/
def othL (S : sS) (p day q : Nat) : Nat → Int64
  | 0 => 0
  | l + 1 => if ¬ l = q ∧ S 12 l = p ∧ sKn S l day = true then othL S p day q l ||| sBars S l else othL S p day q l
theorem oth_free (S : sS) (p day : Nat) {q : Nat} (hq : q < 40) : ∀ n, n ≤ 40 → sFr S p day (nI q) n = othL S p day q n ^^^ (-1)
  | 0, _ => by rw [sFr, othL]; decide
  | n + 1, hn => by
    have ih := oth_free S p day hq n (by omega)
    rw [sFr, othL]
    by_cases c : ¬ n = q ∧ S 12 n = p ∧ sKn S n day = true
    · rw [if_pos c, if_pos ⟨fun z => c.1 ((nI_eq (by omega) (by omega)).mp z), c.2⟩, ih]
      apply hasB_ext
      intro k hk
      rw [hasB_and _ _ hk, hasB_not _ hk, hasB_not _ hk, hasB_not _ hk, hasB_or _ _ hk]
      cases hasB (othL S p day q n) k <;> cases hasB (sBars S n) k <;> rfl
    · rw [if_neg c, if_neg (fun z => c ⟨fun e => z.1 (by rw [e]), z.2⟩), ih]
/-- all looks are the others, and this one -/
theorem free_one (S : sS) (p day : Nat) {q : Nat} (hq : q < 40) (hp : S 12 q = p) (hk : sKn S q day = true) : ∀ n, q < n → n ≤ 40 → sFr S p day (-1) n = sFr S p day (nI q) n &&& (sBars S q ^^^ (-1)) := by
  have low : ∀ n, n ≤ q → sFr S p day (-1) n = sFr S p day (nI q) n := by
    intro n
    induction n with
    | zero => intro _; rfl
    | succ n ih =>
      intro hn
      rw [sFr, sFr, ih (by omega)]
      have e1 : ¬ nI n = -1 := nI_ne_m1 (by omega)
      have e2 : ¬ nI n = nI q := fun z => by have := (nI_eq (by omega) (by omega)).mp z; omega
      by_cases c : S 12 n = p ∧ sKn S n day = true
      · rw [if_pos ⟨e1, c⟩, if_pos ⟨e2, c⟩]
      · rw [if_neg (fun z => c z.2), if_neg (fun z => c z.2)]
  intro n
  induction n with
  | zero => intro h; omega
  | succ n ih =>
    intro h1 h2
    by_cases e : q = n
    · subst e
      rw [sFr, if_pos ⟨nI_ne_m1 (by omega), hp, hk⟩, low q (Nat.le_refl _), sFr, if_neg (fun z => z.1 rfl)]
    · rw [sFr, sFr, ih (by omega) (by omega)]
      have e1 : ¬ nI n = -1 := nI_ne_m1 (by omega)
      have e2 : ¬ nI n = nI q := fun z => by have := (nI_eq (by omega) (by omega)).mp z; omega
      by_cases c : S 12 n = p ∧ sKn S n day = true
      · rw [if_pos ⟨e1, c⟩, if_pos ⟨e2, c⟩]
        apply hasB_ext
        intro k hk
        rw [hasB_and _ _ hk, hasB_and _ _ hk, hasB_and _ _ hk, hasB_and _ _ hk]
        cases hasB (sFr S p day (nI q) n) k <;> cases hasB (sBars S q ^^^ (-1)) k <;> cases hasB (sBars S n ^^^ (-1)) k <;> rfl
      · rw [if_neg (fun z => c z.2), if_neg (fun z => c z.2)]
theorem weigh_eq (S : sS) (p day : Nat) {q n : Nat} (hq : q < n) (hn : n ≤ 40) (hp : S 12 q = p) (hk : sKn S q day = true) : nI (popN (sFr S p day (nI q) n)) - nI (popN (sFr S p day (-1) n)) = nI (popN (sBars S q &&& (othL S p day q n ^^^ (-1)))) := by
  rw [free_one S p day (by omega) hp hk n hq hn, oth_free S p day (by omega) n hn]
  generalize othL S p day q n ^^^ (-1) = F
  have h1 := pop_split F (sBars S q)
  have e : sBars S q &&& F = F &&& sBars S q := hasB_ext (fun k hk => by rw [hasB_and _ _ hk, hasB_and _ _ hk, Bool.and_comm])
  rw [e, pk_sub (by omega)]
  congr 1; omega
/-! one state of all that is kept -/
theorem sSt_eq {S : sS} {p : Nat} {x : Int64} {day st : Nat} : sSt S p x day st = x ↔ ∀ m, m < 64 → hasB x m = true → sState S p m day = st := by
  constructor
  · intro h m hm hb
    rw [← h] at hb
    unfold sSt at hb
    rw [hasB_sBits _ 64 (Nat.le_refl _) m hm, decide_eq_true hm, Bool.true_and, Bool.and_eq_true] at hb
    exact of_decide_eq_true hb.2
  · intro h
    apply hasB_ext
    intro k hk
    unfold sSt
    rw [hasB_sBits _ 64 (Nat.le_refl _) k hk, decide_eq_true hk, Bool.true_and]
    cases e : hasB x k
    · rfl
    · rw [decide_eq_true (h k hk e)]; rfl
theorem stL_same {S : sS} {p day : Nat} {x : Int64} {st : Nat} : ∀ n m, (∀ k, m ≤ k → k < m + n → hasB x k = true → sState S p k day = st) → stL S p day x n m (nI st) = nI st
  | 0, m, _ => rfl
  | n + 1, m, h => by
    rw [stL]
    have h2 := stL_same n (m + 1) (fun k h1 h3 => h k (by omega) (by omega))
    by_cases q : hasB x m = true
    · rw [if_pos q, h m (Nat.le_refl _) (by omega) q, if_neg (fun z => z.2 rfl)]; exact h2
    · rw [if_neg q]; exact h2
theorem stL_none {S : sS} {p day : Nat} {x : Int64} {st : Nat} : ∀ n m, (∀ k, m ≤ k → k < m + n → hasB x k = true → sState S p k day = st) → (∃ k, m ≤ k ∧ k < m + n ∧ hasB x k = true) → stL S p day x n m (-1) = nI st
  | 0, m, _, h => by obtain ⟨k, h1, h2, _⟩ := h; omega
  | n + 1, m, h, he => by
    rw [stL]
    by_cases q : hasB x m = true
    · rw [if_pos q, h m (Nat.le_refl _) (by omega) q, if_neg (fun z => z.1 rfl)]
      exact stL_same n (m + 1) (fun k h1 h3 => h k (by omega) (by omega))
    · rw [if_neg q]
      obtain ⟨k, h1, h2, h3⟩ := he
      have hne : k ≠ m := fun z => q (z ▸ h3)
      exact stL_none n (m + 1) (fun k h1 h3 => h k (by omega) (by omega)) ⟨k, by omega, by omega, h3⟩
theorem st_ne1 {s : Nat} (h : s ≤ 2) : ¬ nI s = -1 := nI_ne_m1 (by omega)
theorem stL_mix {S : sS} {p day : Nat} {x : Int64} {st : Nat} (hst : st ≤ 2) : ∀ n m, (∃ k, m ≤ k ∧ k < m + n ∧ hasB x k = true ∧ sState S p k day ≠ st) → stL S p day x n m (nI st) = nI 3
  | 0, m, h => by obtain ⟨k, h1, h2, _⟩ := h; omega
  | n + 1, m, h => by
    rw [stL]
    obtain ⟨k, h1, h2, h3, h4⟩ := h
    have hs := sState_le S p m day
    by_cases q : hasB x m = true
    · rw [if_pos q]
      by_cases e : sState S p m day = st
      · rw [e, if_neg (fun z => z.2 rfl)]
        have hne : k ≠ m := fun z => h4 (z ▸ e)
        exact stL_mix hst n (m + 1) ⟨k, by omega, by omega, h3, h4⟩
      · rw [if_pos ⟨st_ne1 hst, fun z => e ((nI_eq (by omega) (by omega)).mp z).symm⟩]
    · rw [if_neg q]
      have hne : k ≠ m := fun z => q (z ▸ h3)
      exact stL_mix hst n (m + 1) ⟨k, by omega, by omega, h3, h4⟩
theorem stL_two {S : sS} {p day : Nat} {x : Int64} : ∀ n m, (∃ k j, m ≤ k ∧ k < m + n ∧ m ≤ j ∧ j < m + n ∧ hasB x k = true ∧ hasB x j = true ∧ sState S p k day ≠ sState S p j day) → stL S p day x n m (-1) = nI 3
  | 0, m, h => by obtain ⟨k, j, h1, h2, _⟩ := h; omega
  | n + 1, m, h => by
    rw [stL]
    obtain ⟨k, j, h1, h2, h3, h4, h5, h6, h7⟩ := h
    by_cases q : hasB x m = true
    · rw [if_pos q, if_neg (fun z => z.1 rfl)]
      apply stL_mix (sState_le S p m day)
      by_cases e : sState S p k day = sState S p m day
      · exact ⟨j, by have : j ≠ m := fun z => h7 (by rw [e, z]); omega, by omega, h6, fun z => h7 (by rw [e, z])⟩
      · exact ⟨k, by have : k ≠ m := fun z => e (by rw [z]); omega, by omega, h5, e⟩
    · rw [if_neg q]
      have hk : k ≠ m := fun z => q (z ▸ h5)
      have hj : j ≠ m := fun z => q (z ▸ h6)
      exact stL_two n (m + 1) ⟨k, j, by omega, by omega, by omega, by omega, h5, h6, h7⟩
theorem st_one {S : sS} {p day st : Nat} {x : Int64} (hx : ¬ x = 0) (h : sSt S p x day st = x) : stL S p day x 64 0 (-1) = nI st := by
  obtain ⟨k, hk, hb⟩ := hasB_nz hx
  have h := sSt_eq.mp h
  exact stL_none 64 0 (fun k _ h2 h3 => h k (by omega) h3) ⟨k, by omega, by omega, hb⟩
theorem st_many {S : sS} {p day : Nat} {x : Int64} (hx : ¬ x = 0) (h0 : ¬ sSt S p x day 0 = x) (h1 : ¬ sSt S p x day 1 = x) (h2 : ¬ sSt S p x day 2 = x) : stL S p day x 64 0 (-1) = nI 3 := by
  obtain ⟨k, hk, hb⟩ := hasB_nz hx
  have hs := sState_le S p k day
  have key : ∀ st, ¬ sSt S p x day st = x → ∃ m, m < 64 ∧ hasB x m = true ∧ sState S p m day ≠ st := by
    intro st hn
    by_cases q : ∃ m, m < 64 ∧ hasB x m = true ∧ sState S p m day ≠ st
    · exact q
    · exfalso
      apply hn
      rw [sSt_eq]
      intro m hm hbm
      by_cases e : sState S p m day = st
      · exact e
      · exact absurd ⟨m, hm, hbm, e⟩ q
  have h3 : ¬ sSt S p x day (sState S p k day) = x := by
    rcases (show sState S p k day = 0 ∨ sState S p k day = 1 ∨ sState S p k day = 2 by omega) with e | e | e <;> rw [e] <;> assumption
  obtain ⟨j, hj, hbj, hne⟩ := key _ h3
  exact stL_two 64 0 ⟨k, j, by omega, by omega, by omega, by omega, hb, hbj, fun z => hne z.symm⟩
/-! from which share on a bridge is not shut -/
def opP (S : sS) (p day : Nat) : Nat := if popN (sKept S p day) = 0 then 1001 else (1000 * (popN (sKept S p day) - popN (sYes S p (sKept S p day) day 0)) + popN (sKept S p day) - 1) / popN (sKept S p day)
theorem yes_le (S : sS) (p : Nat) (x : Int64) (day st : Nat) : popN (sSt S p x day st) ≤ popN x := by
  refine popN_mono (fun k hk h => ?_)
  unfold sSt at h
  rw [hasB_sBits _ 64 (Nat.le_refl _) k hk, decide_eq_true hk, Bool.true_and, Bool.and_eq_true] at h
  exact h.1
theorem opP_le (S : sS) (p day : Nat) : opP S p day ≤ 1001 := by
  unfold opP
  split
  · exact Nat.le_refl _
  · rename_i h
    have h1 := yes_le S p (sKept S p day) day 0
    have h0 : 0 < popN (sKept S p day) := by omega
    refine Nat.le_of_lt_succ ((Nat.div_lt_iff_lt_mul h0).mpr ?_)
    omega
theorem shP_op (S : sS) (p day : Nat) {sh : Nat} (hs : sh ≤ 1000) : shP S p day sh = decide (sh < opP S p day) := by
  unfold shP opP
  apply decide_eq_decide.mpr
  have h1 : popN (sYes S p (sKept S p day) day 0) ≤ popN (sKept S p day) := yes_le S p (sKept S p day) day 0
  have h2 := popN_le (sKept S p day)
  generalize popN (sYes S p (sKept S p day) day 0) = y at *
  generalize popN (sKept S p day) = n at *
  by_cases e : n = 0
  · rw [if_pos e]; omega
  · rw [if_neg e, pk_sub h1, pk_mul]
    have hsn : sh * n ≤ 1000 * 64 := Nat.mul_le_mul hs h2
    rw [nI_leI (by omega) (by omega), Nat.lt_div_iff_mul_lt (by omega)]
    constructor
    · rintro (z | z)
      · exact absurd z e
      · omega
    · intro z
      exact Or.inr (by omega)
def brB (S : sS) (b p : Nat) : Bool := bitI (S 23 b) p
def opL (S : sS) (b day : Nat) : Nat → Nat
  | 0 => 0
  | p + 1 => if brB S b p = true then max (opL S b day p) (opP S p day) else opL S b day p
theorem opL_le (S : sS) (b day : Nat) : ∀ p, opL S b day p ≤ 1001
  | 0 => Nat.zero_le _
  | p + 1 => by
    have h1 := opL_le S b day p
    have h2 := opP_le S p day
    rw [opL]; split <;> omega
theorem shL_op {S : sS} {b day sh : Nat} (hs : sh ≤ 1000) : ∀ n p, shL S b day sh n p = true ↔ ∃ q, p ≤ q ∧ q < p + n ∧ brB S b q = true ∧ sh < opP S q day
  | 0, p => ⟨fun h => (by rw [shL] at h; cases h), fun ⟨q, h1, h2, _⟩ => (by omega)⟩
  | n + 1, p => by
    have ih := shL_op (S := S) (b := b) (day := day) hs n (p + 1)
    have step : (¬ (brB S b p = true ∧ sh < opP S p day)) → ((∃ q, p + 1 ≤ q ∧ q < p + 1 + n ∧ brB S b q = true ∧ sh < opP S q day) ↔ ∃ q, p ≤ q ∧ q < p + (n + 1) ∧ brB S b q = true ∧ sh < opP S q day) := by
      intro hn
      refine ⟨fun ⟨q, h1, h2, h3⟩ => ⟨q, by omega, by omega, h3⟩, fun ⟨q, h1, h2, h3⟩ => ⟨q, ?_, by omega, h3⟩⟩
      have : q ≠ p := fun z => hn (z ▸ h3)
      omega
    rw [shL]
    by_cases c : (nI (S 23 b) >>> (nI p &&& 31)) &&& nI 1 = 0
    · rw [if_pos c, ih]
      exact step (fun z => by have := z.1; unfold brB at this; rw [bitI_f c] at this; cases this)
    · rw [if_neg c, shP_op S p day hs]
      by_cases z : sh < opP S p day
      · rw [decide_eq_true z, if_pos rfl]
        exact ⟨fun _ => ⟨p, Nat.le_refl _, by omega, bitI_t c, z⟩, fun _ => rfl⟩
      · rw [decide_eq_false z, if_neg (by decide), ih]
        exact step (fun w => z w.2)
theorem opL_lt {S : sS} {b day sh : Nat} : ∀ n, sh < opL S b day n ↔ ∃ q, q < n ∧ brB S b q = true ∧ sh < opP S q day
  | 0 => ⟨fun h => absurd h (Nat.not_lt_zero _), fun ⟨q, h, _⟩ => absurd h (Nat.not_lt_zero _)⟩
  | n + 1 => by
    have ih := opL_lt (S := S) (b := b) (day := day) (sh := sh) n
    rw [opL]
    constructor
    · intro h
      by_cases c : brB S b n = true
      · rw [if_pos c] at h
        by_cases z : sh < opP S n day
        · exact ⟨n, Nat.lt_succ_self n, c, z⟩
        · obtain ⟨q, h1, h2⟩ := ih.mp (by omega)
          exact ⟨q, by omega, h2⟩
      · rw [if_neg c] at h
        obtain ⟨q, h1, h2⟩ := ih.mp h
        exact ⟨q, by omega, h2⟩
    · rintro ⟨q, h1, h2, h3⟩
      by_cases e : q = n
      · subst e; rw [if_pos h2]; omega
      · have := ih.mpr ⟨q, by omega, h2, h3⟩
        split <;> omega
theorem shut_op {S : sS} {b day sh : Nat} (hs : sh ≤ 1000) : sShut S b day sh = decide (sh < opL S b day (S 7 0)) := by
  have h : sShut S b day sh = true ↔ sh < opL S b day (S 7 0) := by
    unfold sShut
    rw [shL_op hs, opL_lt]
    exact ⟨fun ⟨q, h1, h2, h3⟩ => ⟨q, by omega, h3⟩, fun ⟨q, h1, h2⟩ => ⟨q, Nat.zero_le _, by omega, h2⟩⟩
  by_cases z : sh < opL S b day (S 7 0)
  · rw [decide_eq_true z]; exact h.mpr z
  · rw [decide_eq_false z]
    cases e : sShut S b day sh
    · rfl
    · exact absurd (h.mp e) z
theorem kept_free (S : sS) (p day : Nat) {m : Nat} (hm : m < 64) : hasB (sKept S p day) m = true → hasB (sFree S p day (-1)) m = true := by
  intro h
  unfold sKept at h
  rw [kp_mA, hasB_and _ _ hm, Bool.and_eq_true] at h
  exact h.1
/-! calls that tell a row, or change the steps: what is in store doesn't hang on them -/
theorem trA_cg {ad : kA} {S S' : sS} (h8 : S' 8 = S 8) (p : Nat) : ∀ k, trA ad S' p k = trA ad S p k
  | 0 => rfl
  | k + 1 => by rw [trA, trA, h8, trA_cg h8 p k]
theorem xCt_cg {S S' : sS} (h7 : S' 7 0 = S 7 0) (h18 : S' 18 0 = S 18 0) (h25 : S' 25 0 = S 25 0) (h30 : S' 30 0 = S 30 0) {j : Nat} (hj : j < 4) : xCt S' j = xCt S j := by
  rcases (show j = 0 ∨ j = 1 ∨ j = 2 ∨ j = 3 by omega) with rfl | rfl | rfl | rfl
  · exact h7
  · exact h18
  · exact h25
  · exact h30
theorem xAl.cg {cA : Nat → ClassId} {ad : kA} {S S' : sS} (h : xAl cA ad S) (h7 : S' 7 0 = S 7 0) (h8 : S' 8 = S 8) (h11 : S' 11 0 = S 11 0) (h12 : S' 12 = S 12) (h18 : S' 18 0 = S 18 0) (h25 : S' 25 0 = S 25 0) (h30 : S' 30 0 = S 30 0) : xAl cA ad S' := by
  obtain ⟨a1, a2, a3, a4, a5, a6, a7, a8, a9, a10, a11, a12, a13, a14⟩ := h
  refine ⟨a1, a2, a3, a4, fun j hj => by rw [xCt_cg h7 h18 h25 h30 hj]; exact a5 j hj, fun p hp => ?_, fun l hl => by rw [h12]; exact a7 l (by omega), fun t ht => ?_, a9, a10, a11, fun j hj q hq => a12 j hj q (by rw [xCt_cg h7 h18 h25 h30 hj] at hq; exact hq), fun t ht => a13 t (by omega), a14⟩
  · rw [h11, trA_cg h8]; exact a6 p (by omega)
  · rw [trA_cg h8, h8]; exact a8 t (by omega)
/-- fields that are no part of what is in store -/
theorem InvX.sgen {cA : Nat → ClassId} {ad : kA} {S S' : sS} {d : kD} (h : InvX cA ad S d) (hf : ∀ f, f ≠ 20 → f ≠ 21 → f ≠ 22 → f ≠ 32 → S' f = S f) (hG : sG S') : InvX cA ad S' d := by
  have e : ∀ f, (f ≠ 20 ∧ f ≠ 21 ∧ f ≠ 22 ∧ f ≠ 32) → S' f = S f := fun f z => hf f z.1 z.2.1 z.2.2.1 z.2.2.2
  have he : ∀ p m n, sHE S' p m n = sHE S p m n := fun p m n => sHE_cg (e 0 (by decide)) (by rw [e 3 (by decide)]) (by rw [e 4 (by decide)]) (e 8 (by decide)) (e 9 (by decide)) (e 10 (by decide)) (by rw [e 11 (by decide)]) m n
  refine ⟨⟨h.1.1.cg (by rw [e 7 (by decide)]) (e 8 (by decide)) (by rw [e 11 (by decide)]) (e 12 (by decide)) (by rw [e 18 (by decide)]) (by rw [e 25 (by decide)]) (by rw [e 30 (by decide)]), ?_, hG⟩, fun p hp => ?_, fun l hl => ?_, h.2.2.2.cg (by rw [e 7 (by decide)]; exact Nat.le_refl _) (fun _ _ => rfl)⟩
  · obtain ⟨⟨h1, h2, h3⟩, h4, h5, h6, h7, h8, h9, h10, h14, h15⟩ := h.1.2.1
    refine ⟨⟨by rw [e 1 (by decide)]; exact h1, by rw [e 11 (by decide)]; exact h2, by rw [e 19 (by decide)]; exact h3⟩, by rw [e 0 (by decide)]; exact h4, fun j hj => by rw [xCt_cg (by rw [e 7 (by decide)]) (by rw [e 18 (by decide)]) (by rw [e 25 (by decide)]) (by rw [e 30 (by decide)]) hj]; exact h5 j hj, ?_, ?_, ?_, ?_, ?_, ?_, h15⟩
    · rw [e 7 (by decide), e 26 (by decide)]
      exact fun p hp => ⟨fun f hf => by rw [e (2 + f) (by omega)]; exact (h6 p hp).1 f hf, (h6 p hp).2⟩
    · rw [e 11 (by decide), e 9 (by decide), e 10 (by decide)]; exact h7
    · rw [e 18 (by decide)]
      exact fun l hl f hf => by rw [e (13 + f) (by omega)]; exact h8 l hl f hf
    · rw [e 25 (by decide), e 23 (by decide), e 24 (by decide)]; exact h9
    · rw [e 30 (by decide)]
      exact fun o ho f hf => by rw [e (27 + f) (by omega)]; exact h10 o ho f hf
    · rw [e 7 (by decide), e 26 (by decide)]; exact h14
  · rw [e 7 (by decide)] at hp
    obtain ⟨w, k, a1, a2, a3, a4, a5, a6⟩ := h.2.1 p hp
    exact ⟨w, k, a1, a2, a3, a4, fun m hm => by rw [he]; exact a5 m hm, fun j g1 g2 m hm => by rw [he]; exact a6 j g1 g2 m hm⟩
  · rw [e 18 (by decide)] at hl
    have := h.2.2.1 l hl
    unfold Lk at *
    rw [sBars_cg (by rw [e 12 (by decide)]) (by rw [e 13 (by decide)]) (by rw [e 14 (by decide)]) (by rw [e 15 (by decide)]) (fun m n => he _ m n)]
    exact this
theorem InvX.s32 {cA : Nat → ClassId} {ad : kA} {S : sS} {d : kD} (h : InvX cA ad S d) {c : Nat} (hc : c ≤ 64) : InvX cA ad (upS S 32 0 c) d :=
  h.sgen (fun f _ _ _ h4 => by funext i; exact upS_n _ _ (fun q => h4 q.1)) ((h.1.2.2.b.up 32 0 (mx := 64) rfl hc).g h.1.2.2.2.2)
/-- a call's way while its row is told -/
def XR (cA : Nat → ClassId) (ad : kA) (S : sS) (d0 d : kD) : Prop := InvX cA ad S d ∧ FrX d0 d
theorem XX.r {cA : Nat → ClassId} {ad : kA} {S : sS} {d0 d : kD} (h : XX cA ad S d0 d) : XR cA ad S d0 d := ⟨h.1, h.2.frx⟩
theorem XR.w {cA : Nat → ClassId} {ad : kA} {S : sS} {d d1 d2 : kD} (h : XR cA ad S d d1) (h2 : XW cA ad S d1 d2) : XR cA ad S d d2 := ⟨h2.1, h.2.trans h2.2.wx.frx⟩
theorem InvX.k12 {cA : Nat → ClassId} {ad : kA} {S : sS} {d : kD} (h : InvX cA ad S d) (k i f : Nat) (v : Int32) (hk : 11 ≤ k ∧ k < 16) : InvX cA ad S (uI d k i f v) := by
  have e : ∀ k' i' f', k' ≠ k → (uI d k i f v).1 k' i' f' = d.1 k' i' f' := fun k' i' f' q => by rw [uI_k _ _ _ _ q]
  refine ⟨⟨h.1.1, ?_, h.1.2.2⟩, fun p hp => ?_, fun l hl => ?_, h.2.2.2.cg (Nat.le_refl _) (fun p _ => by rw [uI_k _ _ _ _ (by omega)])⟩
  · obtain ⟨⟨h1, h2, h3⟩, h4, h5, h6, h7, h8, h9, h10, h14, h15⟩ := h.1.2.1
    exact ⟨⟨by rw [e _ _ _ (by omega)]; exact h1, fun z => by rw [e _ _ _ (by omega)]; exact h2 z, by rw [e _ _ _ (by omega)]; exact h3⟩, fun i hi => by rw [e _ _ _ (by omega)]; exact h4 i hi, fun j hj => by rw [e _ _ _ (by omega)]; exact h5 j hj, fun p hp => ⟨fun f hf => by rw [e _ _ _ (by omega)]; exact (h6 p hp).1 f hf, by rw [e _ _ _ (by omega)]; exact (h6 p hp).2⟩, fun t ht => ⟨by rw [e _ _ _ (by omega)]; exact (h7 t ht).1, by rw [e _ _ _ (by omega)]; exact (h7 t ht).2⟩, fun l hl f hf => by rw [e _ _ _ (by omega)]; exact h8 l hl f hf, fun b hb => ⟨by rw [e _ _ _ (by omega)]; exact (h9 b hb).1, by rw [e _ _ _ (by omega)]; exact (h9 b hb).2⟩, fun o ho f hf => by rw [e _ _ _ (by omega)]; exact h10 o ho f hf, h14, h15⟩
  · obtain ⟨w, k', hw⟩ := h.2.1 p hp
    exact ⟨w, k', hw.cg (by rw [uI_k _ _ _ _ (by omega)]) (e _ _ _ (by omega)) (e _ _ _ (by omega))⟩
  · have := h.2.2.1 l hl
    unfold Lk at *
    rw [e _ _ _ (by omega)]; exact this
theorem XR.k12 {cA : Nat → ClassId} {ad : kA} {S : sS} {d0 d : kD} (h : XR cA ad S d0 d) (k i f : Nat) (v : Int32) (hk : 11 ≤ k ∧ k < 16) : XR cA ad S d0 (uI d k i f v) := ⟨h.1.k12 k i f v hk, h.2.stI k i f v (by omega)⟩
theorem TR.zero (r : Nat → Int32) (d : kD) : TR 0 r (uI d 11 0 1 (nI 0)) := ⟨uI_s _ _ _ _ _, fun _ h => absurd h (Nat.not_lt_zero _)⟩
theorem TR.tell {c : Nat} {r : Nat → Int32} {d : kD} (h : TR c r d) (v : Int32) : TR (c + 1) (va_up r c v) (uI (uI d 12 0 c v) 11 0 1 (nI (c + 1))) := by
  refine ⟨uI_s _ _ _ _ _, fun i hi => ?_⟩
  rw [uI_k _ _ _ _ (by decide)]
  by_cases e : i = c
  · subst e; rw [uI_s]; simp [va_up]
  · rw [uI_f _ _ _ _ e, h.2 i (by omega)]; simp [va_up, e]
theorem SP.k {S : sS} {d : kD} (h : SP S d) (k i f : Nat) (v : Int32) (hk : k < 13) : SP S (uI d k i f v) := ⟨by rw [uI_k _ _ _ _ (by omega)]; exact h.1, fun i hi => ⟨by rw [uI_k _ _ _ _ (by omega)]; exact (h.2 i hi).1, by rw [uI_k _ _ _ _ (by omega)]; exact (h.2 i hi).2⟩⟩
theorem KP.k {S : sS} {day : Nat} {d : kD} (h : KP S day d) (k i f : Nat) (v : Int32) (hk : k < 25) : KP S day (uI d k i f v) := ⟨h.1, fun b hb => by rw [uI_k _ _ _ _ (by omega)]; exact h.2.1 b hb, h.2.2⟩
theorem XR.end {cA : Nat → ClassId} {ad : kA} {S : sS} {d0 d : kD} (h : XR cA ad S d0 d) {c : Nat} {r : Nat → Int32} (hc : c ≤ 64) (hT : TR c r d) (hS : SP S d) : PX cA ad (upS S 32 0 c) r d0 d := ⟨h.1.s32 hc, ⟨hT, hS⟩, h.2⟩
