/-! calls that tell a row -/
theorem mdR_pop (x : Int64) (r : Nat → Int32) : ∀ m, (mdR x r m).1 = ctB (hasB x) m
  | 0 => rfl
  | m + 1 => by
    have := mdR_pop x r m
    rw [mdR, ctB]
    by_cases q : hasB x m = true
    · rw [if_pos q, if_pos q]; show (mdR x r m).1 + 1 = _; rw [this]
    · rw [if_neg q, if_neg q]; exact this
theorem bmR_ring (S : sS) (p b : Nat) : ∀ l, (bmR S p b l).1 = sRing S p b l + 1
  | 0 => rfl
  | l + 1 => by
    have := bmR_ring S p b l
    rw [bmR, sRing]
    split
    · show (bmR S p b l).1 + 1 = _; omega
    · exact this
/-- the mind that the fewest bar, so far -/
def BL (S : sS) (p k fw fs : Nat) : Prop := (k = 0 ∧ fw = 41 ∧ fs = 0) ∨ (1 ≤ k ∧ fs = blB S p k ∧ fw = sRing S p fs (S 18 0))
theorem BL.le {S : sS} {p k fw fs : Nat} (h : BL S p k fw fs) (h18 : S 18 0 ≤ 40) : fw ≤ 41 := by
  rcases h with q | q
  · omega
  · have := sRing_le S p fs (S 18 0); omega
theorem BL.yes {S : sS} {p k fw fs : Nat} (h : BL S p k fw fs) (hlt : sRing S p k (S 18 0) < fw) : BL S p (k + 1) (sRing S p k (S 18 0)) k := by
  refine Or.inr ⟨by omega, ?_, rfl⟩
  rcases h with q | q
  · rw [q.1, blB]; split <;> rfl
  · rw [blB, if_pos (by rw [← q.2.1, ← q.2.2]; exact hlt)]
theorem BL.no {S : sS} {p k fw fs : Nat} (h : BL S p k fw fs) (h18 : S 18 0 ≤ 40) (hlt : ¬ sRing S p k (S 18 0) < fw) : BL S p (k + 1) fw fs := by
  rcases h with q | q
  · have := sRing_le S p k (S 18 0); omega
  · refine Or.inr ⟨by omega, ?_, q.2.2⟩
    rw [blB, if_neg (by rw [← q.2.1, ← q.2.2]; exact hlt)]; exact q.2.1
theorem BL.end {S : sS} {p fw fs : Nat} (h : BL S p 64 fw fs) : fs = blB S p 64 ∧ fw = sRing S p fs (S 18 0) := by
  rcases h with q | q
  · omega
  · exact q.2
theorem blB_64 (S : sS) (p : Nat) : ∀ m, 1 ≤ m → blB S p m < m
  | 0, h => by omega
  | m + 1, _ => by
    rw [blB]
    rcases Nat.eq_zero_or_pos m with q | q
    · subst q; split <;> exact Nat.zero_lt_one
    · have := blB_64 S p m q
      split <;> omega
theorem BL.fs {S : sS} {p k fw fs : Nat} (h : BL S p k fw fs) (hk : k ≤ 64) : fs < 64 := by
  rcases h with q | q
  · omega
  · have := blB_64 S p k q.1; omega
/-! steps -/
theorem free_has {S : sS} {p day m l : Nat} (hm : m < 64) (hl : l < S 18 0) (h18 : S 18 0 ≤ 40) (h1 : S 12 l = p) (h2 : sKn S l day = true) (h3 : hasB (sBars S l) m = true) : hasB (sFree S p day (-1)) m = false := by
  have key : ∀ n, n ≤ 40 → l < n → hasB (sFr S p day (-1) n) m = false := by
    intro n
    induction n with
    | zero => intro _ h; omega
    | succ n ih =>
      intro hn h
      rw [sFr]
      by_cases e : l = n
      · subst e
        rw [if_pos ⟨nI_ne_m1 (by omega), h1, h2⟩, hasB_and _ _ hm, hasB_not _ hm, h3]; simp
      · have := ih (by omega) (by omega)
        split
        · rw [hasB_and _ _ hm, this, Bool.false_and]
        · exact this
  exact key _ h18 hl
def ftB (S : sS) (p m : Nat) : Int32 := if lyF S p m < S 18 0 then nI (lyF S p m) else -1
theorem lyF_free {S : sS} {p m : Nat} (hm : m < 64) (h18 : S 18 0 ≤ 40) : hasB (sFree S p (S 19 0) (-1)) m = true ↔ ¬ lyF S p m < S 18 0 := by
  constructor
  · intro h q
    have h2 : lyP S p m (lyF S p m) = true := by
      by_cases e : ∃ j, 0 ≤ j ∧ j < 0 + S 18 0 ∧ lyP S p m j = true
      · exact (fstB_yes (lyP S p m) (S 18 0) 0 e).2
      · exfalso
        have : ∀ n k, (∀ j, k ≤ j → j < k + n → lyP S p m j = false) → fstB (lyP S p m) n k = k + n := by
          intro n
          induction n with
          | zero => intro k _; rfl
          | succ n ih =>
            intro k hk
            rw [fstB, if_neg (by rw [hk k (Nat.le_refl _) (by omega)]; decide), ih (k + 1) (fun j h1 h2 => hk j (by omega) (by omega))]
            omega
        have h9 := this (S 18 0) 0 (fun j h1 h2 => by
          cases z : lyP S p m j
          · rfl
          · exact absurd ⟨j, h1, h2, z⟩ e)
        unfold lyF at q; omega
    have h3 := of_decide_eq_true h2
    rw [free_has hm q h18 h3.1 h3.2.1 h3.2.2] at h; cases h
  · intro h
    cases e : hasB (sFree S p (S 19 0) (-1)) m
    · exact absurd (lyF_ok hm e).1 h
    · rfl
theorem SP.zero {S : sS} {d : kD} (h : SP S d) : SP (upS S 22 0 0) (uI d 13 0 2 (nI 0)) := ⟨uI_s _ _ _ _ _, fun i hi => ⟨by rw [uI_k _ _ _ _ (by decide)]; exact (h.2 i hi).1, by rw [uI_k _ _ _ _ (by decide)]; exact (h.2 i hi).2⟩⟩
theorem SP.add {S : sS} {d : kD} (h : SP S d) {c m l : Nat} (hc : c < 64) : SP (upS (upS (upS S 20 c m) 21 c l) 22 0 (c + 1)) (uI (uI (uI d 14 0 c (nI m)) 15 0 c (nI l)) 13 0 2 (nI (c + 1))) := by
  refine ⟨uI_s _ _ _ _ _, fun i hi => ⟨?_, ?_⟩⟩
  · rw [uI_k _ _ _ _ (by decide), uI_k _ _ _ _ (by decide)]
    show _ = nI (upS (upS (upS S 20 c m) 21 c l) 22 0 (c + 1) 20 i)
    rw [upS_n _ _ (by omega), upS_n _ _ (by omega)]
    by_cases e : i = c
    · subst e; rw [uI_s, upS_s]
    · rw [uI_f _ _ _ _ e, upS_n _ _ (by omega)]; exact (h.2 i hi).1
  · rw [uI_k _ _ _ _ (by decide)]
    show _ = nI (upS (upS (upS S 20 c m) 21 c l) 22 0 (c + 1) 21 i)
    rw [upS_n _ _ (by omega)]
    by_cases e : i = c
    · subst e; rw [uI_s, upS_s]
    · rw [uI_f _ _ _ _ e, uI_k _ _ _ _ (by decide), upS_n _ _ (by omega), upS_n _ _ (by omega)]; exact (h.2 i hi).2
theorem TR.k {c : Nat} {r : Nat → Int32} {d : kD} (h : TR c r d) (k i f : Nat) (v : Int32) (hk : k ≠ 11 ∧ k ≠ 12) : TR c r (uI d k i f v) := ⟨by rw [uI_k _ _ _ _ (by omega)]; exact h.1, fun i hi => by rw [uI_k _ _ _ _ (by omega)]; exact h.2 i hi⟩
theorem lyx_inv {cA : Nat → ClassId} {ad : kA} {S : sS} {d : kD} (h : InvX cA ad S d) (p : Nat) : InvX cA ad (lyA S p) d :=
  h.sgen (fun f h1 h2 h3 _ => lyS_n S p _ h1 h2 h3 64) (lyS_g h.1.2.2 rfl 64 (Nat.le_refl _))
theorem chk_same (S : sS) : sameL S (upS S 22 0 0) := same22 S 0
theorem or_free {st fr : Int64} (h : ∀ m, m < 64 → hasB st m = true → hasB fr m = false) : st ||| fr = -1 ↔ st = fr ^^^ (-1) := by
  constructor
  · intro e
    apply hasB_ext
    intro k hk
    have h1 := hasB_all k hk
    rw [← e, hasB_or _ _ hk] at h1
    rw [hasB_not _ hk]
    cases a : hasB st k
    · rw [a, Bool.false_or] at h1; rw [h1]; rfl
    · rw [h k hk a]; rfl
  · intro e
    apply hasB_ext
    intro k hk
    rw [hasB_all k hk, hasB_or _ _ hk, e, hasB_not _ hk]
    cases hasB fr k <;> rfl
theorem ckL_22 (S : sS) (p : Nat) : ∀ n i st, ckL (upS S 22 0 0) p n i st = ckL S p n i st
  | 0, i, st => by
    rw [ckL, ckL, (same22 S 0).free]; rfl
  | n + 1, i, st => by
    have e : ckO (upS S 22 0 0) p i st = ckO S p i st := by
      unfold ckO
      rw [show upS S 22 0 0 21 i = S 21 i from rfl, show upS S 22 0 0 20 i = S 20 i from rfl, (same22 S 0).kn, (same22 S 0).bars]; rfl
    rw [ckL, ckL, e, ckL_22 S p n]; rfl
theorem XR.steps {cA : Nat → ClassId} {ad : kA} {S : sS} {sr : Nat → Int32} {d0 d : kD} (h : XR cA ad S d0 d) (hT : TR (S 32 0) sr d) (hS : SP (upS S 22 0 0) d) : PX cA ad (upS S 22 0 0) sr d0 d :=
  ⟨h.1.sgen (fun f _ _ h3 _ => by funext i; exact upS_n _ _ (fun q => h3 q.1)) ((h.1.1.2.2.b.up 22 0 (mx := 64) rfl (by omega)).g h.1.1.2.2.2.2), ⟨hT, hS⟩, h.2⟩
theorem XR.k {cA : Nat → ClassId} {ad : kA} {S : sS} {d d1 d2 : kD} (h : XR cA ad S d d1) (h2 : XK cA ad S d1 d2) : XR cA ad S d d2 := ⟨h2.1, h.2.trans h2.2.kx.frx⟩
theorem XR.start {cA : Nat → ClassId} {ad : kA} {S : sS} {d : kD} (h : InvX cA ad S d) : XR cA ad S d d := ⟨h, FrX.refl d⟩
theorem ftB_yes {S : sS} {p m k : Nat} (h : lyF S p m = k) (hk : k < S 18 0) : ftB S p m = nI k := by unfold ftB; rw [h, if_pos hk]
theorem ftB_no {S : sS} {p m : Nat} (h : S 18 0 ≤ lyF S p m) : ftB S p m = -1 := by unfold ftB; rw [if_neg (by omega)]
theorem ftB_eq {S : sS} {p m : Nat} (h18 : S 18 0 ≤ 40) (h : ftB S p m = -1) : ¬ lyF S p m < S 18 0 := by
  intro q
  unfold ftB at h
  rw [if_pos q] at h
  exact nI_ne_m1 (by omega) h
theorem ftB_ne {S : sS} {p m : Nat} (h : ¬ ftB S p m = -1) : lyF S p m < S 18 0 := by
  rcases Nat.lt_or_ge (lyF S p m) (S 18 0) with z | z
  · exact z
  · exact absurd (ftB_no z) h
theorem or_one {st fr : Int64} {m0 : Nat} (h : ∀ m, m < 64 → hasB st m = true → hasB fr m = false) (hm : m0 < 64) (h0 : hasB fr m0 = false) : ∀ m, m < 64 → hasB (st ||| lsl 1 m0) m = true → hasB fr m = false := by
  intro m hm2 hb
  rw [hasB_or _ _ hm2, hasB_one m0 hm m hm2] at hb
  by_cases e : m = m0
  · rw [e]; exact h0
  · rw [decide_eq_false e, Bool.or_false] at hb
    exact h m hm2 hb
