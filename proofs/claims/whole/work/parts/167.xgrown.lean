/-! a list grows by one: what holds of the whole -/
theorem xSg_r {k : Nat} (h : xSg k = true) : k ≤ 2 ∨ 11 ≤ k := by
  have : ∀ k, k < 11 → xSg k = true → k ≤ 2 := by decide
  by_cases hk : k < 11
  · exact Or.inl (this k hk h)
  · exact Or.inr (by omega)
theorem xFk_r : ∀ f, f < 13 → (xFk f).1 < 5 ∨ 10 < (xFk f).1 := by decide
theorem trA_cg2 {a ad : kA} {S S' : sS} (h8 : ∀ k, S' 8 k = S 8 k) (h7 : ∀ t, a.1 7 t = ad.1 7 t) (p : Nat) : ∀ k, trA a S' p k = trA ad S p k
  | 0 => rfl
  | k + 1 => by rw [trA, trA, h8, h7, trA_cg2 h8 h7 p k]
theorem trA_0 {ad : kA} {S : sS} {p : Nat} : ∀ k, (∀ t, t < k → S 8 t ≠ p) → trA ad S p k = 0
  | 0, _ => rfl
  | k + 1, h => by rw [trA, if_neg (h k (Nat.lt_succ_self k))]; exact trA_0 k (fun t ht => h t (by omega))
/-- the layout: the new one stands at (kd, n), the list j leads to it -/
def GwP (ad : kA) (j kd n : Nat) (a : kA) : Prop := (a.1 5 j ≠ 0 ∧ a.2 4 j 1 = a.1 5 j ∧ (n + 1 ≤ a.2 5 j 100 ∧ a.2 5 j 100 ≤ 60) ∧ (∀ i, i < n → a.2 5 j i = ad.2 5 j i) ∧ a.2 5 j n = a.1 kd n) ∧ (∀ k i, ¬ (k = 5 ∧ i = j) → ¬ (k = kd ∧ i = n) → a.1 k i = ad.1 k i) ∧ (∀ k i, k ≠ 28 → ¬ (k = 5 ∧ i = j) → ¬ (k = 4 ∧ i = j) → ¬ (k = kd ∧ i = n) → a.2 k i = ad.2 k i) ∧ a.1 kd n ≠ 0
def GwD (d : kD) (j kd n : Nat) (d3 : kD) : Prop := (∀ k i f, ¬ (k = kd ∧ i = n) → ¬ (k = 4 ∧ i = j ∧ (f = 0 ∨ f = 2)) → d3.1 k i f = d.1 k i f) ∧ (∀ k i f, ¬ (k = kd ∧ i = n) → d3.2.1 k i f = d.2.1 k i f) ∧ d3.2.2 = d.2.2 ∧ d3.1 4 j 2 = nI (n + 1)
def GwS (S : sS) (lo hi fc n : Nat) (S' : sS) : Prop := (∀ f i, ¬ (lo ≤ f ∧ f ≤ hi ∧ i = n) → ¬ (f = fc ∧ i = 0) → S' f i = S f i) ∧ S' fc 0 = n + 1
/-- the others' keys are as they were -/
def AFr (ad a : kA) : Prop := (∀ k, (29 ≤ k ∨ k = 0) → a.1 k = ad.1 k) ∧ ∀ k, 29 ≤ k → a.2 k = ad.2 k
theorem AFr.refl (ad : kA) : AFr ad ad := ⟨fun _ _ => rfl, fun _ _ => rfl⟩
theorem AFr.mal {ad a : kA} (h : AFr ad a) (hm : mAl ad) : mAl a := ⟨by rw [h.1 40 (by omega)]; exact hm.1, fun f hf h9 => by rw [h.1 (50 + f) (by omega), h.2 40 (by omega)]; exact hm.2 f hf h9⟩
theorem GwP.afr {ad a : kA} {j kd n : Nat} (h : GwP ad j kd n a) (hkd : 0 < kd ∧ kd < 28) : AFr ad a := ⟨fun k hk => by funext i; exact h.2.1 k i (by omega) (by omega), fun k hk => by funext i; exact h.2.2.1 k i (by omega) (by omega) (by omega) (by omega)⟩
/-- from the new cell, its fields and the list's growth -/
theorem GwP.of {ad aN aI a : kA} {j kd n : Nat} (hkd : 5 < kd ∧ kd < 28) (hN1 : ∀ k i, ¬ (k = kd ∧ i = n) → aN.1 k i = ad.1 k i) (hq : aN.1 kd n ≠ 0) (hI1 : aI.1 = aN.1) (hI2 : ∀ k i, ¬ (k = kd ∧ i = n) → aI.2 k i = ad.2 k i) (h : AdP aI j n (aI.1 kd n) a) : GwP ad j kd n a := by
  obtain ⟨h1, h2, h3, h4, h5, h6, h7, -⟩ := h
  have ekd : a.1 kd n = aI.1 kd n := h6 kd n (by omega)
  refine ⟨⟨h1, h2, h3, fun i hi => ?_, by rw [h5, ekd]⟩, fun k i g1 g2 => by rw [h6 k i g1, hI1]; exact hN1 k i g2, fun k i g1 g2 g3 g4 => by rw [h7 k i g1 g2 g3]; exact hI2 k i g4, by rw [ekd, hI1]; exact hq⟩
  rw [h4 i hi, hI2 5 j (by omega)]
theorem GwD.of {d dI : kD} {j kd n : Nat} {v : Int32} (hkd : 5 < kd) (h1 : ∀ k i f, ¬ (k = kd ∧ i = n) → dI.1 k i f = d.1 k i f) (h2 : ∀ k i f, ¬ (k = kd ∧ i = n) → dI.2.1 k i f = d.2.1 k i f) (h3 : dI.2.2 = d.2.2) : GwD d j kd n (uI (uI dI 4 j 0 v) 4 j 2 (nI (n + 1))) :=
  ⟨fun k i f g1 g2 => by rw [uI_n _ _ (by omega), uI_n _ _ (by omega)]; exact h1 k i f g1, fun k i f g1 => h2 k i f g1, h3, uI_s _ _ _ _ _⟩
set_option maxHeartbeats 1000000 in
theorem xg0 {cA : Nat → ClassId} {ad a : kA} {S S' : sS} {sr : Nat → Int32} {d d3 : kD} {n : Nat} (hM : InvX cA ad S d) (hR : RowX S sr d) (hn : S 7 0 = n) (hmx : n < 8) (hG : sG S') (hA : GwP ad 0 6 n a) (hD : GwD d 0 6 n d3) (hS : GwS S 2 6 7 n S') (hr : (∀ f, f < 5 → d3.1 6 n f = nI (S' (2 + f) n)) ∧ d3.1 6 n 10 = nI 0 ∧ d3.1 6 n 7 = nI 0 ∧ d3.1 6 n 8 = nI 0 ∧ (a.2 6 n 5 = a.1 1 0 ∧ a.2 6 n 6 = a.1 3 n ∧ a.2 6 n 9 = 0)) : PX cA a S' sr d d3 := by
  obtain ⟨⟨⟨a1, a2, a3, a4, a5, a6, a7, a8, a9, a10, a11, a12, a13, a14⟩, ⟨⟨b1, b2, b3⟩, b4, b5, b6, b7, b8, b9, b10, b14, b15⟩, hGo⟩, w1, w2, w3⟩ := hM
  obtain ⟨⟨p1, p2, p3, p4, p5⟩, g1, g2, gq⟩ := hA
  obtain ⟨u1, u2, u3, u4⟩ := hD
  obtain ⟨s1, s2⟩ := hS
  have E18 : S' 18 0 = S 18 0 := s1 18 0 (by omega) (by omega)
  have E25 : S' 25 0 = S 25 0 := s1 25 0 (by omega) (by omega)
  have E30 : S' 30 0 = S 30 0 := s1 30 0 (by omega) (by omega)
  have E11 : S' 11 0 = S 11 0 := s1 11 0 (by omega) (by omega)
  have tA : ∀ p k, trA a S' p k = trA ad S p k := fun p k => trA_cg2 (fun k => s1 8 k (by omega) (by omega)) (fun t => g1 7 t (by omega) (by omega)) p k
  have hlp : ∀ l, l < S 18 0 → S 12 l < n := fun l hl => by have := hGo.2.2.2.2.1 l hl; omega
  have he : ∀ p, p < S 7 0 → ∀ m k, sHE S' p m k = sHE S p m k := fun p hp m k => sHE_cg (by funext i; exact s1 0 i (by omega) (by omega)) (s1 3 p (by omega) (by omega)) (s1 4 p (by omega) (by omega)) (by funext i; exact s1 8 i (by omega) (by omega)) (by funext i; exact s1 9 i (by omega) (by omega)) (by funext i; exact s1 10 i (by omega) (by omega)) E11 m k
  have hAl : xAl cA a S' := by
    refine ⟨fun k hk => ?_, fun f hf => ?_, fun i hi => ?_, fun i hi => ?_, fun i hi => ?_, fun p hp => ?_, fun l hl => ?_, fun t ht => ⟨?_, ?_⟩, ⟨?_, ?_, ?_⟩, fun f hf => ?_, fun f hf => ?_, fun i hi q hq => ?_, fun t ht => ?_, ?_⟩
    · have := xSg_r hk; rw [g1 k 0 (by omega) (by omega)]; exact a1 k hk
    · have := xFk_r f hf; rw [g2 0 0 (by omega) (by omega) (by omega) (by omega), g1 (xFk f).1 (xFk f).2 (by omega) (by omega)]; exact a2 f hf
    · rw [g1 4 i (by omega) (by omega)]; exact a3 i hi
    · rw [g1 3 i (by omega) (by omega), g2 2 0 (by omega) (by omega) (by omega) (by omega)]; exact a4 i hi
    · match i, hi with
      | 0, _ =>
        show xLs cA a 0 (S' 7 0)
        rw [s2]
        refine ⟨Or.inr ⟨p1, p2, p3.1, p3.2, by omega⟩, fun q hq => ?_⟩
        show a.1 6 q ≠ 0 ∧ a.2 5 0 q = a.1 6 q
        by_cases e : q = n
        · rw [e]; exact ⟨gq, p5⟩
        · have h : ad.1 6 q ≠ 0 ∧ ad.2 5 0 q = ad.1 6 q := (a5 0 (by decide)).2 q (by show q < S 7 0; omega)
          rw [g1 6 q (by omega) (by omega), p4 q (by omega)]; exact h
      | 1, _ =>
        show xLs cA a 1 (S' 18 0)
        have h : xLs cA ad 1 (S 18 0) := a5 1 (by decide)
        rw [E18]
        refine ⟨?_, fun q hq => ?_⟩
        · rw [g2 4 1 (by omega) (by omega) (by omega) (by omega), g1 5 1 (by omega) (by omega), g2 5 1 (by omega) (by omega) (by omega) (by omega)]; exact h.1
        · show a.1 8 q ≠ 0 ∧ a.2 5 1 q = a.1 8 q
          rw [g1 8 q (by omega) (by omega), g2 5 1 (by omega) (by omega) (by omega) (by omega)]; exact h.2 q hq
      | 2, _ =>
        show xLs cA a 2 (S' 25 0)
        have h : xLs cA ad 2 (S 25 0) := a5 2 (by decide)
        rw [E25]
        refine ⟨?_, fun q hq => ?_⟩
        · rw [g2 4 2 (by omega) (by omega) (by omega) (by omega), g1 5 2 (by omega) (by omega), g2 5 2 (by omega) (by omega) (by omega) (by omega)]; exact h.1
        · show a.1 9 q ≠ 0 ∧ a.2 5 2 q = a.1 9 q
          rw [g1 9 q (by omega) (by omega), g2 5 2 (by omega) (by omega) (by omega) (by omega)]; exact h.2 q hq
      | 3, _ =>
        show xLs cA a 3 (S' 30 0)
        have h : xLs cA ad 3 (S 30 0) := a5 3 (by decide)
        rw [E30]
        refine ⟨?_, fun q hq => ?_⟩
        · rw [g2 4 3 (by omega) (by omega) (by omega) (by omega), g1 5 3 (by omega) (by omega), g2 5 3 (by omega) (by omega) (by omega) (by omega)]; exact h.1
        · show a.1 10 q ≠ 0 ∧ a.2 5 3 q = a.1 10 q
          rw [g1 10 q (by omega) (by omega), g2 5 3 (by omega) (by omega) (by omega) (by omega)]; exact h.2 q hq
      | i + 4, hi => exact absurd hi (by omega)
    · by_cases e : p = n
      · rw [e]; exact ⟨hr.2.2.2.2.1, hr.2.2.2.2.2.1, by rw [hr.2.2.2.2.2.2, tA, E11, trA_0 _ (fun t ht => by have := hGo.2.2.2.1 t ht; omega)]⟩
      · rw [g2 6 p (by omega) (by omega) (by omega) (by omega), g1 1 0 (by omega) (by omega), g1 3 p (by omega) (by omega), tA, E11]; exact a6 p (by omega)
    · have := hlp l (by omega); rw [g2 8 l (by omega) (by omega) (by omega) (by omega), s1 12 l (by omega) (by omega), g1 6 (S 12 l) (by omega) (by omega)]; exact a7 l (by omega)
    · rw [g1 7 t (by omega) (by omega)]; exact (a8 t (by omega)).1
    · rw [g2 7 t (by omega) (by omega) (by omega) (by omega), tA, s1 8 t (by omega) (by omega)]; exact (a8 t (by omega)).2
    · rw [g2 11 0 (by omega) (by omega) (by omega) (by omega), g1 12 0 (by omega) (by omega)]; exact a9.1
    · rw [g2 13 0 (by omega) (by omega) (by omega) (by omega), g1 14 0 (by omega) (by omega)]; exact a9.2.1
    · rw [g2 13 0 (by omega) (by omega) (by omega) (by omega), g1 15 0 (by omega) (by omega)]; exact a9.2.2
    · rw [g2 16 0 (by omega) (by omega) (by omega) (by omega), g1 (17 + f) 0 (by omega) (by omega)]; exact a10 f hf
    · rw [g2 22 0 (by omega) (by omega) (by omega) (by omega), g1 (23 + f) 0 (by omega) (by omega)]; exact a11 f hf
    · match i, hi with
      | 0, _ =>
        have hq : S' 7 0 ≤ q := hq
        show a.1 6 q = 0
        rw [g1 6 q (by omega) (by omega)]; exact a12 0 (by decide) q (by show S 7 0 ≤ q; omega)
      | 1, _ =>
        have hq : S' 18 0 ≤ q := hq
        show a.1 8 q = 0
        rw [g1 8 q (by omega) (by omega)]; exact a12 1 (by decide) q (by show S 18 0 ≤ q; omega)
      | 2, _ =>
        have hq : S' 25 0 ≤ q := hq
        show a.1 9 q = 0
        rw [g1 9 q (by omega) (by omega)]; exact a12 2 (by decide) q (by show S 25 0 ≤ q; omega)
      | 3, _ =>
        have hq : S' 30 0 ≤ q := hq
        show a.1 10 q = 0
        rw [g1 10 q (by omega) (by omega)]; exact a12 3 (by decide) q (by show S 30 0 ≤ q; omega)
      | i + 4, hi => exact absurd hi (by omega)
    · rw [g1 7 t (by omega) (by omega)]; exact a13 t (by omega)
    · rw [g1 28 0 (by omega) (by omega)]; exact a14
  have hDd : xD S' d3 := by
    refine ⟨⟨?_, fun z => ?_, ?_⟩, fun i hi => ?_, fun i hi => ?_, fun p hp => ?_, fun t ht => ⟨?_, ?_⟩, fun l hl f hf => ?_, fun b hb => ?_, fun q ho f hf => ?_, fun p hp h => ?_, ?_⟩
    · rw [u1 0 0 13 (by omega) (by omega), s1 1 0 (by omega) (by omega)]; exact b1
    · rw [u2 31 0 0 (by omega)] at z; rw [u1 0 0 14 (by omega) (by omega), E11]; exact b2 z
    · rw [u1 0 0 15 (by omega) (by omega), s1 19 0 (by omega) (by omega)]; exact b3
    · rw [u1 1 0 i (by omega) (by omega), s1 0 i (by omega) (by omega)]; exact b4 i hi
    · match i, hi with
      | 0, _ =>
        show d3.1 4 0 2 = nI (S' 7 0)
        rw [s2]; exact u4
      | 1, _ =>
        show d3.1 4 1 2 = nI (S' 18 0)
        rw [u1 4 1 2 (by omega) (by omega), E18]; exact b5 1 (by decide)
      | 2, _ =>
        show d3.1 4 2 2 = nI (S' 25 0)
        rw [u1 4 2 2 (by omega) (by omega), E25]; exact b5 2 (by decide)
      | 3, _ =>
        show d3.1 4 3 2 = nI (S' 30 0)
        rw [u1 4 3 2 (by omega) (by omega), E30]; exact b5 3 (by decide)
      | i + 4, hi => exact absurd hi (by omega)
    · by_cases e : p = n
      · rw [e]; exact ⟨hr.1, by rw [hr.2.1, s1 26 n (by omega) (by omega), b14 n hmx (by omega)]⟩
      · exact ⟨fun f hf => by rw [u1 6 p f (by omega) (by omega), s1 (2 + f) p (by omega) (by omega)]; exact (b6 p (by omega)).1 f hf, by rw [u1 6 p 10 (by omega) (by omega), s1 26 p (by omega) (by omega)]; exact (b6 p (by omega)).2⟩
    · rw [u1 7 t 0 (by omega) (by omega), s1 9 t (by omega) (by omega)]; exact (b7 t (by omega)).1
    · rw [u1 7 t 1 (by omega) (by omega), s1 10 t (by omega) (by omega)]; exact (b7 t (by omega)).2
    · rw [u1 8 l (1 + f) (by omega) (by omega), s1 (13 + f) l (by omega) (by omega)]; exact b8 l (by omega) f hf
    · exact ⟨by rw [u1 9 b 0 (by omega) (by omega), s1 23 b (by omega) (by omega)]; exact (b9 b (by omega)).1, by rw [u1 9 b 1 (by omega) (by omega), s1 24 b (by omega) (by omega)]; exact (b9 b (by omega)).2⟩
    · rw [u1 10 q f (by omega) (by omega), s1 (27 + f) q (by omega) (by omega)]; exact b10 q (by omega) f hf
    · rw [s1 26 p (by omega) (by omega)]; exact b14 p hp (by omega)
    · rw [u2 21 0 0 (by omega)]; exact b15
  refine ⟨⟨⟨hAl, hDd, hG⟩, fun p hp => ?_, fun l hl => ?_, w3.cg (by omega) (fun p hp => by funext f; exact u1 3 p f (by omega) (by omega))⟩, ⟨⟨?_, fun i hi => ?_⟩, ?_, fun i hi => ⟨?_, ?_⟩⟩, fun k hk => ?_, fun k hk => ?_, u3⟩
  · by_cases e : p = n
    · rw [e]; exact ⟨0, 0, by omega, by omega, hr.2.2.1, hr.2.2.2.1, fun m hm => by rw [u1 3 n m (by omega) (by omega), w3 n (by omega) hmx m hm]; show (0 : Int32) = nI (0 * 256 + 0); decide, fun q h1 h2 => absurd h1 (by omega)⟩
    · have hp7 : p < S 7 0 := by omega
      obtain ⟨w, k, c1, c2, c3, c4, c5, c6⟩ := w1 p hp7
      exact ⟨w, k, c1, c2, by rw [u1 6 p 7 (by omega) (by omega)]; exact c3, by rw [u1 6 p 8 (by omega) (by omega)]; exact c4, fun m hm => by rw [u1 3 p m (by omega) (by omega), he p hp7]; exact c5 m hm, fun q h1 h2 m hm => by rw [u1 3 p (64 * q + m) (by omega) (by omega), he p hp7]; exact c6 q h1 h2 m hm⟩
  · have hl8 : l < S 18 0 := by omega
    have h := w2 l hl8
    unfold Lk at *
    rw [u1 8 l 6 (by omega) (by omega), u2 8 l 7 (by omega), sBars_cg (s1 12 l (by omega) (by omega)) (s1 13 l (by omega) (by omega)) (s1 14 l (by omega) (by omega)) (s1 15 l (by omega) (by omega)) (he _ (hGo.2.2.2.2.1 l hl8))]
    exact h
  · rw [u1 11 0 1 (by omega) (by omega), s1 32 0 (by omega) (by omega)]; exact hR.1.1
  · rw [s1 32 0 (by omega) (by omega)] at hi; rw [u1 12 0 i (by omega) (by omega)]; exact hR.1.2 i hi
  · rw [u1 13 0 2 (by omega) (by omega), s1 22 0 (by omega) (by omega)]; exact hR.2.1
  · rw [u1 14 0 i (by omega) (by omega), s1 20 i (by omega) (by omega)]; exact (hR.2.2 i hi).1
  · rw [u1 15 0 i (by omega) (by omega), s1 21 i (by omega) (by omega)]; exact (hR.2.2 i hi).2
  · funext i f; exact u1 k i f (by omega) (by omega)
  · funext i f; exact u2 k i f (by omega)
set_option maxHeartbeats 1000000 in
theorem xg1 {cA : Nat → ClassId} {ad a : kA} {S S' : sS} {sr : Nat → Int32} {d d3 : kD} {n : Nat} (hM : InvX cA ad S d) (hR : RowX S sr d) (hn : S 18 0 = n) (hmx : n < 40) (hG : sG S') (hA : GwP ad 1 8 n a) (hD : GwD d 1 8 n d3) (hS : GwS S 12 17 18 n S') (hr : (∀ f, f < 5 → d3.1 8 n (1 + f) = nI (S' (13 + f) n)) ∧ d3.1 8 n 6 = 0 ∧ a.2 8 n 0 = a.1 6 (S' 12 n)) : PX cA a S' sr d d3 := by
  obtain ⟨⟨⟨a1, a2, a3, a4, a5, a6, a7, a8, a9, a10, a11, a12, a13, a14⟩, ⟨⟨b1, b2, b3⟩, b4, b5, b6, b7, b8, b9, b10, b14, b15⟩, hGo⟩, w1, w2, w3⟩ := hM
  obtain ⟨⟨p1, p2, p3, p4, p5⟩, g1, g2, gq⟩ := hA
  obtain ⟨u1, u2, u3, u4⟩ := hD
  obtain ⟨s1, s2⟩ := hS
  have E7 : S' 7 0 = S 7 0 := s1 7 0 (by omega) (by omega)
  have E25 : S' 25 0 = S 25 0 := s1 25 0 (by omega) (by omega)
  have E30 : S' 30 0 = S 30 0 := s1 30 0 (by omega) (by omega)
  have E11 : S' 11 0 = S 11 0 := s1 11 0 (by omega) (by omega)
  have tA : ∀ p k, trA a S' p k = trA ad S p k := fun p k => trA_cg2 (fun k => s1 8 k (by omega) (by omega)) (fun t => g1 7 t (by omega) (by omega)) p k
  have he : ∀ p, p < S 7 0 → ∀ m k, sHE S' p m k = sHE S p m k := fun p hp m k => sHE_cg (by funext i; exact s1 0 i (by omega) (by omega)) (s1 3 p (by omega) (by omega)) (s1 4 p (by omega) (by omega)) (by funext i; exact s1 8 i (by omega) (by omega)) (by funext i; exact s1 9 i (by omega) (by omega)) (by funext i; exact s1 10 i (by omega) (by omega)) E11 m k
  have hAl : xAl cA a S' := by
    refine ⟨fun k hk => ?_, fun f hf => ?_, fun i hi => ?_, fun i hi => ?_, fun i hi => ?_, fun p hp => ?_, fun l hl => ?_, fun t ht => ⟨?_, ?_⟩, ⟨?_, ?_, ?_⟩, fun f hf => ?_, fun f hf => ?_, fun i hi q hq => ?_, fun t ht => ?_, ?_⟩
    · have := xSg_r hk; rw [g1 k 0 (by omega) (by omega)]; exact a1 k hk
    · have := xFk_r f hf; rw [g2 0 0 (by omega) (by omega) (by omega) (by omega), g1 (xFk f).1 (xFk f).2 (by omega) (by omega)]; exact a2 f hf
    · rw [g1 4 i (by omega) (by omega)]; exact a3 i hi
    · rw [g1 3 i (by omega) (by omega), g2 2 0 (by omega) (by omega) (by omega) (by omega)]; exact a4 i hi
    · match i, hi with
      | 0, _ =>
        show xLs cA a 0 (S' 7 0)
        have h : xLs cA ad 0 (S 7 0) := a5 0 (by decide)
        rw [E7]
        refine ⟨?_, fun q hq => ?_⟩
        · rw [g2 4 0 (by omega) (by omega) (by omega) (by omega), g1 5 0 (by omega) (by omega), g2 5 0 (by omega) (by omega) (by omega) (by omega)]; exact h.1
        · show a.1 6 q ≠ 0 ∧ a.2 5 0 q = a.1 6 q
          rw [g1 6 q (by omega) (by omega), g2 5 0 (by omega) (by omega) (by omega) (by omega)]; exact h.2 q hq
      | 1, _ =>
        show xLs cA a 1 (S' 18 0)
        rw [s2]
        refine ⟨Or.inr ⟨p1, p2, p3.1, p3.2, by omega⟩, fun q hq => ?_⟩
        show a.1 8 q ≠ 0 ∧ a.2 5 1 q = a.1 8 q
        by_cases e : q = n
        · rw [e]; exact ⟨gq, p5⟩
        · have h : ad.1 8 q ≠ 0 ∧ ad.2 5 1 q = ad.1 8 q := (a5 1 (by decide)).2 q (by show q < S 18 0; omega)
          rw [g1 8 q (by omega) (by omega), p4 q (by omega)]; exact h
      | 2, _ =>
        show xLs cA a 2 (S' 25 0)
        have h : xLs cA ad 2 (S 25 0) := a5 2 (by decide)
        rw [E25]
        refine ⟨?_, fun q hq => ?_⟩
        · rw [g2 4 2 (by omega) (by omega) (by omega) (by omega), g1 5 2 (by omega) (by omega), g2 5 2 (by omega) (by omega) (by omega) (by omega)]; exact h.1
        · show a.1 9 q ≠ 0 ∧ a.2 5 2 q = a.1 9 q
          rw [g1 9 q (by omega) (by omega), g2 5 2 (by omega) (by omega) (by omega) (by omega)]; exact h.2 q hq
      | 3, _ =>
        show xLs cA a 3 (S' 30 0)
        have h : xLs cA ad 3 (S 30 0) := a5 3 (by decide)
        rw [E30]
        refine ⟨?_, fun q hq => ?_⟩
        · rw [g2 4 3 (by omega) (by omega) (by omega) (by omega), g1 5 3 (by omega) (by omega), g2 5 3 (by omega) (by omega) (by omega) (by omega)]; exact h.1
        · show a.1 10 q ≠ 0 ∧ a.2 5 3 q = a.1 10 q
          rw [g1 10 q (by omega) (by omega), g2 5 3 (by omega) (by omega) (by omega) (by omega)]; exact h.2 q hq
      | i + 4, hi => exact absurd hi (by omega)
    · rw [g2 6 p (by omega) (by omega) (by omega) (by omega), g1 1 0 (by omega) (by omega), g1 3 p (by omega) (by omega), tA, E11]; exact a6 p (by omega)
    · by_cases e : l = n
      · rw [e]; exact hr.2.2
      · rw [g2 8 l (by omega) (by omega) (by omega) (by omega), s1 12 l (by omega) (by omega), g1 6 (S 12 l) (by omega) (by omega)]; exact a7 l (by omega)
    · rw [g1 7 t (by omega) (by omega)]; exact (a8 t (by omega)).1
    · rw [g2 7 t (by omega) (by omega) (by omega) (by omega), tA, s1 8 t (by omega) (by omega)]; exact (a8 t (by omega)).2
    · rw [g2 11 0 (by omega) (by omega) (by omega) (by omega), g1 12 0 (by omega) (by omega)]; exact a9.1
    · rw [g2 13 0 (by omega) (by omega) (by omega) (by omega), g1 14 0 (by omega) (by omega)]; exact a9.2.1
    · rw [g2 13 0 (by omega) (by omega) (by omega) (by omega), g1 15 0 (by omega) (by omega)]; exact a9.2.2
    · rw [g2 16 0 (by omega) (by omega) (by omega) (by omega), g1 (17 + f) 0 (by omega) (by omega)]; exact a10 f hf
    · rw [g2 22 0 (by omega) (by omega) (by omega) (by omega), g1 (23 + f) 0 (by omega) (by omega)]; exact a11 f hf
    · match i, hi with
      | 0, _ =>
        have hq : S' 7 0 ≤ q := hq
        show a.1 6 q = 0
        rw [g1 6 q (by omega) (by omega)]; exact a12 0 (by decide) q (by show S 7 0 ≤ q; omega)
      | 1, _ =>
        have hq : S' 18 0 ≤ q := hq
        show a.1 8 q = 0
        rw [g1 8 q (by omega) (by omega)]; exact a12 1 (by decide) q (by show S 18 0 ≤ q; omega)
      | 2, _ =>
        have hq : S' 25 0 ≤ q := hq
        show a.1 9 q = 0
        rw [g1 9 q (by omega) (by omega)]; exact a12 2 (by decide) q (by show S 25 0 ≤ q; omega)
      | 3, _ =>
        have hq : S' 30 0 ≤ q := hq
        show a.1 10 q = 0
        rw [g1 10 q (by omega) (by omega)]; exact a12 3 (by decide) q (by show S 30 0 ≤ q; omega)
      | i + 4, hi => exact absurd hi (by omega)
    · rw [g1 7 t (by omega) (by omega)]; exact a13 t (by omega)
    · rw [g1 28 0 (by omega) (by omega)]; exact a14
  have hDd : xD S' d3 := by
    refine ⟨⟨?_, fun z => ?_, ?_⟩, fun i hi => ?_, fun i hi => ?_, fun p hp => ?_, fun t ht => ⟨?_, ?_⟩, fun l hl f hf => ?_, fun b hb => ?_, fun q ho f hf => ?_, fun p hp h => ?_, ?_⟩
    · rw [u1 0 0 13 (by omega) (by omega), s1 1 0 (by omega) (by omega)]; exact b1
    · rw [u2 31 0 0 (by omega)] at z; rw [u1 0 0 14 (by omega) (by omega), E11]; exact b2 z
    · rw [u1 0 0 15 (by omega) (by omega), s1 19 0 (by omega) (by omega)]; exact b3
    · rw [u1 1 0 i (by omega) (by omega), s1 0 i (by omega) (by omega)]; exact b4 i hi
    · match i, hi with
      | 0, _ =>
        show d3.1 4 0 2 = nI (S' 7 0)
        rw [u1 4 0 2 (by omega) (by omega), E7]; exact b5 0 (by decide)
      | 1, _ =>
        show d3.1 4 1 2 = nI (S' 18 0)
        rw [s2]; exact u4
      | 2, _ =>
        show d3.1 4 2 2 = nI (S' 25 0)
        rw [u1 4 2 2 (by omega) (by omega), E25]; exact b5 2 (by decide)
      | 3, _ =>
        show d3.1 4 3 2 = nI (S' 30 0)
        rw [u1 4 3 2 (by omega) (by omega), E30]; exact b5 3 (by decide)
      | i + 4, hi => exact absurd hi (by omega)
    · exact ⟨fun f hf => by rw [u1 6 p f (by omega) (by omega), s1 (2 + f) p (by omega) (by omega)]; exact (b6 p (by omega)).1 f hf, by rw [u1 6 p 10 (by omega) (by omega), s1 26 p (by omega) (by omega)]; exact (b6 p (by omega)).2⟩
    · rw [u1 7 t 0 (by omega) (by omega), s1 9 t (by omega) (by omega)]; exact (b7 t (by omega)).1
    · rw [u1 7 t 1 (by omega) (by omega), s1 10 t (by omega) (by omega)]; exact (b7 t (by omega)).2
    · by_cases e : l = n
      · rw [e]; exact hr.1 f hf
      · rw [u1 8 l (1 + f) (by omega) (by omega), s1 (13 + f) l (by omega) (by omega)]; exact b8 l (by omega) f hf
    · exact ⟨by rw [u1 9 b 0 (by omega) (by omega), s1 23 b (by omega) (by omega)]; exact (b9 b (by omega)).1, by rw [u1 9 b 1 (by omega) (by omega), s1 24 b (by omega) (by omega)]; exact (b9 b (by omega)).2⟩
    · rw [u1 10 q f (by omega) (by omega), s1 (27 + f) q (by omega) (by omega)]; exact b10 q (by omega) f hf
    · rw [s1 26 p (by omega) (by omega)]; exact b14 p hp (by omega)
    · rw [u2 21 0 0 (by omega)]; exact b15
  refine ⟨⟨⟨hAl, hDd, hG⟩, fun p hp => ?_, fun l hl => ?_, w3.cg (by omega) (fun p hp => by funext f; exact u1 3 p f (by omega) (by omega))⟩, ⟨⟨?_, fun i hi => ?_⟩, ?_, fun i hi => ⟨?_, ?_⟩⟩, fun k hk => ?_, fun k hk => ?_, u3⟩
  · have hp7 : p < S 7 0 := by omega
    obtain ⟨w, k, c1, c2, c3, c4, c5, c6⟩ := w1 p hp7
    exact ⟨w, k, c1, c2, by rw [u1 6 p 7 (by omega) (by omega)]; exact c3, by rw [u1 6 p 8 (by omega) (by omega)]; exact c4, fun m hm => by rw [u1 3 p m (by omega) (by omega), he p hp7]; exact c5 m hm, fun q h1 h2 m hm => by rw [u1 3 p (64 * q + m) (by omega) (by omega), he p hp7]; exact c6 q h1 h2 m hm⟩
  · by_cases e : l = n
    · rw [e]; exact Or.inl hr.2.1
    · have hl8 : l < S 18 0 := by omega
      have h := w2 l hl8
      unfold Lk at *
      rw [u1 8 l 6 (by omega) (by omega), u2 8 l 7 (by omega), sBars_cg (s1 12 l (by omega) (by omega)) (s1 13 l (by omega) (by omega)) (s1 14 l (by omega) (by omega)) (s1 15 l (by omega) (by omega)) (he _ (hGo.2.2.2.2.1 l hl8))]
      exact h
  · rw [u1 11 0 1 (by omega) (by omega), s1 32 0 (by omega) (by omega)]; exact hR.1.1
  · rw [s1 32 0 (by omega) (by omega)] at hi; rw [u1 12 0 i (by omega) (by omega)]; exact hR.1.2 i hi
  · rw [u1 13 0 2 (by omega) (by omega), s1 22 0 (by omega) (by omega)]; exact hR.2.1
  · rw [u1 14 0 i (by omega) (by omega), s1 20 i (by omega) (by omega)]; exact (hR.2.2 i hi).1
  · rw [u1 15 0 i (by omega) (by omega), s1 21 i (by omega) (by omega)]; exact (hR.2.2 i hi).2
  · funext i f; exact u1 k i f (by omega) (by omega)
  · funext i f; exact u2 k i f (by omega)
set_option maxHeartbeats 1000000 in
theorem xg2 {cA : Nat → ClassId} {ad a : kA} {S S' : sS} {sr : Nat → Int32} {d d3 : kD} {n : Nat} (hM : InvX cA ad S d) (hR : RowX S sr d) (hn : S 25 0 = n) (hmx : n < 4) (hG : sG S') (hA : GwP ad 2 9 n a) (hD : GwD d 2 9 n d3) (hS : GwS S 23 24 25 n S') (hr : d3.1 9 n 0 = nI (S' 23 n) ∧ d3.1 9 n 1 = nI (S' 24 n)) : PX cA a S' sr d d3 := by
  obtain ⟨⟨⟨a1, a2, a3, a4, a5, a6, a7, a8, a9, a10, a11, a12, a13, a14⟩, ⟨⟨b1, b2, b3⟩, b4, b5, b6, b7, b8, b9, b10, b14, b15⟩, hGo⟩, w1, w2, w3⟩ := hM
  obtain ⟨⟨p1, p2, p3, p4, p5⟩, g1, g2, gq⟩ := hA
  obtain ⟨u1, u2, u3, u4⟩ := hD
  obtain ⟨s1, s2⟩ := hS
  have E7 : S' 7 0 = S 7 0 := s1 7 0 (by omega) (by omega)
  have E18 : S' 18 0 = S 18 0 := s1 18 0 (by omega) (by omega)
  have E30 : S' 30 0 = S 30 0 := s1 30 0 (by omega) (by omega)
  have E11 : S' 11 0 = S 11 0 := s1 11 0 (by omega) (by omega)
  have tA : ∀ p k, trA a S' p k = trA ad S p k := fun p k => trA_cg2 (fun k => s1 8 k (by omega) (by omega)) (fun t => g1 7 t (by omega) (by omega)) p k
  have he : ∀ p, p < S 7 0 → ∀ m k, sHE S' p m k = sHE S p m k := fun p hp m k => sHE_cg (by funext i; exact s1 0 i (by omega) (by omega)) (s1 3 p (by omega) (by omega)) (s1 4 p (by omega) (by omega)) (by funext i; exact s1 8 i (by omega) (by omega)) (by funext i; exact s1 9 i (by omega) (by omega)) (by funext i; exact s1 10 i (by omega) (by omega)) E11 m k
  have hAl : xAl cA a S' := by
    refine ⟨fun k hk => ?_, fun f hf => ?_, fun i hi => ?_, fun i hi => ?_, fun i hi => ?_, fun p hp => ?_, fun l hl => ?_, fun t ht => ⟨?_, ?_⟩, ⟨?_, ?_, ?_⟩, fun f hf => ?_, fun f hf => ?_, fun i hi q hq => ?_, fun t ht => ?_, ?_⟩
    · have := xSg_r hk; rw [g1 k 0 (by omega) (by omega)]; exact a1 k hk
    · have := xFk_r f hf; rw [g2 0 0 (by omega) (by omega) (by omega) (by omega), g1 (xFk f).1 (xFk f).2 (by omega) (by omega)]; exact a2 f hf
    · rw [g1 4 i (by omega) (by omega)]; exact a3 i hi
    · rw [g1 3 i (by omega) (by omega), g2 2 0 (by omega) (by omega) (by omega) (by omega)]; exact a4 i hi
    · match i, hi with
      | 0, _ =>
        show xLs cA a 0 (S' 7 0)
        have h : xLs cA ad 0 (S 7 0) := a5 0 (by decide)
        rw [E7]
        refine ⟨?_, fun q hq => ?_⟩
        · rw [g2 4 0 (by omega) (by omega) (by omega) (by omega), g1 5 0 (by omega) (by omega), g2 5 0 (by omega) (by omega) (by omega) (by omega)]; exact h.1
        · show a.1 6 q ≠ 0 ∧ a.2 5 0 q = a.1 6 q
          rw [g1 6 q (by omega) (by omega), g2 5 0 (by omega) (by omega) (by omega) (by omega)]; exact h.2 q hq
      | 1, _ =>
        show xLs cA a 1 (S' 18 0)
        have h : xLs cA ad 1 (S 18 0) := a5 1 (by decide)
        rw [E18]
        refine ⟨?_, fun q hq => ?_⟩
        · rw [g2 4 1 (by omega) (by omega) (by omega) (by omega), g1 5 1 (by omega) (by omega), g2 5 1 (by omega) (by omega) (by omega) (by omega)]; exact h.1
        · show a.1 8 q ≠ 0 ∧ a.2 5 1 q = a.1 8 q
          rw [g1 8 q (by omega) (by omega), g2 5 1 (by omega) (by omega) (by omega) (by omega)]; exact h.2 q hq
      | 2, _ =>
        show xLs cA a 2 (S' 25 0)
        rw [s2]
        refine ⟨Or.inr ⟨p1, p2, p3.1, p3.2, by omega⟩, fun q hq => ?_⟩
        show a.1 9 q ≠ 0 ∧ a.2 5 2 q = a.1 9 q
        by_cases e : q = n
        · rw [e]; exact ⟨gq, p5⟩
        · have h : ad.1 9 q ≠ 0 ∧ ad.2 5 2 q = ad.1 9 q := (a5 2 (by decide)).2 q (by show q < S 25 0; omega)
          rw [g1 9 q (by omega) (by omega), p4 q (by omega)]; exact h
      | 3, _ =>
        show xLs cA a 3 (S' 30 0)
        have h : xLs cA ad 3 (S 30 0) := a5 3 (by decide)
        rw [E30]
        refine ⟨?_, fun q hq => ?_⟩
        · rw [g2 4 3 (by omega) (by omega) (by omega) (by omega), g1 5 3 (by omega) (by omega), g2 5 3 (by omega) (by omega) (by omega) (by omega)]; exact h.1
        · show a.1 10 q ≠ 0 ∧ a.2 5 3 q = a.1 10 q
          rw [g1 10 q (by omega) (by omega), g2 5 3 (by omega) (by omega) (by omega) (by omega)]; exact h.2 q hq
      | i + 4, hi => exact absurd hi (by omega)
    · rw [g2 6 p (by omega) (by omega) (by omega) (by omega), g1 1 0 (by omega) (by omega), g1 3 p (by omega) (by omega), tA, E11]; exact a6 p (by omega)
    · rw [g2 8 l (by omega) (by omega) (by omega) (by omega), s1 12 l (by omega) (by omega), g1 6 (S 12 l) (by omega) (by omega)]; exact a7 l (by omega)
    · rw [g1 7 t (by omega) (by omega)]; exact (a8 t (by omega)).1
    · rw [g2 7 t (by omega) (by omega) (by omega) (by omega), tA, s1 8 t (by omega) (by omega)]; exact (a8 t (by omega)).2
    · rw [g2 11 0 (by omega) (by omega) (by omega) (by omega), g1 12 0 (by omega) (by omega)]; exact a9.1
    · rw [g2 13 0 (by omega) (by omega) (by omega) (by omega), g1 14 0 (by omega) (by omega)]; exact a9.2.1
    · rw [g2 13 0 (by omega) (by omega) (by omega) (by omega), g1 15 0 (by omega) (by omega)]; exact a9.2.2
    · rw [g2 16 0 (by omega) (by omega) (by omega) (by omega), g1 (17 + f) 0 (by omega) (by omega)]; exact a10 f hf
    · rw [g2 22 0 (by omega) (by omega) (by omega) (by omega), g1 (23 + f) 0 (by omega) (by omega)]; exact a11 f hf
    · match i, hi with
      | 0, _ =>
        have hq : S' 7 0 ≤ q := hq
        show a.1 6 q = 0
        rw [g1 6 q (by omega) (by omega)]; exact a12 0 (by decide) q (by show S 7 0 ≤ q; omega)
      | 1, _ =>
        have hq : S' 18 0 ≤ q := hq
        show a.1 8 q = 0
        rw [g1 8 q (by omega) (by omega)]; exact a12 1 (by decide) q (by show S 18 0 ≤ q; omega)
      | 2, _ =>
        have hq : S' 25 0 ≤ q := hq
        show a.1 9 q = 0
        rw [g1 9 q (by omega) (by omega)]; exact a12 2 (by decide) q (by show S 25 0 ≤ q; omega)
      | 3, _ =>
        have hq : S' 30 0 ≤ q := hq
        show a.1 10 q = 0
        rw [g1 10 q (by omega) (by omega)]; exact a12 3 (by decide) q (by show S 30 0 ≤ q; omega)
      | i + 4, hi => exact absurd hi (by omega)
    · rw [g1 7 t (by omega) (by omega)]; exact a13 t (by omega)
    · rw [g1 28 0 (by omega) (by omega)]; exact a14
  have hDd : xD S' d3 := by
    refine ⟨⟨?_, fun z => ?_, ?_⟩, fun i hi => ?_, fun i hi => ?_, fun p hp => ?_, fun t ht => ⟨?_, ?_⟩, fun l hl f hf => ?_, fun b hb => ?_, fun q ho f hf => ?_, fun p hp h => ?_, ?_⟩
    · rw [u1 0 0 13 (by omega) (by omega), s1 1 0 (by omega) (by omega)]; exact b1
    · rw [u2 31 0 0 (by omega)] at z; rw [u1 0 0 14 (by omega) (by omega), E11]; exact b2 z
    · rw [u1 0 0 15 (by omega) (by omega), s1 19 0 (by omega) (by omega)]; exact b3
    · rw [u1 1 0 i (by omega) (by omega), s1 0 i (by omega) (by omega)]; exact b4 i hi
    · match i, hi with
      | 0, _ =>
        show d3.1 4 0 2 = nI (S' 7 0)
        rw [u1 4 0 2 (by omega) (by omega), E7]; exact b5 0 (by decide)
      | 1, _ =>
        show d3.1 4 1 2 = nI (S' 18 0)
        rw [u1 4 1 2 (by omega) (by omega), E18]; exact b5 1 (by decide)
      | 2, _ =>
        show d3.1 4 2 2 = nI (S' 25 0)
        rw [s2]; exact u4
      | 3, _ =>
        show d3.1 4 3 2 = nI (S' 30 0)
        rw [u1 4 3 2 (by omega) (by omega), E30]; exact b5 3 (by decide)
      | i + 4, hi => exact absurd hi (by omega)
    · exact ⟨fun f hf => by rw [u1 6 p f (by omega) (by omega), s1 (2 + f) p (by omega) (by omega)]; exact (b6 p (by omega)).1 f hf, by rw [u1 6 p 10 (by omega) (by omega), s1 26 p (by omega) (by omega)]; exact (b6 p (by omega)).2⟩
    · rw [u1 7 t 0 (by omega) (by omega), s1 9 t (by omega) (by omega)]; exact (b7 t (by omega)).1
    · rw [u1 7 t 1 (by omega) (by omega), s1 10 t (by omega) (by omega)]; exact (b7 t (by omega)).2
    · rw [u1 8 l (1 + f) (by omega) (by omega), s1 (13 + f) l (by omega) (by omega)]; exact b8 l (by omega) f hf
    · by_cases e : b = n
      · rw [e]; exact hr
      · exact ⟨by rw [u1 9 b 0 (by omega) (by omega), s1 23 b (by omega) (by omega)]; exact (b9 b (by omega)).1, by rw [u1 9 b 1 (by omega) (by omega), s1 24 b (by omega) (by omega)]; exact (b9 b (by omega)).2⟩
    · rw [u1 10 q f (by omega) (by omega), s1 (27 + f) q (by omega) (by omega)]; exact b10 q (by omega) f hf
    · rw [s1 26 p (by omega) (by omega)]; exact b14 p hp (by omega)
    · rw [u2 21 0 0 (by omega)]; exact b15
  refine ⟨⟨⟨hAl, hDd, hG⟩, fun p hp => ?_, fun l hl => ?_, w3.cg (by omega) (fun p hp => by funext f; exact u1 3 p f (by omega) (by omega))⟩, ⟨⟨?_, fun i hi => ?_⟩, ?_, fun i hi => ⟨?_, ?_⟩⟩, fun k hk => ?_, fun k hk => ?_, u3⟩
  · have hp7 : p < S 7 0 := by omega
    obtain ⟨w, k, c1, c2, c3, c4, c5, c6⟩ := w1 p hp7
    exact ⟨w, k, c1, c2, by rw [u1 6 p 7 (by omega) (by omega)]; exact c3, by rw [u1 6 p 8 (by omega) (by omega)]; exact c4, fun m hm => by rw [u1 3 p m (by omega) (by omega), he p hp7]; exact c5 m hm, fun q h1 h2 m hm => by rw [u1 3 p (64 * q + m) (by omega) (by omega), he p hp7]; exact c6 q h1 h2 m hm⟩
  · have hl8 : l < S 18 0 := by omega
    have h := w2 l hl8
    unfold Lk at *
    rw [u1 8 l 6 (by omega) (by omega), u2 8 l 7 (by omega), sBars_cg (s1 12 l (by omega) (by omega)) (s1 13 l (by omega) (by omega)) (s1 14 l (by omega) (by omega)) (s1 15 l (by omega) (by omega)) (he _ (hGo.2.2.2.2.1 l hl8))]
    exact h
  · rw [u1 11 0 1 (by omega) (by omega), s1 32 0 (by omega) (by omega)]; exact hR.1.1
  · rw [s1 32 0 (by omega) (by omega)] at hi; rw [u1 12 0 i (by omega) (by omega)]; exact hR.1.2 i hi
  · rw [u1 13 0 2 (by omega) (by omega), s1 22 0 (by omega) (by omega)]; exact hR.2.1
  · rw [u1 14 0 i (by omega) (by omega), s1 20 i (by omega) (by omega)]; exact (hR.2.2 i hi).1
  · rw [u1 15 0 i (by omega) (by omega), s1 21 i (by omega) (by omega)]; exact (hR.2.2 i hi).2
  · funext i f; exact u1 k i f (by omega) (by omega)
  · funext i f; exact u2 k i f (by omega)
set_option maxHeartbeats 1000000 in
theorem xg3 {cA : Nat → ClassId} {ad a : kA} {S S' : sS} {sr : Nat → Int32} {d d3 : kD} {n : Nat} (hM : InvX cA ad S d) (hR : RowX S sr d) (hn : S 30 0 = n) (hmx : n < 10) (hG : sG S') (hA : GwP ad 3 10 n a) (hD : GwD d 3 10 n d3) (hS : GwS S 27 29 30 n S') (hr : ∀ f, f < 3 → d3.1 10 n f = nI (S' (27 + f) n)) : PX cA a S' sr d d3 := by
  obtain ⟨⟨⟨a1, a2, a3, a4, a5, a6, a7, a8, a9, a10, a11, a12, a13, a14⟩, ⟨⟨b1, b2, b3⟩, b4, b5, b6, b7, b8, b9, b10, b14, b15⟩, hGo⟩, w1, w2, w3⟩ := hM
  obtain ⟨⟨p1, p2, p3, p4, p5⟩, g1, g2, gq⟩ := hA
  obtain ⟨u1, u2, u3, u4⟩ := hD
  obtain ⟨s1, s2⟩ := hS
  have E7 : S' 7 0 = S 7 0 := s1 7 0 (by omega) (by omega)
  have E18 : S' 18 0 = S 18 0 := s1 18 0 (by omega) (by omega)
  have E25 : S' 25 0 = S 25 0 := s1 25 0 (by omega) (by omega)
  have E11 : S' 11 0 = S 11 0 := s1 11 0 (by omega) (by omega)
  have tA : ∀ p k, trA a S' p k = trA ad S p k := fun p k => trA_cg2 (fun k => s1 8 k (by omega) (by omega)) (fun t => g1 7 t (by omega) (by omega)) p k
  have he : ∀ p, p < S 7 0 → ∀ m k, sHE S' p m k = sHE S p m k := fun p hp m k => sHE_cg (by funext i; exact s1 0 i (by omega) (by omega)) (s1 3 p (by omega) (by omega)) (s1 4 p (by omega) (by omega)) (by funext i; exact s1 8 i (by omega) (by omega)) (by funext i; exact s1 9 i (by omega) (by omega)) (by funext i; exact s1 10 i (by omega) (by omega)) E11 m k
  have hAl : xAl cA a S' := by
    refine ⟨fun k hk => ?_, fun f hf => ?_, fun i hi => ?_, fun i hi => ?_, fun i hi => ?_, fun p hp => ?_, fun l hl => ?_, fun t ht => ⟨?_, ?_⟩, ⟨?_, ?_, ?_⟩, fun f hf => ?_, fun f hf => ?_, fun i hi q hq => ?_, fun t ht => ?_, ?_⟩
    · have := xSg_r hk; rw [g1 k 0 (by omega) (by omega)]; exact a1 k hk
    · have := xFk_r f hf; rw [g2 0 0 (by omega) (by omega) (by omega) (by omega), g1 (xFk f).1 (xFk f).2 (by omega) (by omega)]; exact a2 f hf
    · rw [g1 4 i (by omega) (by omega)]; exact a3 i hi
    · rw [g1 3 i (by omega) (by omega), g2 2 0 (by omega) (by omega) (by omega) (by omega)]; exact a4 i hi
    · match i, hi with
      | 0, _ =>
        show xLs cA a 0 (S' 7 0)
        have h : xLs cA ad 0 (S 7 0) := a5 0 (by decide)
        rw [E7]
        refine ⟨?_, fun q hq => ?_⟩
        · rw [g2 4 0 (by omega) (by omega) (by omega) (by omega), g1 5 0 (by omega) (by omega), g2 5 0 (by omega) (by omega) (by omega) (by omega)]; exact h.1
        · show a.1 6 q ≠ 0 ∧ a.2 5 0 q = a.1 6 q
          rw [g1 6 q (by omega) (by omega), g2 5 0 (by omega) (by omega) (by omega) (by omega)]; exact h.2 q hq
      | 1, _ =>
        show xLs cA a 1 (S' 18 0)
        have h : xLs cA ad 1 (S 18 0) := a5 1 (by decide)
        rw [E18]
        refine ⟨?_, fun q hq => ?_⟩
        · rw [g2 4 1 (by omega) (by omega) (by omega) (by omega), g1 5 1 (by omega) (by omega), g2 5 1 (by omega) (by omega) (by omega) (by omega)]; exact h.1
        · show a.1 8 q ≠ 0 ∧ a.2 5 1 q = a.1 8 q
          rw [g1 8 q (by omega) (by omega), g2 5 1 (by omega) (by omega) (by omega) (by omega)]; exact h.2 q hq
      | 2, _ =>
        show xLs cA a 2 (S' 25 0)
        have h : xLs cA ad 2 (S 25 0) := a5 2 (by decide)
        rw [E25]
        refine ⟨?_, fun q hq => ?_⟩
        · rw [g2 4 2 (by omega) (by omega) (by omega) (by omega), g1 5 2 (by omega) (by omega), g2 5 2 (by omega) (by omega) (by omega) (by omega)]; exact h.1
        · show a.1 9 q ≠ 0 ∧ a.2 5 2 q = a.1 9 q
          rw [g1 9 q (by omega) (by omega), g2 5 2 (by omega) (by omega) (by omega) (by omega)]; exact h.2 q hq
      | 3, _ =>
        show xLs cA a 3 (S' 30 0)
        rw [s2]
        refine ⟨Or.inr ⟨p1, p2, p3.1, p3.2, by omega⟩, fun q hq => ?_⟩
        show a.1 10 q ≠ 0 ∧ a.2 5 3 q = a.1 10 q
        by_cases e : q = n
        · rw [e]; exact ⟨gq, p5⟩
        · have h : ad.1 10 q ≠ 0 ∧ ad.2 5 3 q = ad.1 10 q := (a5 3 (by decide)).2 q (by show q < S 30 0; omega)
          rw [g1 10 q (by omega) (by omega), p4 q (by omega)]; exact h
      | i + 4, hi => exact absurd hi (by omega)
    · rw [g2 6 p (by omega) (by omega) (by omega) (by omega), g1 1 0 (by omega) (by omega), g1 3 p (by omega) (by omega), tA, E11]; exact a6 p (by omega)
    · rw [g2 8 l (by omega) (by omega) (by omega) (by omega), s1 12 l (by omega) (by omega), g1 6 (S 12 l) (by omega) (by omega)]; exact a7 l (by omega)
    · rw [g1 7 t (by omega) (by omega)]; exact (a8 t (by omega)).1
    · rw [g2 7 t (by omega) (by omega) (by omega) (by omega), tA, s1 8 t (by omega) (by omega)]; exact (a8 t (by omega)).2
    · rw [g2 11 0 (by omega) (by omega) (by omega) (by omega), g1 12 0 (by omega) (by omega)]; exact a9.1
    · rw [g2 13 0 (by omega) (by omega) (by omega) (by omega), g1 14 0 (by omega) (by omega)]; exact a9.2.1
    · rw [g2 13 0 (by omega) (by omega) (by omega) (by omega), g1 15 0 (by omega) (by omega)]; exact a9.2.2
    · rw [g2 16 0 (by omega) (by omega) (by omega) (by omega), g1 (17 + f) 0 (by omega) (by omega)]; exact a10 f hf
    · rw [g2 22 0 (by omega) (by omega) (by omega) (by omega), g1 (23 + f) 0 (by omega) (by omega)]; exact a11 f hf
    · match i, hi with
      | 0, _ =>
        have hq : S' 7 0 ≤ q := hq
        show a.1 6 q = 0
        rw [g1 6 q (by omega) (by omega)]; exact a12 0 (by decide) q (by show S 7 0 ≤ q; omega)
      | 1, _ =>
        have hq : S' 18 0 ≤ q := hq
        show a.1 8 q = 0
        rw [g1 8 q (by omega) (by omega)]; exact a12 1 (by decide) q (by show S 18 0 ≤ q; omega)
      | 2, _ =>
        have hq : S' 25 0 ≤ q := hq
        show a.1 9 q = 0
        rw [g1 9 q (by omega) (by omega)]; exact a12 2 (by decide) q (by show S 25 0 ≤ q; omega)
      | 3, _ =>
        have hq : S' 30 0 ≤ q := hq
        show a.1 10 q = 0
        rw [g1 10 q (by omega) (by omega)]; exact a12 3 (by decide) q (by show S 30 0 ≤ q; omega)
      | i + 4, hi => exact absurd hi (by omega)
    · rw [g1 7 t (by omega) (by omega)]; exact a13 t (by omega)
    · rw [g1 28 0 (by omega) (by omega)]; exact a14
  have hDd : xD S' d3 := by
    refine ⟨⟨?_, fun z => ?_, ?_⟩, fun i hi => ?_, fun i hi => ?_, fun p hp => ?_, fun t ht => ⟨?_, ?_⟩, fun l hl f hf => ?_, fun b hb => ?_, fun q ho f hf => ?_, fun p hp h => ?_, ?_⟩
    · rw [u1 0 0 13 (by omega) (by omega), s1 1 0 (by omega) (by omega)]; exact b1
    · rw [u2 31 0 0 (by omega)] at z; rw [u1 0 0 14 (by omega) (by omega), E11]; exact b2 z
    · rw [u1 0 0 15 (by omega) (by omega), s1 19 0 (by omega) (by omega)]; exact b3
    · rw [u1 1 0 i (by omega) (by omega), s1 0 i (by omega) (by omega)]; exact b4 i hi
    · match i, hi with
      | 0, _ =>
        show d3.1 4 0 2 = nI (S' 7 0)
        rw [u1 4 0 2 (by omega) (by omega), E7]; exact b5 0 (by decide)
      | 1, _ =>
        show d3.1 4 1 2 = nI (S' 18 0)
        rw [u1 4 1 2 (by omega) (by omega), E18]; exact b5 1 (by decide)
      | 2, _ =>
        show d3.1 4 2 2 = nI (S' 25 0)
        rw [u1 4 2 2 (by omega) (by omega), E25]; exact b5 2 (by decide)
      | 3, _ =>
        show d3.1 4 3 2 = nI (S' 30 0)
        rw [s2]; exact u4
      | i + 4, hi => exact absurd hi (by omega)
    · exact ⟨fun f hf => by rw [u1 6 p f (by omega) (by omega), s1 (2 + f) p (by omega) (by omega)]; exact (b6 p (by omega)).1 f hf, by rw [u1 6 p 10 (by omega) (by omega), s1 26 p (by omega) (by omega)]; exact (b6 p (by omega)).2⟩
    · rw [u1 7 t 0 (by omega) (by omega), s1 9 t (by omega) (by omega)]; exact (b7 t (by omega)).1
    · rw [u1 7 t 1 (by omega) (by omega), s1 10 t (by omega) (by omega)]; exact (b7 t (by omega)).2
    · rw [u1 8 l (1 + f) (by omega) (by omega), s1 (13 + f) l (by omega) (by omega)]; exact b8 l (by omega) f hf
    · exact ⟨by rw [u1 9 b 0 (by omega) (by omega), s1 23 b (by omega) (by omega)]; exact (b9 b (by omega)).1, by rw [u1 9 b 1 (by omega) (by omega), s1 24 b (by omega) (by omega)]; exact (b9 b (by omega)).2⟩
    · by_cases e : q = n
      · rw [e]; exact hr f hf
      · rw [u1 10 q f (by omega) (by omega), s1 (27 + f) q (by omega) (by omega)]; exact b10 q (by omega) f hf
    · rw [s1 26 p (by omega) (by omega)]; exact b14 p hp (by omega)
    · rw [u2 21 0 0 (by omega)]; exact b15
  refine ⟨⟨⟨hAl, hDd, hG⟩, fun p hp => ?_, fun l hl => ?_, w3.cg (by omega) (fun p hp => by funext f; exact u1 3 p f (by omega) (by omega))⟩, ⟨⟨?_, fun i hi => ?_⟩, ?_, fun i hi => ⟨?_, ?_⟩⟩, fun k hk => ?_, fun k hk => ?_, u3⟩
  · have hp7 : p < S 7 0 := by omega
    obtain ⟨w, k, c1, c2, c3, c4, c5, c6⟩ := w1 p hp7
    exact ⟨w, k, c1, c2, by rw [u1 6 p 7 (by omega) (by omega)]; exact c3, by rw [u1 6 p 8 (by omega) (by omega)]; exact c4, fun m hm => by rw [u1 3 p m (by omega) (by omega), he p hp7]; exact c5 m hm, fun q h1 h2 m hm => by rw [u1 3 p (64 * q + m) (by omega) (by omega), he p hp7]; exact c6 q h1 h2 m hm⟩
  · have hl8 : l < S 18 0 := by omega
    have h := w2 l hl8
    unfold Lk at *
    rw [u1 8 l 6 (by omega) (by omega), u2 8 l 7 (by omega), sBars_cg (s1 12 l (by omega) (by omega)) (s1 13 l (by omega) (by omega)) (s1 14 l (by omega) (by omega)) (s1 15 l (by omega) (by omega)) (he _ (hGo.2.2.2.2.1 l hl8))]
    exact h
  · rw [u1 11 0 1 (by omega) (by omega), s1 32 0 (by omega) (by omega)]; exact hR.1.1
  · rw [s1 32 0 (by omega) (by omega)] at hi; rw [u1 12 0 i (by omega) (by omega)]; exact hR.1.2 i hi
  · rw [u1 13 0 2 (by omega) (by omega), s1 22 0 (by omega) (by omega)]; exact hR.2.1
  · rw [u1 14 0 i (by omega) (by omega), s1 20 i (by omega) (by omega)]; exact (hR.2.2 i hi).1
  · rw [u1 15 0 i (by omega) (by omega), s1 21 i (by omega) (by omega)]; exact (hR.2.2 i hi).2
  · funext i f; exact u1 k i f (by omega) (by omega)
  · funext i f; exact u2 k i f (by omega)
