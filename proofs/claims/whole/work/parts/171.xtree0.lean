/-! trees: a new one stands at (7, n), its pier leads to it -/
theorem oW.ghost {D : va_G} {cA : Nat → ClassId} {B0 : Nat} {ad : kA} {d : kD} {H : Heap} (h : oW D cA B0 ad d H) (v : Int64) : oW D cA B0 ad (uJ d 31 0 0 v) H := by
  refine ⟨fun k i e ha hc => h.1 k i e ha ?_, h.2⟩
  by_cases q : k = 31 ∧ i = 0
  · obtain ⟨rfl, rfl⟩ := q
    have : (none : Option va_E) = some e := hc
    cases this
  · rw [uJ_ne k i q] at hc; exact hc
def TrP (ad : kA) (n p : Nat) (a : kA) : Prop := (∀ k i, ¬ (k = 7 ∧ i = n) → a.1 k i = ad.1 k i) ∧ a.1 7 n ≠ 0 ∧ (∀ k i f, ¬ (k = 7 ∧ i = n) → ¬ (k = 6 ∧ i = p ∧ f = 9) → a.2 k i f = ad.2 k i f) ∧ a.2 6 p 9 = a.1 7 n ∧ a.2 7 n 2 = ad.2 6 p 9
def TrD (d : kD) (n day w : Nat) (dI : kD) : Prop := (∀ k i f, ¬ (k = 7 ∧ i = n) → dI.1 k i f = d.1 k i f) ∧ (∀ k i f, ¬ (k = 7 ∧ i = n) → ¬ (k = 31 ∧ i = 0 ∧ f = 0) → dI.2.1 k i f = d.2.1 k i f) ∧ dI.2.2 = d.2.2 ∧ dI.1 7 n 0 = nI day ∧ dI.1 7 n 1 = nI w
def TrS (S : sS) (n p day w : Nat) (S' : sS) : Prop := (∀ f i, ¬ (8 ≤ f ∧ f ≤ 10 ∧ i = n) → ¬ (f = 11 ∧ i = 0) → S' f i = S f i) ∧ S' 11 0 = n + 1 ∧ S' 8 n = p ∧ S' 9 n = day ∧ S' 10 n = w
theorem TrP.afr {ad a : kA} {n p : Nat} (h : TrP ad n p a) : AFr ad a := ⟨fun k hk => by funext i; exact h.1 k i (by omega), fun k hk => by funext i f; exact h.2.2.1 k i f (by omega) (by omega)⟩
theorem trA_cg3 {a ad : kA} {S S' : sS} {n : Nat} (h8 : ∀ k, k < n → S' 8 k = S 8 k) (h7 : ∀ t, t < n → a.1 7 t = ad.1 7 t) (p : Nat) : ∀ k, k ≤ n → trA a S' p k = trA ad S p k
  | 0, _ => rfl
  | k + 1, hk => by rw [trA, trA, h8 k (by omega), h7 k (by omega), trA_cg3 h8 h7 p k (by omega)]
theorem sW_cg3 {S S' : sS} {n p : Nat} (h3 : S' 3 p = S 3 p) (h8 : ∀ k, k < n → S' 8 k = S 8 k) (h9 : ∀ k, k < n → S' 9 k = S 9 k) (h10 : ∀ k, k < n → S' 10 k = S 10 k) (day : Nat) : ∀ k, k ≤ n → sW S' p day k = sW S p day k
  | 0, _ => h3
  | k + 1, hk => by rw [sW, sW, sW_cg3 h3 h8 h9 h10 day k (by omega), h8 k (by omega), h9 k (by omega), h10 k (by omega)]
/-- before the tree's day nothing changes -/
theorem tree_he {S S' : sS} {n q day w : Nat} (hn : S 11 0 = n) (hS : TrS S n q day w S') (p m : Nat) : ∀ k, k ≤ day → sHE S' p m k = sHE S p m k := by
  obtain ⟨s1, s2, s3, s4, s5⟩ := hS
  refine sHE_pre (fun i hi => ?_)
  unfold sGoal
  rw [s1 0 i (by omega) (by omega), s1 4 p (by omega) (by omega), s2, sW, if_neg (fun z => by have := z.2; omega), sW_cg3 (s1 3 p (by omega) (by omega)) (fun k hk => s1 8 k (by omega) (by omega)) (fun k hk => s1 9 k (by omega) (by omega)) (fun k hk => s1 10 k (by omega) (by omega)) i n (Nat.le_refl _), hn]
set_option maxHeartbeats 1000000 in
theorem xt_al {cA : Nat → ClassId} {ad a : kA} {S S' : sS} {n p day w : Nat} (hA : xAl cA ad S) (hGo : sG S) (hn : S 11 0 = n) (hp : p < S 7 0) (hP : TrP ad n p a) (hS : TrS S n p day w S') : xAl cA a S' := by
  obtain ⟨a1, a2, a3, a4, a5, a6, a7, a8, a9, a10, a11, a12, a13, a14⟩ := hA
  obtain ⟨g1, gq, g2, g3, g4⟩ := hP
  obtain ⟨s1, s2, s3, s4, s5⟩ := hS
  have E7 : S' 7 0 = S 7 0 := s1 7 0 (by omega) (by omega)
  have E18 : S' 18 0 = S 18 0 := s1 18 0 (by omega) (by omega)
  have E25 : S' 25 0 = S 25 0 := s1 25 0 (by omega) (by omega)
  have E30 : S' 30 0 = S 30 0 := s1 30 0 (by omega) (by omega)
  have tA : ∀ p k, k ≤ n → trA a S' p k = trA ad S p k := fun p k hk => trA_cg3 (fun k hk => s1 8 k (by omega) (by omega)) (fun t ht => g1 7 t (by omega)) p k hk
  have e2 : ∀ k i, ¬ (k = 7 ∧ i = n) → ¬ (k = 6 ∧ i = p) → a.2 k i = ad.2 k i := fun k i h1 h2 => by funext f; exact g2 k i f h1 (by omega)
  refine ⟨fun k hk => ?_, fun f hf => ?_, fun i hi => ?_, fun i hi => ?_, fun i hi => ?_, fun q hq => ?_, fun l hl => ?_, fun t ht => ?_, ⟨?_, ?_, ?_⟩, fun f hf => ?_, fun f hf => ?_, fun i hi q hq => ?_, fun t ht => ?_, ?_⟩
  · have := xSg_r hk; rw [g1 k 0 (by omega)]; exact a1 k hk
  · have := xFk_r f hf; rw [e2 0 0 (by omega) (by omega), g1 (xFk f).1 (xFk f).2 (by omega)]; exact a2 f hf
  · rw [g1 4 i (by omega)]; exact a3 i hi
  · rw [g1 3 i (by omega), e2 2 0 (by omega) (by omega)]; exact a4 i hi
  · match i, hi with
    | 0, _ =>
      show xLs cA a 0 (S' 7 0)
      have h : xLs cA ad 0 (S 7 0) := a5 0 (by decide)
      rw [E7]
      refine ⟨?_, fun q hq => ?_⟩
      · rw [e2 4 0 (by omega) (by omega), g1 5 0 (by omega), e2 5 0 (by omega) (by omega)]; exact h.1
      · show a.1 6 q ≠ 0 ∧ a.2 5 0 q = a.1 6 q
        rw [g1 6 q (by omega), e2 5 0 (by omega) (by omega)]; exact h.2 q hq
    | 1, _ =>
      show xLs cA a 1 (S' 18 0)
      have h : xLs cA ad 1 (S 18 0) := a5 1 (by decide)
      rw [E18]
      refine ⟨?_, fun q hq => ?_⟩
      · rw [e2 4 1 (by omega) (by omega), g1 5 1 (by omega), e2 5 1 (by omega) (by omega)]; exact h.1
      · show a.1 8 q ≠ 0 ∧ a.2 5 1 q = a.1 8 q
        rw [g1 8 q (by omega), e2 5 1 (by omega) (by omega)]; exact h.2 q hq
    | 2, _ =>
      show xLs cA a 2 (S' 25 0)
      have h : xLs cA ad 2 (S 25 0) := a5 2 (by decide)
      rw [E25]
      refine ⟨?_, fun q hq => ?_⟩
      · rw [e2 4 2 (by omega) (by omega), g1 5 2 (by omega), e2 5 2 (by omega) (by omega)]; exact h.1
      · show a.1 9 q ≠ 0 ∧ a.2 5 2 q = a.1 9 q
        rw [g1 9 q (by omega), e2 5 2 (by omega) (by omega)]; exact h.2 q hq
    | 3, _ =>
      show xLs cA a 3 (S' 30 0)
      have h : xLs cA ad 3 (S 30 0) := a5 3 (by decide)
      rw [E30]
      refine ⟨?_, fun q hq => ?_⟩
      · rw [e2 4 3 (by omega) (by omega), g1 5 3 (by omega), e2 5 3 (by omega) (by omega)]; exact h.1
      · show a.1 10 q ≠ 0 ∧ a.2 5 3 q = a.1 10 q
        rw [g1 10 q (by omega), e2 5 3 (by omega) (by omega)]; exact h.2 q hq
    | i + 4, hi => exact absurd hi (by omega)
  · have h := a6 q (by omega)
    refine ⟨by rw [g2 6 q 5 (by omega) (by omega), g1 1 0 (by omega)]; exact h.1, by rw [g2 6 q 6 (by omega) (by omega), g1 3 q (by omega)]; exact h.2.1, ?_⟩
    rw [s2, trA, s3]
    by_cases e : q = p
    · rw [e, if_pos rfl]; exact g3
    · rw [if_neg (fun z => e z.symm), g2 6 q 9 (by omega) (by omega), tA q n (Nat.le_refl _), ← hn]; exact h.2.2
  · have := hGo.2.2.2.2.1 l (by omega)
    rw [g2 8 l 0 (by omega) (by omega), s1 12 l (by omega) (by omega), g1 6 (S 12 l) (by omega)]; exact a7 l (by omega)
  · by_cases e : t = n
    · subst e
      exact ⟨gq, by rw [g4, s3, tA p t (Nat.le_refl _), ← hn]; exact (a6 p hp).2.2⟩
    · have h := a8 t (by omega)
      exact ⟨by rw [g1 7 t (by omega)]; exact h.1, by rw [g2 7 t 2 (by omega) (by omega), s1 8 t (by omega) (by omega), tA _ t (by omega)]; exact h.2⟩
  · rw [e2 11 0 (by omega) (by omega), g1 12 0 (by omega)]; exact a9.1
  · rw [e2 13 0 (by omega) (by omega), g1 14 0 (by omega)]; exact a9.2.1
  · rw [e2 13 0 (by omega) (by omega), g1 15 0 (by omega)]; exact a9.2.2
  · rw [e2 16 0 (by omega) (by omega), g1 (17 + f) 0 (by omega)]; exact a10 f hf
  · rw [e2 22 0 (by omega) (by omega), g1 (23 + f) 0 (by omega)]; exact a11 f hf
  · match i, hi with
    | 0, _ =>
      have hq : S' 7 0 ≤ q := hq
      show a.1 6 q = 0
      rw [g1 6 q (by omega)]; exact a12 0 (by decide) q (by show S 7 0 ≤ q; omega)
    | 1, _ =>
      have hq : S' 18 0 ≤ q := hq
      show a.1 8 q = 0
      rw [g1 8 q (by omega)]; exact a12 1 (by decide) q (by show S 18 0 ≤ q; omega)
    | 2, _ =>
      have hq : S' 25 0 ≤ q := hq
      show a.1 9 q = 0
      rw [g1 9 q (by omega)]; exact a12 2 (by decide) q (by show S 25 0 ≤ q; omega)
    | 3, _ =>
      have hq : S' 30 0 ≤ q := hq
      show a.1 10 q = 0
      rw [g1 10 q (by omega)]; exact a12 3 (by decide) q (by show S 30 0 ≤ q; omega)
    | i + 4, hi => exact absurd hi (by omega)
  · rw [g1 7 t (by omega)]; exact a13 t (by omega)
  · rw [g1 28 0 (by omega)]; exact a14
set_option maxHeartbeats 1000000 in
theorem xt_d {S S' : sS} {d dI : kD} {n p day w : Nat} (h : xD S d) (hn : S 11 0 = n) (hD : TrD d n day w dI) (hS : TrS S n p day w S') (h31 : dI.2.1 31 0 0 = 1) : xD S' dI := by
  obtain ⟨⟨b1, b2, b3⟩, b4, b5, b6, b7, b8, b9, b10, b14, b15⟩ := h
  obtain ⟨u1, u2, u3, u4, u5⟩ := hD
  obtain ⟨s1, s2, s3, s4, s5⟩ := hS
  have E7 : S' 7 0 = S 7 0 := s1 7 0 (by omega) (by omega)
  have E18 : S' 18 0 = S 18 0 := s1 18 0 (by omega) (by omega)
  have E25 : S' 25 0 = S 25 0 := s1 25 0 (by omega) (by omega)
  have E30 : S' 30 0 = S 30 0 := s1 30 0 (by omega) (by omega)
  refine ⟨⟨?_, fun z => ?_, ?_⟩, fun i hi => ?_, fun i hi => ?_, fun q hq => ⟨fun f hf => ?_, ?_⟩, fun t ht => ?_, fun l hl f hf => ?_, fun b hb => ⟨?_, ?_⟩, fun q ho f hf => ?_, fun q hq h => ?_, ?_⟩
  · rw [u1 0 0 13 (by omega), s1 1 0 (by omega) (by omega)]; exact b1
  · rw [h31] at z; exact absurd z (by decide)
  · rw [u1 0 0 15 (by omega), s1 19 0 (by omega) (by omega)]; exact b3
  · rw [u1 1 0 i (by omega), s1 0 i (by omega) (by omega)]; exact b4 i hi
  · rw [u1 4 i 2 (by omega), xCt_cg E7 E18 E25 E30 hi]; exact b5 i hi
  · rw [u1 6 q f (by omega), s1 (2 + f) q (by omega) (by omega)]; exact (b6 q (by omega)).1 f hf
  · rw [u1 6 q 10 (by omega), s1 26 q (by omega) (by omega)]; exact (b6 q (by omega)).2
  · by_cases e : t = n
    · rw [e]; exact ⟨by rw [u4, s4], by rw [u5, s5]⟩
    · have h := b7 t (by omega)
      exact ⟨by rw [u1 7 t 0 (by omega), s1 9 t (by omega) (by omega)]; exact h.1, by rw [u1 7 t 1 (by omega), s1 10 t (by omega) (by omega)]; exact h.2⟩
  · rw [u1 8 l (1 + f) (by omega), s1 (13 + f) l (by omega) (by omega)]; exact b8 l (by omega) f hf
  · rw [u1 9 b 0 (by omega), s1 23 b (by omega) (by omega)]; exact (b9 b (by omega)).1
  · rw [u1 9 b 1 (by omega), s1 24 b (by omega) (by omega)]; exact (b9 b (by omega)).2
  · rw [u1 10 q f (by omega), s1 (27 + f) q (by omega) (by omega)]; exact b10 q (by omega) f hf
  · rw [s1 26 q (by omega) (by omega)]; exact b14 q hq (by omega)
  · rw [u2 21 0 0 (by omega) (by omega)]; exact b15
theorem xt_pf {cA : Nat → ClassId} {ad : kA} {S S' : sS} {d dI : kD} {n p day w : Nat} (hM : InvX cA ad S d) (hn : S 11 0 = n) (hD : TrD d n day w dI) (hS : TrS S n p day w S') : ∀ q, q < S' 7 0 → PF S' day dI q := by
  intro q hq
  rw [hS.1 7 0 (by omega) (by omega)] at hq
  exact PF.of (hM.2.1 q hq) (fun m k hk => tree_he hn hS q m k hk) (by funext g; exact hD.1 _ _ _ (by omega)) (hD.1 _ _ _ (by omega)) (hD.1 _ _ _ (by omega))
theorem xt_lf {cA : Nat → ClassId} {ad : kA} {S S' : sS} {d dI : kD} {n p day w : Nat} (hM : InvX cA ad S d) (hn : S 11 0 = n) (hD : TrD d n day w dI) (hS : TrS S n p day w S') : ∀ l, l < S' 18 0 → LF S' day dI l := by
  intro l hl
  rw [hS.1 18 0 (by omega) (by omega)] at hl
  exact LF.of (hM.2.2.1 l hl) (fun m k hk => tree_he hn hS _ m k hk) (hS.1 _ _ (by omega) (by omega)) (hS.1 _ _ (by omega) (by omega)) (hS.1 _ _ (by omega) (by omega)) (hS.1 _ _ (by omega) (by omega)) (hD.1 _ _ _ (by omega)) (hD.2.1 _ _ _ (by omega) (by omega))
theorem xt_z {cA : Nat → ClassId} {ad : kA} {S S' : sS} {d dI : kD} {n p day w : Nat} (hM : InvX cA ad S d) (hD : TrD d n day w dI) (hS : TrS S n p day w S') : Zr S' dI :=
  hM.2.2.2.cg (by rw [hS.1 7 0 (by omega) (by omega)]; exact Nat.le_refl _) (fun q _ => by funext g; exact hD.1 _ _ _ (by omega))
theorem xD.tre {S : sS} {d : kD} (h : xD S d) : xD S (uJ (uI d 0 0 14 (nI (S 11 0))) 31 0 0 0) := by
  obtain ⟨⟨h1, h2, h3⟩, h4, h5, h6, h7, h8, h9, h10, h14, h15⟩ := h
  exact ⟨⟨h1, fun _ => rfl, h3⟩, h4, h5, h6, h7, h8, h9, h10, h14, h15⟩
theorem xt_px {cA : Nat → ClassId} {a : kA} {S S' : sS} {sr : Nat → Int32} {d dI d6 : kD} {n p day w : Nat} (hR : RowX S sr d) (h0 : d.2.1 31 0 0 = 0) (hD : TrD d n day w dI) (hS : TrS S n p day w S') (hM2 : InvX cA a S' d6) (hF : Fr IF J0 dI d6) : PX cA a S' sr d (uJ (uI d6 0 0 14 (nI (S' 11 0))) 31 0 0 0) := by
  have hI : InvX cA a S' (uJ (uI d6 0 0 14 (nI (S' 11 0))) 31 0 0 0) := hM2.chg hM2.1.1 hM2.1.2.1.tre hM2.1.2.2 (fun q => by rw [uJ_1, uI_k _ _ _ _ (by decide)]) (fun q => by rw [uJ_1, uI_k _ _ _ _ (by decide)]) (fun q => by rw [uJ_1, uI_k _ _ _ _ (by decide)]) (fun q => by rw [uJ_1, uI_k _ _ _ _ (by decide)]) (fun q => by rw [uJ_k _ _ _ _ (by decide), uI_2]) rfl rfl (fun _ _ _ _ => rfl) (fun _ _ => ⟨rfl, rfl, rfl, rfl⟩)
  have e1 : ∀ k i f, k ≠ 0 → IF k f = false → ¬ (k = 7) → (uJ (uI d6 0 0 14 (nI (S' 11 0))) 31 0 0 0).1 k i f = d.1 k i f := fun k i f h1 h2 h3 => by rw [uJ_1, uI_k _ _ _ _ h1, hF.1 k i f h2, hD.1 k i f (by omega)]
  refine PX.of (S := S) hI ⟨⟨?_, fun i hi => ?_⟩, ?_, fun i hi => ⟨?_, ?_⟩⟩ (hS.1 32 0 (by omega) (by omega)) (hS.1 22 0 (by omega) (by omega)) (by funext i; exact hS.1 20 i (by omega) (by omega)) (by funext i; exact hS.1 21 i (by omega) (by omega)) ⟨fun k hk => ?_, fun k hk => ?_, ?_⟩
  · rw [e1 11 0 1 (by decide) rfl (by decide)]; exact hR.1.1
  · rw [e1 12 0 i (by decide) rfl (by decide)]; exact hR.1.2 i hi
  · rw [e1 13 0 2 (by decide) rfl (by decide)]; exact hR.2.1
  · rw [e1 14 0 i (by decide) rfl (by decide)]; exact (hR.2.2 i hi).1
  · rw [e1 15 0 i (by decide) rfl (by decide)]; exact (hR.2.2 i hi).2
  · funext i f; exact e1 k i f (by omega) (decide_eq_false (by omega)) (by omega)
  · funext i f
    by_cases q : k = 31 ∧ i = 0 ∧ f = 0
    · obtain ⟨rfl, rfl, rfl⟩ := q; rw [h0]; rfl
    · rw [uJ_n _ _ q, uI_2, hF.2.1 k i f rfl, hD.2.1 k i f (by omega) q]
  · show d6.2.2 = _; rw [hF.2.2, hD.2.2.1]
theorem c_X7_initQ (l : Launch) (D : va_G) (cA : Nat → ClassId) (B0 : Nat) (ad0 : kA) (d0 : kD) (nt : Nat) (ha : ad0.1 7 nt ≠ 0) (x1 : Int32) (x2 : Int32) (x3 : Nat) : oM l yX7_init wX7_init 1 0 0 D cA B0 ad0 d0 ([.ref (ad0.1 7 nt), .int x1, .int x2, va_rf (rf x3)] : List Value) (oQvA D cA B0 (fun u => u = ((ad2 ad0 7 nt 2 x3), (uI (uI d0 7 nt 0 x1) 7 nt 1 x2)))) := by
  by_cases h : x3 = 0
  · subst h; exact c_X7_initN l D cA B0 ad0 d0 nt ha x1 x2
  · rw [rf_ne h]; exact c_X7_init l D cA B0 ad0 d0 nt ha x1 x2 x3 h
