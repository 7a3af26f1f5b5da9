/-! the pure state changes -/
def upS (S : sS) (f j v : Nat) : sS := fun f' i' => if f' = f ∧ i' = j then v else S f' i'
theorem upS_s (S : sS) (f j v : Nat) : upS S f j v f j = v := if_pos ⟨rfl, rfl⟩
theorem upS_n (S : sS) {f j f' i' : Nat} (v : Nat) (h : ¬ (f' = f ∧ i' = j)) : upS S f j v f' i' = S f' i' := if_neg h
theorem fld_or : ∀ f, sFld f = true → sLen f = 0 := by
  intro f h
  by_cases hf : f < 48
  · have : ∀ f, f < 48 → sFld f = true → sLen f = 0 := by decide
    exact this f hf h
  · unfold sLen
    rw [List.getD_eq_getElem?_getD, List.getElem?_eq_none (by simp; omega)]; rfl
theorem dS.put {S : sS} {d : kD} (h : dS S d) (f j v : Nat) {n : Nat} (hf : sLen f = n) (hj : j < n) : dS (upS S f j v) (uI d (50 + f) 0 j (nI v)) := by
  refine ⟨fun g i hi => ?_, fun g hg => ?_⟩
  · by_cases hgf : g = f
    · subst hgf
      by_cases hij : i = j
      · subst hij; rw [uI_s, upS_s]
      · rw [uI_f _ _ _ _ hij, upS_n _ _ (fun q => hij q.2)]; exact h.1 g i hi
    · rw [uI_k _ _ _ _ (by omega), upS_n _ _ (fun q => hgf q.1)]; exact h.1 g i hi
  · rw [uI_k _ _ _ _ (by omega), upS_n _ _ (fun q => by have := fld_or g hg; rw [q.1] at this; omega)]; exact h.2 g hg
theorem dS.putF {S : sS} {d : kD} (h : dS S d) (f v : Nat) (hf : sFld f = true) : dS (upS S f 0 v) (uI d 40 0 f (nI v)) := by
  refine ⟨fun g i hi => ?_, fun g hg => ?_⟩
  · rw [uI_k _ _ _ _ (by omega), upS_n _ _ (fun q => by have := fld_or f hf; rw [q.1] at hi; omega)]; exact h.1 g i hi
  · by_cases hgf : g = f
    · subst hgf; rw [uI_s, upS_s]
    · rw [uI_f _ _ _ _ hgf, upS_n _ _ (fun q => hgf q.1)]; exact h.2 g hg
def sB (S : sS) : Prop := (∀ f i, i < sLen f → S f i ≤ sMax f) ∧ (∀ f, sFld f = true → S f 0 ≤ sMax f)
theorem sG.b {S : sS} (h : sG S) : sB S := ⟨h.1, h.2.1⟩
theorem sB.g {S : sS} (h : sB S) (h2 : sRl S) : sG S := ⟨h.1, h.2, h2⟩
theorem sB.up {S : sS} (h : sB S) (f j : Nat) {v mx : Nat} (hf : sMax f = mx) (hv : v ≤ mx) : sB (upS S f j v) := by
  subst hf
  refine ⟨fun g i hi => ?_, fun g hg => ?_⟩
  · by_cases q : g = f ∧ i = j
    · obtain ⟨rfl, rfl⟩ := q; rw [upS_s]; exact hv
    · rw [upS_n _ _ q]; exact h.1 g i hi
  · by_cases q : g = f ∧ 0 = j
    · obtain ⟨rfl, rfl⟩ := q; rw [upS_s]; exact hv
    · rw [upS_n _ _ q]; exact h.2 g hg
theorem sW_cg {S S' : sS} {p : Nat} (h3 : S' 3 p = S 3 p) (h8 : S' 8 = S 8) (h9 : S' 9 = S 9) (h10 : S' 10 = S 10) (day : Nat) : ∀ k, sW S' p day k = sW S p day k
  | 0 => h3
  | k + 1 => by rw [sW, sW, sW_cg h3 h8 h9 h10 day k, h8, h9, h10]
theorem sHE_cg {S S' : sS} {p : Nat} (h0 : S' 0 = S 0) (h3 : S' 3 p = S 3 p) (h4 : S' 4 p = S 4 p) (h8 : S' 8 = S 8) (h9 : S' 9 = S 9) (h10 : S' 10 = S 10) (h11 : S' 11 0 = S 11 0) (m : Nat) : ∀ n, sHE S' p m n = sHE S p m n
  | 0 => rfl
  | n + 1 => by
    have e : sGoal S' p m n = sGoal S p m n := by unfold sGoal; rw [sW_cg h3 h8 h9 h10, h0, h4, h11]
    rw [sHE, sHE, sHE_cg h0 h3 h4 h8 h9 h10 h11 m n, e]
theorem sBits_cg {f g : Nat → Bool} : ∀ n, (∀ k, k < n → f k = g k) → sBits f n = sBits g n
  | 0, _ => rfl
  | n + 1, h => by rw [sBits, sBits, h n (by omega), sBits_cg n (fun k hk => h k (by omega))]
theorem sBars_cg {S S' : sS} {l : Nat} (h12 : S' 12 l = S 12 l) (h13 : S' 13 l = S 13 l) (h14 : S' 14 l = S 14 l) (h15 : S' 15 l = S 15 l) (h : ∀ m n, sHE S' (S 12 l) m n = sHE S (S 12 l) m n) : sBars S' l = sBars S l := by
  refine sBits_cg 64 (fun m _ => ?_)
  unfold sBar sHole
  rw [h12, h13, h14, h15, h]
/-- nothing that is kept in store is touched -/
theorem InvM.chg {S S' : sS} {d0 d : kD} (h : InvM S d0) (h1 : dS S' d) (h2 : sG S') (e84 : d.1 84 = d0.1 84) (e85 : d.1 85 = d0.1 85) (e86 : d.1 86 = d0.1 86) (e88 : d.1 88 = d0.1 88) (eJ : d.2.1 87 = d0.2.1 87) (hs : ∀ p, p < S 7 0 → ∀ m n, sHE S' p m n = sHE S p m n) (hb : ∀ l, l < S 18 0 → S' 12 l = S 12 l ∧ S' 13 l = S 13 l ∧ S' 14 l = S 14 l ∧ S' 15 l = S 15 l) (h7 : S 7 0 ≤ S' 7 0) (h18 : S 18 0 ≤ S' 18 0) : InvM S' d := by
  refine ⟨h1, h2, fun p hp hne => ?_, fun l hl hne => ?_⟩
  · rw [e86] at hne
    obtain ⟨g1, g2⟩ := h.2.2.1 p hp hne
    refine ⟨by omega, fun m hm day hd => ?_⟩
    unfold sHole sEver
    rw [e84, e85, hs p g1]
    exact g2 m hm day hd
  · rw [e88] at hne
    obtain ⟨g1, g2⟩ := h.2.2.2 l hl hne
    refine ⟨by omega, ?_⟩
    obtain ⟨q1, q2, q3, q4⟩ := hb l g1
    rw [eJ, g2, sBars_cg q1 q2 q3 q4 (hs _ (h.2.1.2.2.2.2.1 l g1))]
/-- all that was kept in store is forgotten -/
theorem InvM.fgt {S' : sS} {d : kD} (h1 : dS S' d) (h2 : sG S') (h3 : ∀ p, p < 8 → d.1 86 0 p = 0) (h4 : ∀ l, l < 40 → d.1 88 0 l = 0) : InvM S' d :=
  ⟨h1, h2, fun p hp hne => absurd (h3 p hp) hne, fun l hl hne => absurd (h4 l hl) hne⟩
/-! the calls that change it -/
def nBed (S : sS) : sS := if S 1 0 = 4 then S else upS S 1 0 (S 1 0 + 1)
def aBed (S : sS) : Int32 := if S 1 0 = 4 then -1 else nI (S 1 0)
def nAs (S : sS) (day : Int32) : sS := if ix day 400 = true then upS S 19 0 (nx day) else S
def aAs (S : sS) (day : Int32) : Int32 := if ix day 400 = true then nI (S 19 0) else -1
def nTruth (S : sS) (p m : Int32) : sS := if ix p (S 7 0) = true then if ix m 64 = true then upS S 26 (nx p) (nx m) else S else S
def aTruth (S : sS) (p m : Int32) : Int32 := if ix p (S 7 0) = true then if ix m 64 = true then nI (S 26 (nx p)) else -1 else -1
def nBack (S : sS) (l day : Int32) : sS := if ix l (S 18 0) = true then if ix day 400 = true then upS S 17 (nx l) (nx day) else S else S
def aBack (S : sS) (l day : Int32) : Int32 := if ix l (S 18 0) = true then if ix day 400 = true then nI 1 else nI 0 else nI 0
def nProve (S : sS) (m l : Int32) : sS := if ix m 64 = true then if ix l 40 = true then if S 22 0 = 64 then S else upS (upS (upS S 20 (S 22 0) (nx m)) 21 (S 22 0) (nx l)) 22 0 (S 22 0 + 1) else S else S
def aProve (S : sS) (m l : Int32) : Int32 := if ix m 64 = true then if ix l 40 = true then if S 22 0 = 64 then -1 else nI (S 22 0 + 1) else -1 else -1
def nBridge (S : sS) (b t : Int32) : sS := if rx b 1 (2 ^ S 7 0 - 1) = true then if ix t 1000 = true then if S 25 0 = 4 then S else upS (upS (upS S 23 (S 25 0) (nx b)) 24 (S 25 0) (nx t)) 25 0 (S 25 0 + 1) else S else S
def aBridge (S : sS) (b t : Int32) : Int32 := if rx b 1 (2 ^ S 7 0 - 1) = true then if ix t 1000 = true then if S 25 0 = 4 then -1 else nI (S 25 0) else -1 else -1
def nOffer (S : sS) (p m c : Int32) : sS := if ix p (S 7 0) = true then if rx m 1 99 = true then if rx c 1 999 = true then if S 30 0 = 10 then S else upS (upS (upS (upS S 27 (S 30 0) (nx p)) 28 (S 30 0) (nx m)) 29 (S 30 0) (nx c)) 30 0 (S 30 0 + 1) else S else S else S
def aOffer (S : sS) (p m c : Int32) : Int32 := if ix p (S 7 0) = true then if rx m 1 99 = true then if rx c 1 999 = true then if S 30 0 = 10 then -1 else nI (S 30 0 + 1) else -1 else -1 else -1
theorem up_lt {g : Nat → Nat} {f n v m k : Nat} (hv : v < m) (h : k < n → g k < m) (hk : k < n + 1) : (if f = f ∧ k = n then v else g k) < m := by
  by_cases e : k = n
  · rw [if_pos ⟨rfl, e⟩]; exact hv
  · rw [if_neg (fun q => e q.2)]; exact h (by omega)
theorem up_ne {g : Nat → Nat} {f n v k : Nat} (h : k < n) : (if f = f ∧ k = n then v else g k) = g k := if_neg (fun q => absurd q.2 (by omega))
theorem shl1 {n : Nat} (h : n ≤ 8) : nI 1 <<< (nI n &&& 31) = nI (2 ^ n) := by
  have : ∀ n, n < 9 → nI 1 <<< (nI n &&& 31) = nI (2 ^ n) := by decide
  exact this n (by omega)
theorem pow8 {n : Nat} (h : n ≤ 8) : 1 ≤ 2 ^ n ∧ 2 ^ n ≤ 256 := ⟨Nat.one_le_two_pow, Nat.pow_le_pow_right (by decide) h⟩
def nPier (S : sS) (b w r f q : Int32) : sS := if ix b (S 1 0) = true then if rx w 1 20 = true then if rx r 1 200 = true then if ix f 100 = true then if ix q 100 = true then if S 7 0 = 8 then S else
  upS (upS (upS (upS (upS (upS S 2 (S 7 0) (nx b)) 3 (S 7 0) (nx w)) 4 (S 7 0) (nx r)) 5 (S 7 0) (nx f)) 6 (S 7 0) (nx q)) 7 0 (S 7 0 + 1) else S else S else S else S else S
def aPier (S : sS) (b w r f q : Int32) : Int32 := if ix b (S 1 0) = true then if rx w 1 20 = true then if rx r 1 200 = true then if ix f 100 = true then if ix q 100 = true then if S 7 0 = 8 then -1 else nI (S 7 0) else -1 else -1 else -1 else -1 else -1
def nLook (S : sS) (p day se er kn : Int32) : sS := if ix p (S 7 0) = true then if ix day 400 = true then if ix se 201 = true then if ix er 51 = true then if rx kn (nx day) 399 = true then if S 18 0 = 40 then S else
  upS (upS (upS (upS (upS (upS (upS S 12 (S 18 0) (nx p)) 13 (S 18 0) (nx day)) 14 (S 18 0) (nx se)) 15 (S 18 0) (nx er)) 16 (S 18 0) (nx kn)) 17 (S 18 0) 400) 18 0 (S 18 0 + 1) else S else S else S else S else S
def aLook (S : sS) (p day se er kn : Int32) : Int32 := if ix p (S 7 0) = true then if ix day 400 = true then if ix se 201 = true then if ix er 51 = true then if rx kn (nx day) 399 = true then if S 18 0 = 40 then -1 else nI (S 18 0) else -1 else -1 else -1 else -1 else -1
def nTree (S : sS) (p day w : Int32) : sS := if ix p (S 7 0) = true then if ix day 400 = true then if rx w 1 20 = true then if S 11 0 = 20 then S else upS (upS (upS (upS S 8 (S 11 0) (nx p)) 9 (S 11 0) (nx day)) 10 (S 11 0) (nx w)) 11 0 (S 11 0 + 1) else S else S else S
def aTree (S : sS) (p day w : Int32) : Int32 := if ix p (S 7 0) = true then if ix day 400 = true then if rx w 1 20 = true then if S 11 0 = 20 then -1 else nI (S 11 0 + 1) else -1 else -1 else -1
/-- what forget leaves -/
def Fgt (d0 d : kD) (p l : Nat) : Prop := (∀ q, q < p → d.1 86 0 q = 0) ∧ (∀ q, q < l → d.1 88 0 q = 0) ∧ (∀ k, k ≠ 86 → k ≠ 88 → d.1 k = d0.1 k) ∧ d.2 = d0.2
theorem Fgt.start (d : kD) : Fgt d d 0 0 := ⟨fun _ h => absurd h (Nat.not_lt_zero _), fun _ h => absurd h (Nat.not_lt_zero _), fun _ _ _ => rfl, rfl⟩
theorem Fgt.p {d0 d : kD} {p l : Nat} (h : Fgt d0 d p l) (v : Int32) (hv : v = 0) : Fgt d0 (uI d 86 0 p v) (p + 1) l := by
  obtain ⟨h1, h2, h3, h4⟩ := h
  refine ⟨fun q hq => ?_, fun q hq => by rw [uI_k _ _ _ _ (by omega)]; exact h2 q hq, fun k a b => by rw [uI_k _ _ _ _ a]; exact h3 k a b, h4⟩
  by_cases e : q = p
  · subst e; rw [uI_s, hv]
  · rw [uI_f _ _ _ _ e]; exact h1 q (by omega)
theorem Fgt.l {d0 d : kD} {p l : Nat} (h : Fgt d0 d p l) (v : Int32) (hv : v = 0) : Fgt d0 (uI d 88 0 l v) p (l + 1) := by
  obtain ⟨h1, h2, h3, h4⟩ := h
  refine ⟨fun q hq => by rw [uI_k _ _ _ _ (by omega)]; exact h1 q hq, fun q hq => ?_, fun k a b => by rw [uI_k _ _ _ _ b]; exact h3 k a b, h4⟩
  by_cases e : q = l
  · subst e; rw [uI_s, hv]
  · rw [uI_f _ _ _ _ e]; exact h2 q (by omega)
theorem Fgt.dS {S : sS} {d0 d : kD} {p l : Nat} (h : Fgt d0 d p l) (hd : dS S d0) : dS S d := by
  refine ⟨fun f i hi => ?_, fun f hf => ?_⟩
  · by_cases e : 50 + f = 86 ∨ 50 + f = 88
    · have := sLen_free f (by omega); omega
    · rw [h.2.2.1 _ (by omega) (by omega)]; exact hd.1 f i hi
  · rw [h.2.2.1 _ (by omega) (by omega)]; exact hd.2 f hf
theorem Fgt.fr {d d0 d1 : kD} {p l : Nat} (h : Fgt d0 d1 p l) (hf : FrP d d0) : FrP d d1 := ⟨fun k hk => by rw [h.2.2.1 k (by omega) (by omega)]; exact hf.1 k hk, fun k hk => by rw [h.2.2.2]; exact hf.2.1 k hk, by rw [h.2.2.2]; exact hf.2.2⟩
def sRing (S : sS) (p m : Nat) : Nat → Nat
  | 0 => 0
  | l + 1 => if S 12 l = p ∧ sKn S l (S 19 0) = true ∧ hasB (sBars S l) m = true then sRing S p m l + 1 else sRing S p m l
theorem sRing_le (S : sS) (p m : Nat) : ∀ l, sRing S p m l ≤ l
  | 0 => Nat.le_refl _
  | l + 1 => by have := sRing_le S p m l; rw [sRing]; split <;> omega
def sYe (S : sS) (p : Nat) (x : Int64) (day q : Nat) (m : Nat) : Bool := hasB x m && decide (sState S p m day = 2 * q)
def sYes (S : sS) (p : Nat) (x : Int64) (day q : Nat) : Int64 := sBits (sYe S p x day q) 64
def stL (S : sS) (p day : Nat) (x : Int64) : Nat → Nat → Int32 → Int32
  | 0, _, f => f
  | n + 1, m, f => if hasB x m = true then (if ¬ f = -1 ∧ ¬ f = nI (sState S p m day) then nI 3 else stL S p day x n (m + 1) (nI (sState S p m day))) else stL S p day x n (m + 1) f
def aState (S : sS) (p day : Int32) : Int32 := if ix p (S 7 0) = true then if ix day 400 = true then if sKept S (nx p) (S 19 0) = 0 then nI 4 else stL S (nx p) (nx day) (sKept S (nx p) (S 19 0)) 64 0 (-1) else -1 else -1
def sKc (S : sS) : Nat → Nat
  | 0 => 0
  | l + 1 => if sKn S l (S 19 0) = true then sKc S l + 1 else sKc S l
def sQc (S : sS) : Nat → Nat
  | 0 => 0
  | p + 1 => if sKept S p (S 19 0) = 0 then sQc S p + 1 else sQc S p
theorem sKc_le (S : sS) : ∀ l, sKc S l ≤ l
  | 0 => Nat.le_refl _
  | l + 1 => by have := sKc_le S l; rw [sKc]; split <;> omega
theorem sQc_le (S : sS) : ∀ l, sQc S l ≤ l
  | 0 => Nat.le_refl _
  | l + 1 => by have := sQc_le S l; rw [sQc]; split <;> omega
def cSw (S : sS) : Nat → Nat
  | 0 => S 1 0
  | 1 => S 7 0
  | 2 => S 11 0
  | 3 => S 18 0
  | 4 => sKc S (S 18 0)
  | 5 => S 19 0
  | 6 => S 22 0
  | 7 => S 25 0
  | 8 => S 30 0
  | 9 => S 32 0
  | _ => sQc S (S 7 0)
def aCount (S : sS) (w : Int32) : Int32 := if ix w 11 = true then nI (cSw S (nx w)) else -1
theorem FrP.thr {d0 d : kD} (h : FrP d0 d) (f : Nat) (v : Int32) : FrP d0 (uI d 40 0 f v) := h.stI _ _ _ _ (by omega)
def aRow (S : sS) (sr : Nat → Int32) (i : Int32) : Int32 := if ix i (S 32 0) = true then sr (nx i) else 0
def tRow (S : sS) (i : Int32) : Int32 := if ix i (S 32 0) = true then 0 else 1
theorem row_lost {S : sS} {sr : Nat → Int32} {d0 : kD} (hM : InvM S d0) (hR : RowM S sr d0) (v w : Int32) : PI S sr d0 (uI (uI d0 40 0 33 v) 40 0 33 w) :=
  ⟨(hM.thr 33 _ rfl).thr 33 _ rfl, hR, ((FrP.refl d0).thr _ _).thr _ _⟩
