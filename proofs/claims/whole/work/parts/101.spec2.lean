/-! looks to come, blame, ends -/
def adf (a b : Nat) : Nat := a - b + (b - a)
def sLf (S : sS) (p : Nat) (x : Int64) (day er y : Nat) (m : Nat) : Bool := hasB x m && decide (adf (sHole S p m day) (sHole S p y day) ≤ er)
def sLeft (S : sS) (p : Nat) (x : Int64) (day er y : Nat) : Int64 := sBits (sLf S p x day er y) 64
/-- the greatest f of what is left, whatever is seen by the minds below k -/
def wvL (S : sS) (p : Nat) (x : Int64) (day er : Nat) (f : Int64 → Nat) : Nat → Nat
  | 0 => 0
  | k + 1 => if hasB x k = true then max (wvL S p x day er f k) (f (sLeft S p x day er k)) else wvL S p x day er f k
theorem wvL_le {S : sS} {p : Nat} {x : Int64} {day er : Nat} {f : Int64 → Nat} {c : Nat} (h : ∀ y, f y ≤ c) : ∀ k, wvL S p x day er f k ≤ c
  | 0 => Nat.zero_le _
  | k + 1 => by
    have h1 := wvL_le (S := S) (p := p) (x := x) (day := day) (er := er) h k
    have h2 := h (sLeft S p x day er k)
    rw [wvL]; split <;> omega
theorem wvL_skip {S : sS} {p : Nat} {x : Int64} {day er : Nat} {f : Int64 → Nat} {k : Nat} : ∀ m, k ≤ m → (∀ j, k ≤ j → j < m → hasB x j = false) → wvL S p x day er f m = wvL S p x day er f k
  | 0, h, _ => by rw [show k = 0 by omega]
  | m + 1, h, hf => by
    by_cases e : k = m + 1
    · rw [e]
    · rw [wvL, hf m (by omega) (Nat.lt_succ_self m), if_neg (by decide)]
      exact wvL_skip m (by omega) (fun j h1 h2 => hf j h1 (by omega))
def sWorst (S : sS) (p : Nat) (x : Int64) (day er : Nat) : Nat := wvL S p x day er popN 64
theorem sWorst_le (S : sS) (p : Nat) (x : Int64) (day er : Nat) : sWorst S p x day er ≤ 64 := wvL_le popN_le 64
def aWorst (S : sS) (p day er : Int32) : Int32 := if ix p (S 7 0) = true then if ix day 400 = true then if ix er 51 = true then if sKept S (nx p) (S 19 0) = 0 then -1 else nI (sWorst S (nx p) (sKept S (nx p) (S 19 0)) (nx day) (nx er)) else -1 else -1 else -1
def nxL (S : sS) (p : Nat) (x : Int64) (er a : Nat) : Nat → Nat × Int32
  | 0 => (65, -1)
  | k + 1 => if sWorst S p x (a + k) er < (nxL S p x er a k).1 then (sWorst S p x (a + k) er, nI (a + k)) else nxL S p x er a k
theorem nxL_le (S : sS) (p : Nat) (x : Int64) (er a : Nat) : ∀ k, (nxL S p x er a k).1 ≤ 65
  | 0 => Nat.le_refl _
  | k + 1 => by
    have h1 := nxL_le S p x er a k
    have h2 := sWorst_le S p x (a + k) er
    rw [nxL]; split
    · show sWorst S p x (a + k) er ≤ 65; omega
    · exact h1
def nxA (S : sS) (p a b er : Nat) : Nat × Int32 := nxL S p (sKept S p (S 19 0)) er a (b + 1 - a)
def aNext (S : sS) (p a b er : Int32) : Int32 := if ix p (S 7 0) = true then if ix a 400 = true then if rx b (nx a) 399 = true then if ix er 51 = true then if sKept S (nx p) (S 19 0) = 0 then -1 else (nxA S (nx p) (nx a) (nx b) (nx er)).2 else -1 else -1 else -1 else -1
def nNext (S : sS) (p a b er : Int32) : sS := if ix p (S 7 0) = true then if ix a 400 = true then if rx b (nx a) 399 = true then if ix er 51 = true then if sKept S (nx p) (S 19 0) = 0 then S else upS S 32 0 1 else S else S else S else S
def rNext (S : sS) (sr : Nat → Int32) (p a b er : Int32) : Nat → Int32 := if ix p (S 7 0) = true then if ix a 400 = true then if rx b (nx a) 399 = true then if ix er 51 = true then if sKept S (nx p) (S 19 0) = 0 then sr else va_up (fun _ => 0) 0 (nI (nxA S (nx p) (nx a) (nx b) (nx er)).1) else sr else sr else sr else sr
/-! what is barred doesn't hang on the row or on the steps -/
def sameL (S S' : sS) : Prop := S' 0 = S 0 ∧ S' 2 = S 2 ∧ S' 3 = S 3 ∧ S' 4 = S 4 ∧ S' 7 = S 7 ∧ S' 8 = S 8 ∧ S' 9 = S 9 ∧ S' 10 = S 10 ∧ S' 11 = S 11 ∧ S' 12 = S 12 ∧ S' 13 = S 13 ∧ S' 14 = S 14 ∧ S' 15 = S 15 ∧ S' 16 = S 16 ∧ S' 17 = S 17 ∧ S' 18 = S 18 ∧ S' 19 = S 19
theorem same32 (S : sS) (c : Nat) : sameL S (upS S 32 0 c) := ⟨rfl, rfl, rfl, rfl, rfl, rfl, rfl, rfl, rfl, rfl, rfl, rfl, rfl, rfl, rfl, rfl, rfl⟩
theorem sameL.he {S S' : sS} (h : sameL S S') (p m n : Nat) : sHE S' p m n = sHE S p m n := by
  obtain ⟨h0, h2, h3, h4, h7, h8, h9, h10, h11, h12, h13, h14, h15, h16, h17, h18, h19⟩ := h
  exact sHE_cg h0 (by rw [h3]) (by rw [h4]) h8 h9 h10 (by rw [h11]) m n
theorem sameL.bars {S S' : sS} (h : sameL S S') (l : Nat) : sBars S' l = sBars S l := by
  have he := h.he
  obtain ⟨h0, h2, h3, h4, h7, h8, h9, h10, h11, h12, h13, h14, h15, h16, h17, h18, h19⟩ := h
  exact sBars_cg (by rw [h12]) (by rw [h13]) (by rw [h14]) (by rw [h15]) (fun m n => he _ m n)
theorem sameL.kn {S S' : sS} (h : sameL S S') (l day : Nat) : sKn S' l day = sKn S l day := by
  obtain ⟨h0, h2, h3, h4, h7, h8, h9, h10, h11, h12, h13, h14, h15, h16, h17, h18, h19⟩ := h
  unfold sKn; rw [h16, h17]
theorem sameL.free {S S' : sS} (h : sameL S S') (p day : Nat) (b : Int32) : sFree S' p day b = sFree S p day b := by
  have hb := h.bars
  have hk := h.kn
  obtain ⟨h0, h2, h3, h4, h7, h8, h9, h10, h11, h12, h13, h14, h15, h16, h17, h18, h19⟩ := h
  have key : ∀ l, sFr S' p day b l = sFr S p day b l := by
    intro l
    induction l with
    | zero => rfl
    | succ l ih => rw [sFr, sFr, ih, hb, hk, h12]
  unfold sFree; rw [h18, key]
/-! blame -/
def blB (S : sS) (p : Nat) : Nat → Nat
  | 0 => 0
  | m + 1 => if sRing S p m (S 18 0) < sRing S p (blB S p m) (S 18 0) then m else blB S p m
theorem blB_lt (S : sS) (p : Nat) : ∀ m, blB S p m < m + 1
  | 0 => Nat.lt_succ_self 0
  | m + 1 => by
    have := blB_lt S p m
    rw [blB]; split <;> omega
def bmR (S : sS) (p b : Nat) : Nat → Nat × (Nat → Int32)
  | 0 => (1, va_up (fun _ => 0) 0 (nI b))
  | l + 1 => if S 12 l = p ∧ sKn S l (S 19 0) = true ∧ hasB (sBars S l) b = true then ((bmR S p b l).1 + 1, va_up (bmR S p b l).2 (bmR S p b l).1 (nI l)) else bmR S p b l
theorem bmR_le (S : sS) (p b : Nat) : ∀ l, 1 ≤ (bmR S p b l).1 ∧ (bmR S p b l).1 ≤ l + 1
  | 0 => ⟨Nat.le_refl 1, Nat.le_refl 1⟩
  | l + 1 => by
    have := bmR_le S p b l
    rw [bmR]; split
    · show 1 ≤ (bmR S p b l).1 + 1 ∧ (bmR S p b l).1 + 1 ≤ l + 1 + 1; omega
    · omega
def bmA (S : sS) (p : Nat) : Nat × (Nat → Int32) := bmR S p (blB S p 64) (S 18 0)
def aBlame (S : sS) (p : Int32) : Int32 := if ix p (S 7 0) = true then nI ((bmA S (nx p)).1 - 1) else -1
def nBlame (S : sS) (p : Int32) : sS := if ix p (S 7 0) = true then upS S 32 0 (bmA S (nx p)).1 else S
def rBlame (S : sS) (sr : Nat → Int32) (p : Int32) : Nat → Int32 := if ix p (S 7 0) = true then (bmA S (nx p)).2 else sr
theorem PI.mi {S : sS} {r : Nat → Int32} {d0 d d' : kD} (h : PI S r d0 d) (h2 : MI S d d') : PI S r d0 d' :=
  ⟨h2.1, fun i hi => by rw [h2.2.1 81 (by omega)]; exact h.2.1 i hi, h.2.2.trans h2.2.p⟩
/-! ends -/
def enL (S : sS) (p day : Nat) (x : Int64) : Nat → Nat × Nat × Nat × Nat
  | 0 => (200, 0, 200, 0)
  | m + 1 => if hasB x m = true then (min (enL S p day x m).1 (sHole S p m day), max (enL S p day x m).2.1 (sHole S p m day), min (enL S p day x m).2.2.1 (sEver S p m day), max (enL S p day x m).2.2.2 (sEver S p m day)) else enL S p day x m
theorem enL_le {S : sS} (hG : sG S) {p : Nat} (hp : p < 8) (day : Nat) (x : Int64) : ∀ m, (enL S p day x m).1 ≤ 200 ∧ (enL S p day x m).2.1 ≤ 200 ∧ (enL S p day x m).2.2.1 ≤ 200 ∧ (enL S p day x m).2.2.2 ≤ 200
  | 0 => ⟨Nat.le_refl 200, Nat.zero_le _, Nat.le_refl 200, Nat.zero_le _⟩
  | m + 1 => by
    obtain ⟨h1, h2, h3, h4⟩ := enL_le hG hp day x m
    have h5 : sHole S p m day ≤ 200 := (sHE_le hG hp (day + 1)).1
    have h6 : sEver S p m day ≤ 200 := (sHE_le hG hp (day + 1)).2
    rw [enL]; split
    · refine ⟨?_, ?_, ?_, ?_⟩ <;> dsimp only <;> omega
    · exact ⟨h1, h2, h3, h4⟩
def EN (S : sS) (d0 d : kD) (a b c e : Nat) : Prop := InvM S d ∧ FrP d0 d ∧ d.1 81 0 0 = nI a ∧ d.1 81 0 1 = nI b ∧ d.1 81 0 2 = nI c ∧ d.1 81 0 3 = nI e
theorem InvM.st81 {S : sS} {d : kD} (h : InvM S d) (j : Nat) (v : Int32) : InvM S (uI d 81 0 j v) :=
  h.chg (h.1.stI 81 0 j v (by omega)) h.2.1 rfl rfl rfl rfl rfl (fun _ _ _ _ => rfl) (fun _ _ => ⟨rfl, rfl, rfl, rfl⟩) (Nat.le_refl _) (Nat.le_refl _)
theorem EN.mi {S : sS} {d0 d d' : kD} {a b c e : Nat} (h : EN S d0 d a b c e) (h2 : MI S d d') : EN S d0 d' a b c e := by
  obtain ⟨g1, g2, g3⟩ := h
  have e81 := h2.2.1 81 (by omega)
  exact ⟨h2.1, g2.trans h2.2.p, by rw [e81]; exact g3⟩
theorem EN.start {S : sS} {d0 d : kD} (h : InvM S d) (hf : FrP d0 d) (a b c e : Nat) : EN S d0 (uI (uI (uI (uI d 81 0 0 (nI a)) 81 0 1 (nI b)) 81 0 2 (nI c)) 81 0 3 (nI e)) a b c e := by
  refine ⟨(((h.st81 _ _).st81 _ _).st81 _ _).st81 _ _, (((hf.stI _ _ _ _ (by omega)).stI _ _ _ _ (by omega)).stI _ _ _ _ (by omega)).stI _ _ _ _ (by omega), ?_, ?_, ?_, uI_s _ _ _ _ _⟩
  · rw [uI_f _ _ _ _ (by decide), uI_f _ _ _ _ (by decide), uI_f _ _ _ _ (by decide), uI_s]
  · rw [uI_f _ _ _ _ (by decide), uI_f _ _ _ _ (by decide), uI_s]
  · rw [uI_f _ _ _ _ (by decide), uI_s]
theorem EN.p0 {S : sS} {d0 d : kD} {a b c e : Nat} (h : EN S d0 d a b c e) (v : Nat) : EN S d0 (uI d 81 0 0 (nI v)) v b c e := by
  obtain ⟨g1, g2, g3, g4, g5, g6⟩ := h
  exact ⟨g1.st81 _ _, g2.stI _ _ _ _ (by omega), uI_s _ _ _ _ _, by rw [uI_f _ _ _ _ (by decide)]; exact g4, by rw [uI_f _ _ _ _ (by decide)]; exact g5, by rw [uI_f _ _ _ _ (by decide)]; exact g6⟩
theorem EN.p1 {S : sS} {d0 d : kD} {a b c e : Nat} (h : EN S d0 d a b c e) (v : Nat) : EN S d0 (uI d 81 0 1 (nI v)) a v c e := by
  obtain ⟨g1, g2, g3, g4, g5, g6⟩ := h
  exact ⟨g1.st81 _ _, g2.stI _ _ _ _ (by omega), by rw [uI_f _ _ _ _ (by decide)]; exact g3, uI_s _ _ _ _ _, by rw [uI_f _ _ _ _ (by decide)]; exact g5, by rw [uI_f _ _ _ _ (by decide)]; exact g6⟩
theorem EN.p2 {S : sS} {d0 d : kD} {a b c e : Nat} (h : EN S d0 d a b c e) (v : Nat) : EN S d0 (uI d 81 0 2 (nI v)) a b v e := by
  obtain ⟨g1, g2, g3, g4, g5, g6⟩ := h
  exact ⟨g1.st81 _ _, g2.stI _ _ _ _ (by omega), by rw [uI_f _ _ _ _ (by decide)]; exact g3, by rw [uI_f _ _ _ _ (by decide)]; exact g4, uI_s _ _ _ _ _, by rw [uI_f _ _ _ _ (by decide)]; exact g6⟩
theorem EN.p3 {S : sS} {d0 d : kD} {a b c e : Nat} (h : EN S d0 d a b c e) (v : Nat) : EN S d0 (uI d 81 0 3 (nI v)) a b c v := by
  obtain ⟨g1, g2, g3, g4, g5, g6⟩ := h
  exact ⟨g1.st81 _ _, g2.stI _ _ _ _ (by omega), by rw [uI_f _ _ _ _ (by decide)]; exact g3, by rw [uI_f _ _ _ _ (by decide)]; exact g4, by rw [uI_f _ _ _ _ (by decide)]; exact g5, uI_s _ _ _ _ _⟩
def enR (q : Nat × Nat × Nat × Nat) : Nat → Int32 := va_up (va_up (va_up (va_up (fun _ => 0) 0 (nI q.1)) 1 (nI q.2.1)) 2 (nI q.2.2.1)) 3 (nI q.2.2.2)
theorem EN.end {S : sS} {d0 d : kD} {q : Nat × Nat × Nat × Nat} (h : EN S d0 d q.1 q.2.1 q.2.2.1 q.2.2.2) : PI (upS S 32 0 4) (enR q) d0 (uI d 40 0 32 (nI 4)) := by
  obtain ⟨g1, g2, g3, g4, g5, g6⟩ := h
  refine ⟨g1.row (by omega) (g1.1.putF 32 4 rfl) rfl rfl rfl rfl rfl, fun i hi => ?_, g2.thr _ _⟩
  have hi : i < 4 := hi
  rw [uI_k _ _ _ _ (by omega)]
  match i, hi with
  | 0, _ => exact g3
  | 1, _ => exact g4
  | 2, _ => exact g5
  | 3, _ => exact g6
def enA (S : sS) (p day : Nat) : Nat × Nat × Nat × Nat := enL S p day (sKept S p (S 19 0)) 64
def aEnds (S : sS) (p day : Int32) : Int32 := if ix p (S 7 0) = true then if ix day 400 = true then if sKept S (nx p) (S 19 0) = 0 then -1 else nI (popN (sKept S (nx p) (S 19 0))) else -1 else -1
def nEnds (S : sS) (p day : Int32) : sS := if ix p (S 7 0) = true then if ix day 400 = true then if sKept S (nx p) (S 19 0) = 0 then S else upS S 32 0 4 else S else S
def rEnds (S : sS) (sr : Nat → Int32) (p day : Int32) : Nat → Int32 := if ix p (S 7 0) = true then if ix day 400 = true then if sKept S (nx p) (S 19 0) = 0 then sr else enR (enA S (nx p) (nx day)) else sr else sr
