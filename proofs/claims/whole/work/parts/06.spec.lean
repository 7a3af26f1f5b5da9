/-! the pure state and what it says: S f i is place i of the reference's field f -/
def lsr (x : Int64) (n : Nat) : Int64 := (x.toUInt64 >>> ((nI n).toInt64.toUInt64 &&& Int64.toUInt64 63)).toInt64
def lsl (x : Int64) (n : Nat) : Int64 := x <<< ((nI n).toInt64 &&& 63)
theorem n_min {a b : Nat} (ha : a < 2 ^ 31) (hb : b < 2 ^ 31) : (if nI b < nI a then nI b else nI a) = nI (min a b) := by
  by_cases h : b < a
  · rw [if_pos ((nI_ltI hb ha).mpr h), Nat.min_eq_right (by omega)]
  · rw [if_neg (fun q => h ((nI_ltI hb ha).mp q)), Nat.min_eq_left (by omega)]
theorem n_max {a b : Nat} (ha : a < 2 ^ 31) (hb : b < 2 ^ 31) : (if nI a < nI b then nI b else nI a) = nI (max a b) := by
  by_cases h : a < b
  · rw [if_pos ((nI_ltI ha hb).mpr h), Nat.max_eq_right (by omega)]
  · rw [if_neg (fun q => h ((nI_ltI ha hb).mp q)), Nat.max_eq_left (by omega)]
theorem n_le0 {a b : Nat} (ha : a < 2 ^ 30) (hb : b < 2 ^ 30) : (0 ≤ nI a - nI b) ↔ b ≤ a := by
  rw [Int32.le_iff_toInt_le, pk_sub_toInt ha hb, show (0 : Int32).toInt = 0 from by decide]
  omega
theorem n_abs {a b : Nat} (ha : a < 2 ^ 30) (hb : b < 2 ^ 30) : (if 0 ≤ nI a - nI b then nI a - nI b else 0 - (nI a - nI b)) = nI (a - b + (b - a)) := by
  by_cases h : b ≤ a
  · rw [if_pos ((n_le0 ha hb).mpr h), pk_sub h, show b - a = 0 by omega, Nat.add_zero]
  · rw [if_neg (fun q => h ((n_le0 ha hb).mp q)), show a - b = 0 by omega, Nat.zero_add, ← pk_sub (by omega : a ≤ b)]
    rw [Int32.zero_sub, Int32.neg_sub]
/-- the greatest that each place of the pure state may be -/
def sMax (f : Nat) : Nat := ([99, 4, 3, 20, 200, 99, 99, 8, 7, 399, 20, 20, 7, 399, 200, 50, 399, 400, 40, 399, 63, 39, 64, 255, 999, 4, 63, 7, 99, 999, 10, 0, 64] : List Nat).getD f 0
/-- what is told speaks of what there is -/
def sRl (S : sS) : Prop := (∀ p, p < S 7 0 → S 2 p < S 1 0) ∧ (∀ k, k < S 11 0 → S 8 k < S 7 0) ∧ (∀ l, l < S 18 0 → S 12 l < S 7 0) ∧ (∀ k, k < S 30 0 → S 27 k < S 7 0) ∧ (∀ b, b < S 25 0 → S 23 b < 2 ^ S 7 0)
def sG (S : sS) : Prop := (∀ f i, i < sLen f → S f i ≤ sMax f) ∧ (∀ f, sFld f = true → S f 0 ≤ sMax f) ∧ sRl S
theorem sG.a {S : sS} (h : sG S) (f i : Nat) {n mx : Nat} (hf : sLen f = n ∧ sMax f = mx) (hi : i < n) : S f i ≤ mx := by
  obtain ⟨rfl, rfl⟩ := hf
  exact h.1 f i hi
theorem sG.f {S : sS} (h : sG S) (f : Nat) {mx : Nat} (hf : sFld f = true ∧ sMax f = mx) : S f 0 ≤ mx := by
  obtain ⟨h1, rfl⟩ := hf
  exact h.2.1 f h1
def sW (S : sS) (p day : Nat) : Nat → Nat
  | 0 => S 3 p
  | k + 1 => if S 8 k = p ∧ S 9 k ≤ day then sW S p day k + S 10 k else sW S p day k
theorem sW_le {S : sS} (hG : sG S) {p day : Nat} (hp : p < 8) : ∀ k, k ≤ 20 → sW S p day k ≤ 20 + 20 * k
  | 0, _ => hG.a 3 p (n := 8) (mx := 20) (by decide) hp
  | k + 1, hk => by
    have h1 := sW_le hG (day := day) hp k (by omega)
    have h2 : S 10 k ≤ 20 := hG.a 10 k (n := 20) (mx := 20) (by decide) (by omega)
    rw [sW]; split <;> omega
def sGoal (S : sS) (p m day : Nat) : Nat := min (S 4 p) ((m / 8 + 1) * S 0 day * sW S p day (S 11 0) / 100)
theorem sGoal_prod {a f w : Nat} (h1 : a ≤ 8) (h2 : f ≤ 99) (h3 : w ≤ 420) : a * f * w < 2 ^ 31 := by
  have h4 : a * f ≤ 8 * 99 := Nat.mul_le_mul h1 h2
  have h5 : a * f * w ≤ 8 * 99 * 420 := Nat.mul_le_mul h4 h3
  omega
def sStep (h g b : Nat) : Nat := if h < g then h + (g - h + 1) / 2 else h - (h - g) * b / 8
def sHE (S : sS) (p m : Nat) : Nat → Nat × Nat
  | 0 => (0, 0)
  | n + 1 => (sStep (sHE S p m n).1 (sGoal S p m n) (m % 8), max (sHE S p m n).2 (sStep (sHE S p m n).1 (sGoal S p m n) (m % 8)))
def sHole (S : sS) (p m day : Nat) : Nat := (sHE S p m (day + 1)).1
def sEver (S : sS) (p m day : Nat) : Nat := (sHE S p m (day + 1)).2
def sBits (f : Nat → Bool) : Nat → Int64
  | 0 => 0
  | n + 1 => if f n then sBits f n ||| lsl 1 n else sBits f n
def sBar (S : sS) (l m : Nat) : Bool := decide (S 15 l < sHole S (S 12 l) m (S 13 l) - S 14 l + (S 14 l - sHole S (S 12 l) m (S 13 l)))
def sBars (S : sS) (l : Nat) : Int64 := sBits (sBar S l) 64
/-- what holds of the reference's data -/
def InvM (S : sS) (d : kD) : Prop := dS S d ∧ sG S ∧
  (∀ p, p < 8 → d.1 86 0 p ≠ 0 → p < S 7 0 ∧ ∀ m, m < 64 → ∀ day, day < 400 → d.1 84 0 ((64 * p + m) * 400 + day) = nI (sHole S p m day) ∧ d.1 85 0 ((64 * p + m) * 400 + day) = nI (sEver S p m day)) ∧
  ∀ l, l < 40 → d.1 88 0 l ≠ 0 → l < S 18 0 ∧ d.2.1 87 0 l = sBars S l
/-- a reader changes nothing but what it keeps in store -/
def FrM (d d1 : kD) : Prop := (∀ k, ¬ (k = 84 ∨ k = 85 ∨ k = 86 ∨ k = 88) → d1.1 k = d.1 k) ∧ (∀ k, k ≠ 87 → d1.2.1 k = d.2.1 k) ∧ d1.2.2 = d.2.2
theorem FrM.refl (d : kD) : FrM d d := ⟨fun _ _ => rfl, fun _ _ => rfl, rfl⟩
theorem FrM.trans {d d1 d2 : kD} (h : FrM d d1) (h2 : FrM d1 d2) : FrM d d2 := ⟨fun k hk => (h2.1 k hk).trans (h.1 k hk), fun k hk => (h2.2.1 k hk).trans (h.2.1 k hk), h2.2.2.trans h.2.2⟩
theorem FrM.stI {d d1 : kD} (h : FrM d d1) (k i f : Nat) (v : Int32) (hk : k = 84 ∨ k = 85 ∨ k = 86 ∨ k = 88) : FrM d (uI d1 k i f v) := ⟨fun k' hk' => by
  rw [← h.1 k' hk']; funext i'; exact up3_ne _ _ _ (fun q => hk' (by rw [q.1]; exact hk)), h.2.1, h.2.2⟩
theorem FrM.stJ {d d1 : kD} (h : FrM d d1) (i f : Nat) (v : Int64) : FrM d (uJ d1 87 i f v) := ⟨h.1, fun k' hk' => by
  rw [← h.2.1 k' hk']; funext i'; exact up3_ne _ _ _ (fun q => hk' q.1), h.2.2⟩
/-- a call changes nothing of the others -/
def FrP (d d1 : kD) : Prop := (∀ k, k < 40 → d1.1 k = d.1 k) ∧ (∀ k, k < 40 → d1.2.1 k = d.2.1 k) ∧ d1.2.2 = d.2.2
theorem FrP.refl (d : kD) : FrP d d := ⟨fun _ _ => rfl, fun _ _ => rfl, rfl⟩
theorem FrP.trans {d d1 d2 : kD} (h : FrP d d1) (h2 : FrP d1 d2) : FrP d d2 := ⟨fun k hk => (h2.1 k hk).trans (h.1 k hk), fun k hk => (h2.2.1 k hk).trans (h.2.1 k hk), h2.2.2.trans h.2.2⟩
theorem FrM.p {d d1 : kD} (h : FrM d d1) : FrP d d1 := ⟨fun k hk => h.1 k (by omega), fun k hk => h.2.1 k (by omega), h.2.2⟩
theorem FrP.stI {d d1 : kD} (h : FrP d d1) (k i f : Nat) (v : Int32) (hk : 40 ≤ k) : FrP d (uI d1 k i f v) := ⟨fun k' hk' => by
  rw [← h.1 k' hk']; funext i'; exact up3_ne _ _ _ (fun q => by omega), h.2.1, h.2.2⟩
theorem FrP.stJ {d d1 : kD} (h : FrP d d1) (k i f : Nat) (v : Int64) (hk : 40 ≤ k) : FrP d (uJ d1 k i f v) := ⟨h.1, fun k' hk' => by
  rw [← h.2.1 k' hk']; funext i'; exact up3_ne _ _ _ (fun q => by omega), h.2.2⟩
/-- a reader's way: the pure state stays -/
def MI (S : sS) (d0 d : kD) : Prop := InvM S d ∧ FrM d0 d
theorem MI.start {S : sS} {d : kD} (h : InvM S d) : MI S d d := ⟨h, FrM.refl d⟩
theorem MI.trans {S : sS} {d d1 d2 : kD} (h : MI S d d1) (h2 : MI S d1 d2) : MI S d d2 := ⟨h2.1, h.2.trans h2.2⟩
theorem MI.dS {S : sS} {d d1 : kD} (h : MI S d d1) : dS S d1 := h.1.1
theorem MI.sG {S : sS} {d d1 : kD} (h : MI S d d1) : sG S := h.1.2.1
/-! numbers that a call hands in -/
def ix (x : Int32) (n : Nat) : Bool := decide (0 ≤ x.toInt ∧ x.toInt < n)
def nx (x : Int32) : Nat := x.toNatClampNeg
def bI (b : Bool) : Int32 := if b then 1 else 0
theorem nx_nI {j : Nat} (h : j < 2 ^ 31) : nx (nI j) = j := nI_clamp h
theorem ix_t {x : Int32} {n : Nat} (h : ix x n = true) (hn : n < 2 ^ 31) : ∃ j : Nat, j < n ∧ x = nI j := by
  have h := of_decide_eq_true h
  exact vp_in_of (vp_in_iff.mpr h) hn
theorem ix_nI {j n : Nat} (h : j < n) (hn : n < 2 ^ 31) : ix (nI j) n = true := by
  apply decide_eq_true
  rw [nI_toInt (by omega)]
  omega
theorem z_bI (b : Bool) : narrow .boolean (.int (bI b)) = .int (bI b) := by cases b <;> rfl
theorem bI_z {b : Bool} (h : bI b = 0) : b = false := by cases b <;> simp_all [bI]
theorem bI_n {b : Bool} (h : ¬ bI b = 0) : b = true := by cases b <;> simp_all [bI]
theorem in_ix {v : Int32} {n : Nat} (hn : n < 2 ^ 31) : (if v < nI 0 then (0 : Int32) else if nI n - nI 1 < v then 0 else 1) = bI (ix v n) := by
  have e0 : (nI 0).toInt = 0 := by decide
  have e1 : (nI n - nI 1).toInt = (n : Int) - 1 := by
    cases n with
    | zero => decide
    | succ n => rw [pk_sub (by omega), nI_toInt (by omega)]; omega
  unfold bI ix
  by_cases h1 : v < nI 0
  · rw [if_pos h1]
    rw [Int32.lt_iff_toInt_lt, e0] at h1
    rw [decide_eq_false (by omega)]; rfl
  · rw [if_neg h1]
    rw [Int32.lt_iff_toInt_lt, e0] at h1
    by_cases h2 : nI n - nI 1 < v
    · rw [if_pos h2]
      rw [Int32.lt_iff_toInt_lt, e1] at h2
      rw [decide_eq_false (by omega)]; rfl
    · rw [if_neg h2]
      rw [Int32.lt_iff_toInt_lt, e1] at h2
      rw [decide_eq_true (by omega)]; rfl
theorem in_ixc {v : Int32} (n : Nat) {q : Nat} (hq : q + 1 = n) (hn : n < 2 ^ 31) : (if v < nI 0 then (0 : Int32) else if nI q < v then 0 else 1) = bI (ix v n) := by
  subst hq
  rw [← in_ix hn, pk_sub (by omega)]; rfl
/-- between two numbers -/
def rx (x : Int32) (a b : Nat) : Bool := decide ((a : Int) ≤ x.toInt ∧ x.toInt ≤ b)
theorem rx_t {x : Int32} {a b : Nat} (h : rx x a b = true) (hb : b < 2 ^ 30) : ∃ j : Nat, a ≤ j ∧ j ≤ b ∧ x = nI j := by
  have h := of_decide_eq_true h
  obtain ⟨j, hj, rfl⟩ := vp_in_of (x := x) (n := b + 1) (vp_in_iff.mpr ⟨by omega, by omega⟩) (by omega)
  rw [nI_toInt (by omega)] at h
  exact ⟨j, by omega, by omega, rfl⟩
theorem rx_nI {j a b : Nat} (h : a ≤ j) (h2 : j ≤ b) (hb : b < 2 ^ 31) : rx (nI j) a b = true := by
  apply decide_eq_true
  rw [nI_toInt (by omega)]
  omega
theorem in_rx {v : Int32} {a b : Nat} (ha : a < 2 ^ 31) (hb : b < 2 ^ 31) : (if v < nI a then (0 : Int32) else if nI b < v then 0 else 1) = bI (rx v a b) := by
  unfold bI rx
  by_cases h1 : v < nI a
  · rw [if_pos h1]
    rw [Int32.lt_iff_toInt_lt, nI_toInt ha] at h1
    rw [decide_eq_false (by omega)]; rfl
  · rw [if_neg h1]
    rw [Int32.lt_iff_toInt_lt, nI_toInt ha] at h1
    by_cases h2 : nI b < v
    · rw [if_pos h2]
      rw [Int32.lt_iff_toInt_lt, nI_toInt hb] at h2
      rw [decide_eq_false (by omega)]; rfl
    · rw [if_neg h2]
      rw [Int32.lt_iff_toInt_lt, nI_toInt hb] at h2
      rw [decide_eq_true (by omega)]; rfl
def sKn (S : sS) (l day : Nat) : Bool := decide (S 16 l ≤ day ∧ day < S 17 l)
theorem sKn_t {S : sS} {l day : Nat} (h : S 16 l ≤ day) (h2 : day < S 17 l) : sKn S l day = true := decide_eq_true ⟨h, h2⟩
theorem sKn_f {S : sS} {l day : Nat} (h : ¬ (S 16 l ≤ day ∧ day < S 17 l)) : sKn S l day = false := decide_eq_false h
def sState (S : sS) (p m day : Nat) : Nat := if sEver S p m day ≤ S 5 p then 0 else if sEver S p m day ≤ S 5 p + S 6 p then 1 else 2
def hasB (x : Int64) (m : Nat) : Bool := decide (lsr x m &&& 1 = 1)
def sFr (S : sS) (p day : Nat) (b : Int32) : Nat → Int64
  | 0 => -1
  | l + 1 => if ¬ nI l = b ∧ S 12 l = p ∧ sKn S l day = true then sFr S p day b l &&& (sBars S l ^^^ (-1)) else sFr S p day b l
def sFree (S : sS) (p day : Nat) (b : Int32) : Int64 := sFr S p day b (S 18 0)
def sMi (x : Int64) : Nat → Int32
  | 0 => 0
  | a + 1 => if lsr x (8 * a) &&& 255 = 0 then sMi x a else sMi x a ||| (nI 1 <<< (nI a &&& 31))
def sCm (S : sS) (bed day : Nat) : Nat → Int32
  | 0 => nI 255
  | p + 1 => if S 2 p = bed then sCm S bed day p &&& sMi (sFree S p day (-1)) 8 else sCm S bed day p
def sCommon (S : sS) (bed day : Nat) : Int32 := sCm S bed day (S 7 0)
def sKp (x : Int64) (all : Int32) : Nat → Int64
  | 0 => x
  | a + 1 => if (all >>> (nI a &&& 31)) &&& nI 1 = 0 then sKp x all a &&& (lsl 255 (8 * a) ^^^ (-1)) else sKp x all a
def sKept (S : sS) (p day : Nat) : Int64 := sKp (sFree S p day (-1)) (sCommon S (S 2 p) day) 8
/-- the row, as far as it goes -/
def RowM (S : sS) (sr : Nat → Int32) (d : kD) : Prop := ∀ i, i < S 32 0 → d.1 81 0 i = sr i
def PI (S : sS) (sr : Nat → Int32) (d0 d : kD) : Prop := InvM S d ∧ RowM S sr d ∧ FrP d0 d
theorem sw_out {x : Int32} {n : Nat} (h : ix x n = false) : x.toInt < 0 ∨ ((n : Int) - 1) < x.toInt := by
  have h := of_decide_eq_false h
  omega
theorem sw_4 {j : Nat} (h : j < 4) : j = 0 ∨ j = 1 ∨ j = 2 ∨ j = 3 := by omega
theorem sw_11 {j : Nat} (h : j < 11) : j = 0 ∨ j = 1 ∨ j = 2 ∨ j = 3 ∨ j = 4 ∨ j = 5 ∨ j = 6 ∨ j = 7 ∨ j = 8 ∨ j = 9 ∨ j = 10 := by omega
theorem sw_36 {j : Nat} (h : j < 36) : j = 0 ∨ j = 1 ∨ j = 2 ∨ j = 3 ∨ j = 4 ∨ j = 5 ∨ j = 6 ∨ j = 7 ∨ j = 8 ∨ j = 9 ∨ j = 10 ∨ j = 11 ∨ j = 12 ∨ j = 13 ∨ j = 14 ∨ j = 15 ∨ j = 16 ∨ j = 17 ∨ j = 18 ∨ j = 19 ∨ j = 20 ∨ j = 21 ∨ j = 22 ∨ j = 23 ∨ j = 24 ∨ j = 25 ∨ j = 26 ∨ j = 27 ∨ j = 28 ∨ j = 29 ∨ j = 30 ∨ j = 31 ∨ j = 32 ∨ j = 33 ∨ j = 34 ∨ j = 35 := by omega
/-! what the calls answer -/
def aFlow (S : sS) (day : Int32) : Int32 := if ix day 400 = true then nI (S 0 (nx day)) else -1
def hSw (S : sS) (p m day : Nat) : Nat → Nat
  | 0 => sHole S p m day
  | 1 => sEver S p m day
  | 2 => sGoal S p m day
  | _ => sState S p m day
def aHole (S : sS) (p m day what : Int32) : Int32 := if ix p (S 7 0) = true then if ix m 64 = true then if ix day 400 = true then if ix what 4 = true then nI (hSw S (nx p) (nx m) (nx day) (nx what)) else -1 else -1 else -1 else -1
/-- the first day from day on with a state above what; n days are left -/
def wn (S : sS) (p m what : Nat) : Nat → Nat → Int32
  | 0, _ => -1
  | n + 1, day => if what < sState S p m day then nI day else wn S p m what n (day + 1)
def aWhen (S : sS) (p m what : Int32) : Int32 := if ix p (S 7 0) = true then if ix m 64 = true then if ix what 2 = true then wn S (nx p) (nx m) (nx what) 400 0 else -1 else -1 else -1
def aKept (S : sS) (p m : Int32) : Int32 := if ix p (S 7 0) = true then if ix m 64 = true then (if hasB (sKept S (nx p) (S 19 0)) (nx m) = true then nI 1 else if hasB (sFree S (nx p) (S 19 0) (-1)) (nx m) = true then nI 2 else nI 0) else -1 else -1
def aShared (S : sS) (bed : Int32) : Int32 := if ix bed (S 1 0) = true then sCommon S (nx bed) (S 19 0) else -1
def aProof (S : sS) (i what : Int32) : Int32 := if ix i (S 22 0) = true then if ix what 2 = true then (if nx what = 0 then nI (S 20 (nx i)) else nI (S 21 (nx i))) else -1 else -1
theorem sState_le (S : sS) (p m day : Nat) : sState S p m day ≤ 2 := by unfold sState; split <;> (try split) <;> omega
