/-! plans -/
def minL (g : Nat → Nat) (v : Nat) : Nat → Nat
  | 0 => v
  | j + 1 => min (minL g v j) (g j)
/-- the worst of the best plan of k looks over the days dy i .. dy (n - 1) -/
def plV (S : sS) (p er : Nat) (dy : Nat → Nat) (n : Nat) : Nat → Int64 → Nat → Nat
  | 0, x, _ => popN x
  | k + 1, x, i => minL (fun j => wvL S p x (dy (i + j)) er (fun y => plV S p er dy n k y (i + j + 1)) 64) (popN x) (n - i)
def bhV (S : sS) (p er : Nat) (dy : Nat → Nat) (n k : Nat) (x : Int64) (i : Nat) : Nat := wvL S p x (dy i) er (fun y => plV S p er dy n k y (i + 1)) 64
theorem minL_le (g : Nat → Nat) (v : Nat) : ∀ j, minL g v j ≤ v
  | 0 => Nat.le_refl _
  | j + 1 => by have := minL_le g v j; rw [minL]; omega
theorem minL_lb {g : Nat → Nat} {v c : Nat} (hv : c ≤ v) : ∀ j, (∀ i, i < j → c ≤ g i) → c ≤ minL g v j
  | 0, _ => hv
  | j + 1, h => by
    have h1 := minL_lb (g := g) hv j (fun i hi => h i (by omega))
    have h2 := h j (Nat.lt_succ_self j)
    rw [minL]; omega
theorem plV_le (S : sS) (p er : Nat) (dy : Nat → Nat) (n : Nat) : ∀ k x i, plV S p er dy n k x i ≤ popN x
  | 0, x, i => Nat.le_refl _
  | k + 1, x, i => minL_le _ _ _
theorem plV_64 (S : sS) (p er : Nat) (dy : Nat → Nat) (n k : Nat) (x : Int64) (i : Nat) : plV S p er dy n k x i ≤ 64 := Nat.le_trans (plV_le S p er dy n k x i) (popN_le x)
theorem bhV_64 (S : sS) (p er : Nat) (dy : Nat → Nat) (n k : Nat) (x : Int64) (i : Nat) : bhV S p er dy n k x i ≤ 64 := wvL_le (fun y => plV_64 S p er dy n k y (i + 1)) 64
theorem hasB_left {S : sS} {p : Nat} {x : Int64} {day er y k : Nat} (hk : k < 64) : hasB (sLeft S p x day er y) k = (hasB x k && decide (adf (sHole S p k day) (sHole S p y day) ≤ er)) := by
  unfold sLeft
  rw [hasB_sBits _ 64 (Nat.le_refl _) k hk, decide_eq_true hk, Bool.true_and]; rfl
theorem adf_self (a : Nat) : adf a a = 0 := by unfold adf; omega
theorem left_self {S : sS} {p : Nat} {x : Int64} {day er y : Nat} (hy : y < 64) (h : hasB x y = true) : hasB (sLeft S p x day er y) y = true := by
  rw [hasB_left hy, h, adf_self, decide_eq_true (Nat.zero_le _)]; rfl
/-- what is left hangs on the hole alone -/
theorem left_hole {S : sS} {p : Nat} {x : Int64} {day er y z : Nat} (h : sHole S p y day = sHole S p z day) : sLeft S p x day er y = sLeft S p x day er z := by
  unfold sLeft; congr 1; funext m; unfold sLf; rw [h]
theorem ctB_pos {p : Nat → Bool} {k : Nat} (h : p k = true) : ∀ n, k < n → 1 ≤ ctB p n
  | 0, hk => absurd hk (Nat.not_lt_zero _)
  | n + 1, hk => by
    rw [ctB]
    by_cases e : k = n
    · subst e; rw [if_pos h]; omega
    · have := ctB_pos h n (by omega); omega
theorem popN_has {x : Int64} {k : Nat} (hk : k < 64) (h : hasB x k = true) : 1 ≤ popN x := ctB_pos h 64 hk
theorem wvL_ub {S : sS} {p : Nat} {x : Int64} {day er : Nat} {f : Int64 → Nat} {m : Nat} (hm : hasB x m = true) : ∀ k, m < k → f (sLeft S p x day er m) ≤ wvL S p x day er f k
  | 0, h => absurd h (Nat.not_lt_zero _)
  | k + 1, h => by
    rw [wvL]
    by_cases e : m = k
    · subst e; rw [if_pos hm]; omega
    · have := wvL_ub (S := S) (p := p) (day := day) (er := er) (f := f) hm k (by omega)
      split <;> omega
theorem wvL_max {S : sS} {p : Nat} {x : Int64} {day er : Nat} {f : Int64 → Nat} {c : Nat} : ∀ k, (∀ m, m < k → hasB x m = true → f (sLeft S p x day er m) ≤ c) → wvL S p x day er f k ≤ c
  | 0, _ => Nat.zero_le _
  | k + 1, h => by
    have h1 := wvL_max (S := S) (p := p) (x := x) (day := day) (er := er) (f := f) (c := c) k (fun m hm => h m (by omega))
    rw [wvL]
    split
    · rename_i q
      have := h k (Nat.lt_succ_self k) q
      omega
    · exact h1
/-- a plan can't leave nothing of something -/
theorem plV_pos (S : sS) (p er : Nat) (dy : Nat → Nat) (n : Nat) : ∀ k x i, 1 ≤ popN x → 1 ≤ plV S p er dy n k x i
  | 0, x, i, h => h
  | k + 1, x, i, h => by
    refine minL_lb h _ (fun j hj => ?_)
    have hx : ¬ x = 0 := by
      rintro rfl
      have : popN 0 = 0 := by decide
      omega
    obtain ⟨m, hm, hb⟩ := hasB_nz hx
    have h1 := plV_pos S p er dy n k (sLeft S p x (dy (i + j)) er m) (i + j + 1) (popN_has hm (left_self hm hb))
    exact Nat.le_trans h1 (wvL_ub (f := fun y => plV S p er dy n k y (i + j + 1)) hb 64 hm)
theorem popN_zero : popN 0 = 0 := by decide
theorem popN_z {x : Int64} (h : popN x = 0) : x = 0 := by
  by_cases q : x = 0
  · exact q
  · have := popN_pos q; omega
theorem plV_zero (S : sS) (p er : Nat) (dy : Nat → Nat) (n k i : Nat) : plV S p er dy n k 0 i = 0 := by
  have := plV_le S p er dy n k 0 i
  rw [popN_zero] at this; omega
/-- few minds are what they are, whatever is planned -/
theorem plV_few {S : sS} {p er : Nat} {dy : Nat → Nat} {n k : Nat} {x : Int64} {i : Nat} (h : popN x ≤ 1) : plV S p er dy n k x i = popN x := by
  have h1 := plV_le S p er dy n k x i
  rcases Nat.eq_zero_or_pos (popN x) with q | q
  · omega
  · have := plV_pos S p er dy n k x i q; omega
theorem plV_suc (S : sS) (p er : Nat) (dy : Nat → Nat) (n k : Nat) (x : Int64) (i : Nat) : plV S p er dy n (k + 1) x i = minL (fun j => bhV S p er dy n k x (i + j)) (popN x) (n - i) := rfl
/-- what stays open of x: the minds whose sight was not yet gone through; v: the worst so far, capped at c -/
def OP (S : sS) (p er : Nat) (x : Int64) (day : Nat) (f : Int64 → Nat) (c v : Nat) (o : Int64) : Prop :=
  (∀ m, m < 64 → hasB o m = true → hasB x m = true) ∧
  (∀ m, m < 64 → hasB x m = true → hasB o m = false → f (sLeft S p x day er m) ≤ v ∨ c ≤ v) ∧
  (v ≤ wvL S p x day er f 64 ∨ (c ≤ v ∧ c ≤ wvL S p x day er f 64))
theorem OP.start (S : sS) (p er : Nat) (x : Int64) (day : Nat) (f : Int64 → Nat) (c : Nat) : OP S p er x day f c 0 x :=
  ⟨fun _ _ h => h, fun m _ h1 h2 => (by rw [h1] at h2; cases h2), Or.inl (Nat.zero_le _)⟩
theorem hasB_but {S : sS} {p : Nat} {o : Int64} {day y k : Nat} (hk : k < 64) : hasB (o &&& (sLeft S p o day 0 y ^^^ (-1))) k = (hasB o k && !decide (sHole S p k day = sHole S p y day)) := by
  rw [hasB_and _ _ hk, hasB_not _ hk, hasB_left hk]
  have e : decide (adf (sHole S p k day) (sHole S p y day) ≤ 0) = decide (sHole S p k day = sHole S p y day) := decide_eq_decide.mpr (by unfold adf; omega)
  rw [e]
  cases hasB o k <;> simp
theorem OP.next {S : sS} {p er : Nat} {x : Int64} {day : Nat} {f : Int64 → Nat} {c v v' : Nat} {o : Int64} (h : OP S p er x day f c v o) {y : Nat} (hy : y < 64) (ho : hasB o y = true) (h1 : v ≤ v') (h2 : f (sLeft S p x day er y) ≤ v' ∨ c ≤ v') (h3 : v' ≤ v ∨ v' ≤ f (sLeft S p x day er y) ∨ (c ≤ v' ∧ c ≤ f (sLeft S p x day er y))) : OP S p er x day f c v' (o &&& (sLeft S p o day 0 y ^^^ (-1))) := by
  obtain ⟨g1, g2, g3⟩ := h
  have hxy := g1 y hy ho
  have hub := wvL_ub (S := S) (p := p) (day := day) (er := er) (f := f) hxy 64 hy
  refine ⟨fun m hm hb => ?_, fun m hm hb hn => ?_, ?_⟩
  · rw [hasB_but hm, Bool.and_eq_true] at hb
    exact g1 m hm hb.1
  · rw [hasB_but hm] at hn
    by_cases e : sHole S p m day = sHole S p y day
    · rw [left_hole e]; exact h2
    · rw [decide_eq_false e, Bool.not_false, Bool.and_true] at hn
      rcases g2 m hm hb hn with q | q
      · exact Or.inl (by omega)
      · exact Or.inr (by omega)
  · rcases h3 with q | q | q
    · rcases g3 with z | z
      · exact Or.inl (by omega)
      · exact Or.inr ⟨by omega, z.2⟩
    · exact Or.inl (by omega)
    · exact Or.inr ⟨q.1, by omega⟩
theorem OP.end {S : sS} {p er : Nat} {x : Int64} {day : Nat} {f : Int64 → Nat} {c v : Nat} {o : Int64} (h : OP S p er x day f c v o) (he : o = 0 ∨ c ≤ v) : min v c = min (wvL S p x day er f 64) c := by
  obtain ⟨g1, g2, g3⟩ := h
  have key : wvL S p x day er f 64 ≤ v ∨ c ≤ v := by
    rcases he with q | q
    · by_cases hc : c ≤ v
      · exact Or.inr hc
      · refine Or.inl (wvL_max 64 (fun m hm hb => ?_))
        rcases g2 m hm hb (by rw [q]; exact hasB_zero m hm) with z | z
        · exact z
        · exact absurd z hc
    · exact Or.inr q
  rcases key with k | k <;> rcases g3 with z | z <;> omega
theorem popN_mono {x y : Int64} (h : ∀ k, k < 64 → hasB x k = true → hasB y k = true) : popN x ≤ popN y := by
  have key : ∀ n, n ≤ 64 → ctB (hasB x) n ≤ ctB (hasB y) n := by
    intro n
    induction n with
    | zero => intro _; exact Nat.le_refl _
    | succ n ih =>
      intro hn
      have h1 := ih (by omega)
      have h2 := h n (by omega)
      rw [ctB, ctB]
      by_cases q : hasB x n = true
      · rw [if_pos q, if_pos (h2 q)]; omega
      · rw [if_neg q]; split <;> omega
  exact key 64 (Nat.le_refl _)
theorem popN_lt {x y : Int64} (h : ∀ k, k < 64 → hasB x k = true → hasB y k = true) {j : Nat} (hj : j < 64) (h1 : hasB x j = false) (h2 : hasB y j = true) : popN x < popN y := by
  have key : ∀ n, n ≤ 64 → ctB (hasB x) n + (if j < n then 1 else 0) ≤ ctB (hasB y) n := by
    intro n
    induction n with
    | zero => intro _; exact Nat.le_refl _
    | succ n ih =>
      intro hn
      have g1 := ih (by omega)
      have g2 := h n (by omega)
      rw [ctB, ctB]
      by_cases e : j = n
      · subst e
        rw [if_neg (show ¬ hasB x j = true by rw [h1]; decide), if_pos h2, if_pos (Nat.lt_succ_self j)]
        rw [if_neg (Nat.lt_irrefl j)] at g1
        omega
      · have e2 : (if j < n + 1 then 1 else 0) = (if j < n then 1 else 0) := by
          by_cases z : j < n
          · rw [if_pos z, if_pos (by omega)]
          · rw [if_neg z, if_neg (by omega)]
        rw [e2]
        by_cases q : hasB x n = true
        · rw [if_pos q, if_pos (g2 q)]; omega
        · rw [if_neg q]
          by_cases w : hasB y n = true
          · rw [if_pos w]; omega
          · rw [if_neg w]; omega
  have := key 64 (Nat.le_refl _)
  rw [if_pos hj] at this
  unfold popN; omega
theorem but_lt {S : sS} {p : Nat} {o : Int64} {day : Nat} (h : ¬ o = 0) : popN (o &&& (sLeft S p o day 0 (ntN o) ^^^ (-1))) < popN o := by
  obtain ⟨h1, h2, _⟩ := ntN_ok h
  refine popN_lt (fun k hk hb => ?_) h1 ?_ h2
  · rw [hasB_but hk, Bool.and_eq_true] at hb; exact hb.1
  · rw [hasB_but h1, decide_eq_true rfl]; simp
/-- the plan as told: dy, n, errs, pier -/
def PD (d : kD) (p er : Nat) (dy : Nat → Nat) (n : Nat) : Prop := d.1 40 0 42 = nI p ∧ d.1 40 0 41 = nI er ∧ d.1 40 0 40 = nI n ∧ ∀ i, i < n → d.1 89 0 i = nI (dy i)
theorem PD.mi {S : sS} {d d' : kD} {p er : Nat} {dy : Nat → Nat} {n : Nat} (h : PD d p er dy n) (h2 : MI S d d') : PD d' p er dy n := by
  have e40 := h2.2.1 40 (by omega)
  have e89 := h2.2.1 89 (by omega)
  exact ⟨by rw [e40]; exact h.1, by rw [e40]; exact h.2.1, by rw [e40]; exact h.2.2.1, fun i hi => by rw [e89]; exact h.2.2.2 i hi⟩
def plB (S : sS) (p er : Nat) (dy : Nat → Nat) (n k : Nat) (x : Int64) : Nat → Nat × Int32
  | 0 => (popN x, -1)
  | i + 1 => if bhV S p er dy n k x i < (plB S p er dy n k x i).1 then (bhV S p er dy n k x i, nI (dy i)) else plB S p er dy n k x i
theorem plB_le (S : sS) (p er : Nat) (dy : Nat → Nat) (n k : Nat) (x : Int64) : ∀ i, (plB S p er dy n k x i).1 ≤ 64
  | 0 => popN_le x
  | i + 1 => by
    have := plB_le S p er dy n k x i
    rw [plB]; split
    · rename_i q; show bhV S p er dy n k x i ≤ 64; omega
    · exact this
def dyF (a b i : Nat) : Nat := a + b * i
def isPl (S : sS) (p a b n er : Int32) : Bool := ix p (S 7 0) && (ix a 400 && (rx b 1 50 && (rx n 1 6 && (decide (dyF (nx a) (nx b) (nx n - 1) < 400) && ix er 51))))
theorem isPl_t {S : sS} {p a b n er : Int32} (h7 : S 7 0 ≤ 8) (h : isPl S p a b n er = true) : ∃ p' a' b' n' e' : Nat, p' < S 7 0 ∧ a' < 400 ∧ 1 ≤ b' ∧ b' ≤ 50 ∧ 1 ≤ n' ∧ n' ≤ 6 ∧ dyF a' b' (n' - 1) < 400 ∧ e' ≤ 50 ∧ p = nI p' ∧ a = nI a' ∧ b = nI b' ∧ n = nI n' ∧ er = nI e' := by
  unfold isPl at h
  rw [Bool.and_eq_true, Bool.and_eq_true, Bool.and_eq_true, Bool.and_eq_true, Bool.and_eq_true] at h
  obtain ⟨h1, h2, h3, h4, h5, h6⟩ := h
  obtain ⟨p', g1, rfl⟩ := ix_t h1 (by omega)
  obtain ⟨a', g2, rfl⟩ := ix_t h2 (by decide)
  obtain ⟨b', g3, g4, rfl⟩ := rx_t h3 (by decide)
  obtain ⟨n', g5, g6, rfl⟩ := rx_t h4 (by decide)
  obtain ⟨e', g7, rfl⟩ := ix_t h6 (by decide)
  have h5 := of_decide_eq_true h5
  rw [nx_nI (by omega), nx_nI (by omega), nx_nI (by omega)] at h5
  exact ⟨p', a', b', n', e', g1, g2, g3, g4, g5, g6, h5, by omega, rfl, rfl, rfl, rfl, rfl⟩
theorem dyF_le {a b n i : Nat} (h : dyF a b (n - 1) < 400) (hi : i < n) : dyF a b i < 400 := by
  unfold dyF at *
  have : b * i ≤ b * (n - 1) := Nat.mul_le_mul_left b (by omega)
  omega
def plA (S : sS) (p a b n k er : Nat) : Nat × Int32 := plB S p er (dyF a b) n (k - 1) (sKept S p (S 19 0)) n
def aPlan (S : sS) (p a b n k er : Int32) : Int32 := if isPl S p a b n er = true then if rx k 1 3 = true then if sKept S (nx p) (S 19 0) = 0 then -1 else nI (plA S (nx p) (nx a) (nx b) (nx n) (nx k) (nx er)).1 else -1 else -1
def nPlan (S : sS) (p a b n k er : Int32) : sS := if isPl S p a b n er = true then if rx k 1 3 = true then if sKept S (nx p) (S 19 0) = 0 then S else upS S 32 0 1 else S else S
def rPlan (S : sS) (sr : Nat → Int32) (p a b n k er : Int32) : Nat → Int32 := if isPl S p a b n er = true then if rx k 1 3 = true then if sKept S (nx p) (S 19 0) = 0 then sr else va_up (fun _ => 0) 0 (plA S (nx p) (nx a) (nx b) (nx n) (nx k) (nx er)).2 else sr else sr
/-! settling a question -/
def anyL (g : Nat → Bool) : Nat → Bool
  | 0 => false
  | j + 1 => anyL g j || g j
def allL (g : Nat → Bool) : Nat → Bool
  | 0 => true
  | j + 1 => allL g j && g j
def stB (ys x : Int64) : Bool := decide (x &&& ys = 0 ∨ x &&& ys = x)
def stV (S : sS) (p er : Nat) (dy : Nat → Nat) (n : Nat) (ys : Int64) : Nat → Int64 → Nat → Bool
  | 0, x, _ => stB ys x
  | k + 1, x, i => stB ys x || anyL (fun j => allL (fun m => !hasB x m || stV S p er dy n ys k (sLeft S p x (dy (i + j)) er m) (i + j + 1)) 64) (n - i)
def sbV (S : sS) (p er : Nat) (dy : Nat → Nat) (n : Nat) (ys : Int64) (k : Nat) (x : Int64) (i : Nat) : Bool := allL (fun m => !hasB x m || stV S p er dy n ys k (sLeft S p x (dy i) er m) (i + 1)) 64
theorem allL_t {g : Nat → Bool} : ∀ n, allL g n = true ↔ ∀ k, k < n → g k = true
  | 0 => ⟨fun _ k hk => absurd hk (Nat.not_lt_zero _), fun _ => rfl⟩
  | n + 1 => by
    rw [allL, Bool.and_eq_true, allL_t n]
    constructor
    · intro h k hk
      by_cases e : k = n
      · rw [e]; exact h.2
      · exact h.1 k (by omega)
    · intro h; exact ⟨fun k hk => h k (by omega), h n (Nat.lt_succ_self n)⟩
theorem stV_suc (S : sS) (p er : Nat) (dy : Nat → Nat) (n : Nat) (ys : Int64) (k : Nat) (x : Int64) (i : Nat) : stV S p er dy n ys (k + 1) x i = (stB ys x || anyL (fun j => sbV S p er dy n ys k x (i + j)) (n - i)) := rfl
/-- all so far, of those that are no longer open -/
def OS (S : sS) (p er : Nat) (x : Int64) (day : Nat) (f : Int64 → Bool) (al : Bool) (o : Int64) : Prop :=
  (∀ m, m < 64 → hasB o m = true → hasB x m = true) ∧
  (al = true → ∀ m, m < 64 → hasB x m = true → hasB o m = false → f (sLeft S p x day er m) = true) ∧
  (al = false → ∃ m, m < 64 ∧ hasB x m = true ∧ f (sLeft S p x day er m) = false)
theorem OS.start (S : sS) (p er : Nat) (x : Int64) (day : Nat) (f : Int64 → Bool) : OS S p er x day f true x :=
  ⟨fun _ _ h => h, fun _ m _ h1 h2 => (by rw [h1] at h2; cases h2), fun h => (by cases h)⟩
theorem OS.next {S : sS} {p er : Nat} {x : Int64} {day : Nat} {f : Int64 → Bool} {o : Int64} (h : OS S p er x day f true o) {y : Nat} (hy : y < 64) (ho : hasB o y = true) : OS S p er x day f (f (sLeft S p x day er y)) (o &&& (sLeft S p o day 0 y ^^^ (-1))) := by
  obtain ⟨g1, g2, g3⟩ := h
  refine ⟨fun m hm hb => ?_, fun ht m hm hb hn => ?_, fun hf => ⟨y, hy, g1 y hy ho, hf⟩⟩
  · rw [hasB_but hm, Bool.and_eq_true] at hb
    exact g1 m hm hb.1
  · rw [hasB_but hm] at hn
    by_cases e : sHole S p m day = sHole S p y day
    · rw [left_hole e]; exact ht
    · rw [decide_eq_false e, Bool.not_false, Bool.and_true] at hn
      exact g2 rfl m hm hb hn
theorem OS.end {S : sS} {p er : Nat} {x : Int64} {day : Nat} {f : Int64 → Bool} {al : Bool} {o : Int64} (h : OS S p er x day f al o) (he : o = 0 ∨ al = false) : al = allL (fun m => !hasB x m || f (sLeft S p x day er m)) 64 := by
  obtain ⟨g1, g2, g3⟩ := h
  cases al with
  | true =>
    symm
    rw [allL_t]
    intro m hm
    rcases he with q | q
    · cases hb : hasB x m
      · rfl
      · rw [g2 rfl m hm hb (by rw [q]; exact hasB_zero m hm)]; rfl
    · cases q
  | false =>
    obtain ⟨m, hm, hb, hf⟩ := g3 rfl
    symm
    cases e : allL (fun m => !hasB x m || f (sLeft S p x day er m)) 64
    · rfl
    · have := (allL_t 64).mp e m hm
      rw [hb, hf] at this; cases this
def slL (S : sS) (p er : Nat) (dy : Nat → Nat) (n : Nat) (ys x : Int64) : Nat → Nat → Int32
  | 0, _ => -2
  | r + 1, k => if stV S p er dy n ys k x 0 = true then nI k else slL S p er dy n ys x r (k + 1)
def slA (S : sS) (p q day a b n er : Nat) : Int32 := slL S p er (dyF a b) n (sYes S p (sKept S p (S 19 0)) day q) (sKept S p (S 19 0)) 4 0
def aSettles (S : sS) (p q day a b n er : Int32) : Int32 := if isPl S p a b n er = true then if ix q 2 = true then if ix day 400 = true then if sKept S (nx p) (S 19 0) = 0 then -1 else slA S (nx p) (nx q) (nx day) (nx a) (nx b) (nx n) (nx er) else -1 else -1 else -1
def BG (S : sS) (d0 d : kD) (p er : Nat) (dy : Nat → Nat) (n i : Nat) : Prop := InvM S d ∧ FrP d0 d ∧ d.1 81 = d0.1 81 ∧ d.1 40 0 42 = nI p ∧ d.1 40 0 41 = nI er ∧ d.1 40 0 40 = nI n ∧ ∀ j, j < i → d.1 89 0 j = nI (dy j)
theorem InvM.st89 {S : sS} {d : kD} (h : InvM S d) (j : Nat) (v : Int32) : InvM S (uI d 89 0 j v) :=
  h.chg (h.1.stI 89 0 j v (by omega)) h.2.1 rfl rfl rfl rfl rfl (fun _ _ _ _ => rfl) (fun _ _ => ⟨rfl, rfl, rfl, rfl⟩) (Nat.le_refl _) (Nat.le_refl _)
theorem BG.start {S : sS} {d0 : kD} (h : InvM S d0) (p er : Nat) (dy : Nat → Nat) (n : Nat) : BG S d0 (uI (uI (uI d0 40 0 42 (nI p)) 40 0 41 (nI er)) 40 0 40 (nI n)) p er dy n 0 :=
  ⟨((h.thr 42 _ rfl).thr 41 _ rfl).thr 40 _ rfl, (((FrP.refl d0).thr _ _).thr _ _).thr _ _, rfl, rfl, rfl, rfl, fun _ h => absurd h (Nat.not_lt_zero _)⟩
theorem BG.st {S : sS} {d0 d : kD} {p er : Nat} {dy : Nat → Nat} {n i : Nat} (h : BG S d0 d p er dy n i) (v : Nat) (hv : v = dy i) : BG S d0 (uI d 89 0 i (nI v)) p er dy n (i + 1) := by
  obtain ⟨g1, g2, g3, g4, g5, g6, g7⟩ := h
  refine ⟨g1.st89 _ _, g2.stI _ _ _ _ (by omega), g3, g4, g5, g6, fun j hj => ?_⟩
  by_cases e : j = i
  · subst e; rw [uI_s, hv]
  · rw [uI_f _ _ _ _ e]; exact g7 j (by omega)
theorem BG.pi {S : sS} {sr : Nat → Int32} {d0 d d2 : kD} {v : Int32} {p er : Nat} {dy : Nat → Nat} {n i : Nat} (h : BG S d d2 p er dy n i) (hI : MI S (uI d0 40 0 33 v) d) (hR : RowM S sr d0) : PI S sr d0 d2 :=
  ⟨h.1, fun i hi => by rw [h.2.2.1]; exact (hI.pub hR).2.1 i hi, (hI.pub hR).2.2.trans h.2.1⟩
theorem BG.pd {S : sS} {d0 d : kD} {p er : Nat} {dy : Nat → Nat} {n : Nat} (h : BG S d0 d p er dy n n) : PD d p er dy n := ⟨h.2.2.2.1, h.2.2.2.2.1, h.2.2.2.2.2.1, h.2.2.2.2.2.2⟩
theorem min_st {b v w c m : Nat} (hb : b = min c m) (hv : min v b = min w b) : min b v = min c (min m w) := by omega
theorem anyL_f {g : Nat → Bool} {j : Nat} (h : anyL g j = false) (h2 : g j = false) : anyL g (j + 1) = false := by rw [anyL, h, h2]; rfl
theorem anyL_t {g : Nat → Bool} : ∀ n {j : Nat}, j < n → g j = true → anyL g n = true
  | 0, j, h, _ => absurd h (Nat.not_lt_zero _)
  | n + 1, j, h, hg => by
    rw [anyL]
    by_cases e : j = n
    · subst e; rw [hg, Bool.or_true]
    · rw [anyL_t n (by omega) hg, Bool.true_or]
