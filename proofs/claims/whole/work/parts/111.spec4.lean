/-! settles, check, lay, best, choose -/
theorem stB_t {ys x : Int64} (h : x &&& ys = 0 ∨ x &&& ys = x) : stB ys x = true := decide_eq_true h
theorem stB_f {ys x : Int64} (h1 : ¬ x &&& ys = 0) (h2 : ¬ x &&& ys = x) : stB ys x = false := decide_eq_false (fun q => q.elim h1 h2)
theorem lgc {x y : Int64} (h : lg_cmp x y = 0) : x = y := (lg_cmp_eq _ _).mp h
theorem lgcn {x y : Int64} (h : ¬ lg_cmp x y = 0) : ¬ x = y := fun q => h ((lg_cmp_eq _ _).mpr q)
def ckO (S : sS) (p i : Nat) (st : Int64) : Bool := decide (S 21 i < S 18 0 ∧ S 12 (S 21 i) = p ∧ sKn S (S 21 i) (S 19 0) = true ∧ hasB (sBars S (S 21 i)) (S 20 i) = true ∧ hasB st (S 20 i) = false)
def ckL (S : sS) (p : Nat) : Nat → Nat → Int64 → Int32
  | 0, _, st => if st = sFree S p (S 19 0) (-1) ^^^ (-1) then nI 0 else nI 1
  | r + 1, i, st => if ckO S p i st = true then ckL S p r (i + 1) (st ||| lsl 1 (S 20 i)) else -1 - nI i
def aCheck (S : sS) (p : Int32) : Int32 := if ix p (S 7 0) = true then ckL (upS S 22 0 0) (nx p) (S 22 0) 0 0 else -100
theorem same22 (S : sS) (c : Nat) : sameL S (upS S 22 0 c) := ⟨rfl, rfl, rfl, rfl, rfl, rfl, rfl, rfl, rfl, rfl, rfl, rfl, rfl, rfl, rfl, rfl, rfl⟩
theorem InvM.st22 {S : sS} {d : kD} (h : InvM S d) {v : Nat} (hv : v ≤ 64) : InvM (upS S 22 0 v) (uI d 40 0 22 (nI v)) :=
  h.chg (h.1.putF 22 v rfl) ((h.2.1.b.up 22 0 (mx := 64) rfl hv).g h.2.1.2.2) rfl rfl rfl rfl rfl (fun p _ m n => (same22 S v).he p m n) (fun _ _ => ⟨rfl, rfl, rfl, rfl⟩) (Nat.le_refl _) (Nat.le_refl _)
/-! lay -/
def lyP (S : sS) (p m : Nat) (l : Nat) : Bool := decide (S 12 l = p ∧ sKn S l (S 19 0) = true ∧ hasB (sBars S l) m = true)
def lyF (S : sS) (p m : Nat) : Nat := fstB (lyP S p m) (S 18 0) 0
def lyC (x : Int64) : Nat → Nat
  | 0 => 0
  | m + 1 => if hasB x m = true then lyC x m else lyC x m + 1
def lyS (S : sS) (p : Nat) (x : Int64) : Nat → sS
  | 0 => upS S 22 0 0
  | m + 1 => if hasB x m = true then lyS S p x m else upS (upS (upS (lyS S p x m) 20 (lyC x m) m) 21 (lyC x m) (lyF S p m)) 22 0 (lyC x m + 1)
theorem lyC_le (x : Int64) : ∀ m, lyC x m ≤ m
  | 0 => Nat.le_refl _
  | m + 1 => by have := lyC_le x m; rw [lyC]; split <;> omega
theorem lyS_c (S : sS) (p : Nat) (x : Int64) : ∀ m, lyS S p x m 22 0 = lyC x m
  | 0 => rfl
  | m + 1 => by
    rw [lyS, lyC]
    split
    · exact lyS_c S p x m
    · exact upS_s _ _ _ _
theorem lyS_n (S : sS) (p : Nat) (x : Int64) {f : Nat} (h20 : f ≠ 20) (h21 : f ≠ 21) (h22 : f ≠ 22) : ∀ m, lyS S p x m f = S f
  | 0 => by funext i; exact upS_n _ _ (fun q => h22 q.1)
  | m + 1 => by
    have ih := lyS_n S p x h20 h21 h22 m
    rw [lyS]
    split
    · exact ih
    · funext i
      rw [upS_n _ _ (fun q => h22 q.1), upS_n _ _ (fun q => h21 q.1), upS_n _ _ (fun q => h20 q.1), ih]
theorem lyS_same (S : sS) (p : Nat) (x : Int64) (m : Nat) : sameL S (lyS S p x m) := by
  refine ⟨?_, ?_, ?_, ?_, ?_, ?_, ?_, ?_, ?_, ?_, ?_, ?_, ?_, ?_, ?_, ?_, ?_⟩ <;> exact lyS_n S p x (by decide) (by decide) (by decide) m
theorem fstB_le (p : Nat → Bool) : ∀ n k, fstB p n k ≤ k + n
  | 0, k => Nat.le_refl _
  | n + 1, k => by
    have := fstB_le p n (k + 1)
    rw [fstB]; split <;> omega
theorem free_not {S : sS} {p day m : Nat} (hm : m < 64) (h : hasB (sFree S p day (-1)) m = false) : ∃ l, l < S 18 0 ∧ S 12 l = p ∧ sKn S l day = true ∧ hasB (sBars S l) m = true := by
  have key : ∀ n, hasB (sFr S p day (-1) n) m = false → ∃ l, l < n ∧ S 12 l = p ∧ sKn S l day = true ∧ hasB (sBars S l) m = true := by
    intro n
    induction n with
    | zero => intro q; rw [sFr, hasB_all m hm] at q; cases q
    | succ n ih =>
      intro q
      rw [sFr] at q
      by_cases c : ¬ nI n = -1 ∧ S 12 n = p ∧ sKn S n day = true
      · rw [if_pos c, hasB_and _ _ hm, hasB_not _ hm] at q
        by_cases z : hasB (sBars S n) m = true
        · exact ⟨n, Nat.lt_succ_self n, c.2.1, c.2.2, z⟩
        · have z2 : hasB (sBars S n) m = false := by
            cases e : hasB (sBars S n) m
            · rfl
            · exact absurd e z
          rw [z2, Bool.not_false, Bool.and_true] at q
          obtain ⟨l, h1, h2⟩ := ih q
          exact ⟨l, by omega, h2⟩
      · rw [if_neg c] at q
        obtain ⟨l, h1, h2⟩ := ih q
        exact ⟨l, by omega, h2⟩
  exact key _ h
theorem lyF_ok {S : sS} {p m : Nat} (hm : m < 64) (h : hasB (sFree S p (S 19 0) (-1)) m = false) : lyF S p m < S 18 0 ∧ lyP S p m (lyF S p m) = true := by
  obtain ⟨l, h1, h2, h3, h4⟩ := free_not hm h
  have := fstB_yes (lyP S p m) (S 18 0) 0 ⟨l, by omega, by omega, decide_eq_true ⟨h2, h3, h4⟩⟩
  rw [Nat.zero_add] at this
  exact this
theorem lyF_no {S : sS} {p m j : Nat} (h : j < lyF S p m) : lyP S p m j = false := fstB_no _ _ _ j (Nat.zero_le _) h
theorem lyS_g {S : sS} (hG : sG S) {p : Nat} {x : Int64} (hx : x = sFree S p (S 19 0) (-1)) : ∀ m, m ≤ 64 → sG (lyS S p x m)
  | 0, _ => (hG.b.up 22 0 (mx := 64) rfl (by omega)).g hG.2.2
  | m + 1, hm => by
    have ih := lyS_g hG (p := p) hx m (by omega)
    have hc := lyC_le x m
    have hb18 : S 18 0 ≤ 40 := hG.f 18 (mx := 40) (by decide)
    by_cases q : hasB x m = true
    · rw [lyS, if_pos q]; exact ih
    · have hf := (lyF_ok (S := S) (p := p) (m := m) (by omega) (by rw [← hx]; cases e : hasB x m; rfl; exact absurd e q)).1
      rw [lyS, if_neg q]
      exact (((ih.b.up 20 _ (mx := 63) rfl (by omega)).up 21 _ (mx := 39) rfl (by omega)).up 22 0 (mx := 64) rfl (by omega)).g ih.2.2
def lyA (S : sS) (p : Nat) : sS := lyS S p (sFree S p (S 19 0) (-1)) 64
def aLay (S : sS) (p : Int32) : Int32 := if ix p (S 7 0) = true then nI (lyC (sFree S (nx p) (S 19 0) (-1)) 64) else -1
def nLay (S : sS) (p : Int32) : sS := if ix p (S 7 0) = true then lyA S (nx p) else S
/-! best -/
def btS (S : sS) (b a z w j : Nat) : Nat := S 24 b * (gdR S b a z (1000 - 100 * j)).1 + w * (gdR S b a z (1000 - 100 * j)).2.1
def btL (S : sS) (b a z w : Nat) : Nat → Int32 × Nat
  | 0 => (-1, 0)
  | j + 1 => if (btL S b a z w j).1 = -1 ∨ btS S b a z w j < (btL S b a z w j).2 then (nI (1000 - 100 * j), btS S b a z w j) else btL S b a z w j
def aBest (S : sS) (b a z w : Int32) : Int32 := if ix b (S 25 0) = true then if spn a z = true then if ix w 10000 = true then (btL S (nx b) (nx a) (nx z) (nx w) 11).1 else -1 else -1 else -1
def nBest (S : sS) (b a z w : Int32) : sS := if ix b (S 25 0) = true then if spn a z = true then if ix w 10000 = true then upS S 32 0 1 else S else S else S
def rBest (S : sS) (sr : Nat → Int32) (b a z w : Int32) : Nat → Int32 := if ix b (S 25 0) = true then if spn a z = true then if ix w 10000 = true then va_up (fun _ => 0) 0 (nI (btL S (nx b) (nx a) (nx z) (nx w) 11).2) else sr else sr else sr
/-! choose -/
def dpL (S : sS) (p day : Nat) (x : Int64) : Nat → Int32
  | 0 => -1
  | m + 1 => if hasB x m = true then (if dpL S p day x m < nI (sEver S p m day) then nI (sEver S p m day) else dpL S p day x m) else dpL S p day x m
def sDeep (S : sS) (p day : Nat) : Int32 := dpL S p day (sKept S p (S 19 0)) 64
def bitI (b k : Nat) : Bool := decide (¬ (nI b >>> (nI k &&& 31)) &&& nI 1 = 0)
def coL (S : sS) (b : Nat) : Nat → Nat
  | 0 => 0
  | k + 1 => if bitI b k = true then coL S b k + S 29 k else coL S b k
def adL (S : sS) (b : Nat) : Nat → Nat → Nat
  | 0 => fun _ => 0
  | k + 1 => if bitI b k = true then va_up (adL S b k) (S 27 k) (adL S b k (S 27 k) + S 28 k) else adL S b k
theorem coL_le {S : sS} (hG : sG S) (b : Nat) : ∀ k, k ≤ 10 → coL S b k ≤ 999 * k
  | 0, _ => Nat.le_refl _
  | k + 1, hk => by
    have h1 := coL_le hG b k (by omega)
    have h2 : S 29 k ≤ 999 := hG.a 29 k (n := 10) (mx := 999) (by decide) (by omega)
    rw [coL]; split <;> omega
theorem adL_le {S : sS} (hG : sG S) (b : Nat) : ∀ k, k ≤ 10 → ∀ p, adL S b k p ≤ 99 * k
  | 0, _, p => Nat.le_refl _
  | k + 1, hk, p => by
    have h1 := adL_le hG b k (by omega)
    have h2 : S 28 k ≤ 99 := hG.a 28 k (n := 10) (mx := 99) (by decide) (by omega)
    rw [adL]; split
    · by_cases e : p = S 27 k
      · subst e
        have := h1 (S 27 k)
        show va_up _ _ _ _ ≤ _
        simp only [va_up, ↓reduceIte]; omega
      · have := h1 p
        show va_up _ _ _ _ ≤ _
        simp only [va_up, e, ↓reduceIte]; omega
    · have := h1 p; omega
def suP (S : sS) (b day p : Nat) : Bool := decide (¬ sDeep S p day = -1 ∧ sDeep S p day ≤ nI (S 5 p + S 6 p + adL S b (S 30 0) p))
def suL (S : sS) (b day : Nat) : Nat → Nat
  | 0 => 0
  | p + 1 => if suP S b day p = true then suL S b day p + 1 else suL S b day p
theorem suL_le (S : sS) (b day : Nat) : ∀ p, suL S b day p ≤ p
  | 0 => Nat.le_refl _
  | p + 1 => by have := suL_le S b day p; rw [suL]; split <;> omega
/-- the best so far: how many are sure, what it costs, which -/
def chL (S : sS) (mo day : Nat) : Nat → Int32 × Nat × Nat
  | 0 => (-1, 0, 0)
  | b + 1 => if coL S b (S 30 0) ≤ mo ∧ ¬ nI (suL S b day (S 7 0)) < (chL S mo day b).1 ∧ ¬ (nI (suL S b day (S 7 0)) = (chL S mo day b).1 ∧ (chL S mo day b).2.1 ≤ coL S b (S 30 0)) then (nI (suL S b day (S 7 0)), coL S b (S 30 0), b) else chL S mo day b
def aChoose (S : sS) (mo day : Int32) : Int32 := if ix mo 10000 = true then if ix day 400 = true then (chL S (nx mo) (nx day) (2 ^ S 30 0)).1 else -1 else -1
def nChoose (S : sS) (mo day : Int32) : sS := if ix mo 10000 = true then if ix day 400 = true then upS S 32 0 2 else S else S
def rChoose (S : sS) (sr : Nat → Int32) (mo day : Int32) : Nat → Int32 := if ix mo 10000 = true then if ix day 400 = true then va_up (va_up (fun _ => 0) 0 (nI (chL S (nx mo) (nx day) (2 ^ S 30 0)).2.2)) 1 (nI (chL S (nx mo) (nx day) (2 ^ S 30 0)).2.1) else sr else sr
theorem ix_lt {j n : Nat} (h : ix (nI j) n = true) (hj : j < 2 ^ 31) : j < n := by
  have h := of_decide_eq_true h
  rw [nI_toInt hj] at h; omega
theorem chk_pi {S0 S : sS} {sr : Nat → Int32} {d0 d : kD} {v w : Int32} (hSe : S = upS S0 22 0 0) (hR : RowM S0 sr d0) (hI : MI S (uI (uI d0 40 0 33 v) 40 0 22 w) d) : PI (upS S0 22 0 0) sr d0 d := by
  subst hSe
  exact ⟨hI.1, fun i hi => by rw [hI.2.1 81 (by omega)]; exact hR i hi, (((FrP.refl d0).thr _ _).thr _ _).trans hI.2.p⟩
theorem lyF_lt {S : sS} {p m l : Nat} (h : l ≤ lyF S p m) (hn : lyP S p m l = false) (ht : lyP S p m (lyF S p m) = true) : l < lyF S p m := by
  rcases Nat.lt_or_ge l (lyF S p m) with q | q
  · exact q
  · have e : l = lyF S p m := by omega
    rw [← e, hn] at ht; cases ht
theorem lyF_eq {S : sS} {p m l : Nat} (h : l ≤ lyF S p m) (ht : lyP S p m l = true) : l = lyF S p m := by
  rcases Nat.lt_or_ge l (lyF S p m) with q | q
  · rw [lyF_no q] at ht; cases ht
  · omega
theorem lay_step {S : sS} {sr : Nat → Int32} {d0 d : kD} {c m l : Nat} (h : PI S sr d0 d) (hG : sG (upS (upS (upS S 20 c m) 21 c l) 22 0 (c + 1))) (hc : c < 64) : PI (upS (upS (upS S 20 c m) 21 c l) 22 0 (c + 1)) sr d0 (uI (uI (uI d 70 0 c (nI m)) 71 0 c (nI l)) 40 0 22 (nI (c + 1))) :=
  ⟨h.1.chg (((h.1.1.put 20 c m (n := 64) rfl hc).put 21 c l (n := 64) rfl hc).putF 22 (c + 1) rfl) hG rfl rfl rfl rfl rfl (fun p _ m' n => sHE_cg (S := S) (S' := upS (upS (upS S 20 c m) 21 c l) 22 0 (c + 1)) rfl rfl rfl rfl rfl rfl rfl m' n) (fun _ _ => ⟨rfl, rfl, rfl, rfl⟩) (Nat.le_refl _) (Nat.le_refl _), h.2.1, ((h.2.2.stI _ _ _ _ (by omega)).stI _ _ _ _ (by omega)).thr _ _⟩
theorem PI.lay0 {S : sS} {sr : Nat → Int32} {d0 d : kD} (h : PI S sr d0 d) : PI (upS S 22 0 0) sr d0 (uI d 40 0 22 (nI 0)) := ⟨h.1.st22 (by omega), h.2.1, h.2.2.thr _ _⟩
theorem GD.pi2 {S : sS} {sr : Nat → Int32} {d0 d dn : kD} {c : Nat × Nat × Nat} (h : GD S d dn c) (hP : PI S sr d0 d) : PI S sr d0 dn := ⟨h.1, fun i hi => by rw [h.2.1]; exact hP.2.1 i hi, hP.2.2.trans h.2.2.1⟩
theorem btj {j : Nat} {pv : Int32} (h : (j ≤ 10 ∧ pv = nI (1000 - 100 * j)) ∨ (j = 11 ∧ pv = -100)) (h2 : ¬ pv < 0) : j ≤ 10 ∧ pv = nI (1000 - 100 * j) := by
  rcases h with q | q
  · exact q
  · exact absurd (show pv < 0 by rw [q.2]; decide) h2
theorem btje {j : Nat} {pv : Int32} (h : (j ≤ 10 ∧ pv = nI (1000 - 100 * j)) ∨ (j = 11 ∧ pv = -100)) (h2 : pv < 0) : j = 11 := by
  rcases h with q | q
  · exfalso
    rw [q.2] at h2
    exact nI_pos (by omega) h2
  · exact q.1
theorem btn : ∀ j, j < 11 → (j + 1 ≤ 10 ∧ nI (1000 - 100 * j) + (-100) = nI (1000 - 100 * (j + 1))) ∨ (j + 1 = 11 ∧ nI (1000 - 100 * j) + (-100) = -100) := by decide
theorem btS_le {S : sS} (hG : sG S) {b a z w j : Nat} (hb : b < 4) (hw : w < 10000) (hz : z < a + 60) : btS S b a z w j ≤ 999 * 60 + 9999 * 60 := by
  unfold btS gdR
  have h1 := gdL_le S b (1000 - 100 * j) a (z + 1 - a)
  have h2 : S 24 b ≤ 999 := hG.a 24 b (n := 4) (mx := 999) (by decide) hb
  exact Nat.add_le_add (Nat.mul_le_mul h2 (by omega)) (Nat.mul_le_mul (by omega) (by omega))
theorem btL_le {S : sS} (hG : sG S) {b a z w : Nat} (hb : b < 4) (hw : w < 10000) (hz : z < a + 60) : ∀ j, (btL S b a z w j).2 ≤ 999 * 60 + 9999 * 60
  | 0 => Nat.zero_le _
  | j + 1 => by
    have h1 := btL_le hG hb hw hz j
    rw [btL]; split
    · exact btS_le hG hb hw hz
    · exact h1
theorem InvM.stK {S : sS} {d : kD} (h : InvM S d) (k j : Nat) (v : Int32) (hk : 89 ≤ k) : InvM S (uI d k 0 j v) :=
  h.chg (h.1.stI k 0 j v (by omega)) h.2.1 (uI_k _ _ _ _ (by omega)) (uI_k _ _ _ _ (by omega)) (uI_k _ _ _ _ (by omega)) (uI_k _ _ _ _ (by omega)) rfl (fun _ _ _ _ => rfl) (fun _ _ => ⟨rfl, rfl, rfl, rfl⟩) (Nat.le_refl _) (Nat.le_refl _)
theorem PI.stK {S : sS} {sr : Nat → Int32} {d0 d : kD} (h : PI S sr d0 d) (k j : Nat) (v : Int32) (hk : 89 ≤ k) : PI S sr d0 (uI d k 0 j v) :=
  ⟨h.1.stK k j v hk, fun i hi => by rw [uI_k _ _ _ _ (by omega)]; exact h.2.1 i hi, h.2.2.stI _ _ _ _ (by omega)⟩
/-- the deepest of the piers below n are found -/
def DP (S : sS) (day n : Nat) (d : kD) : Prop := ∀ q, q < n → d.1 96 0 q = sDeep S q day
def AD (g : Nat → Nat) (n : Nat) (d : kD) : Prop := ∀ q, q < n → d.1 97 0 q = nI (g q)
theorem DP.mi {S : sS} {day n : Nat} {d d' : kD} (h : DP S day n d) (h2 : MI S d d') : DP S day n d' := fun q hq => by rw [h2.2.1 96 (by omega)]; exact h q hq
theorem DP.st {S : sS} {day n : Nat} {d : kD} (h : DP S day n d) {v : Int32} (hv : v = sDeep S n day) : DP S day (n + 1) (uI d 96 0 n v) := fun q hq => by
  by_cases e : q = n
  · subst e; rw [uI_s, hv]
  · rw [uI_f _ _ _ _ e]; exact h q (by omega)
theorem AD.z {n : Nat} {d : kD} (h : AD (fun _ => 0) n d) : AD (fun _ => 0) (n + 1) (uI d 97 0 n (nI 0)) := fun q hq => by
  by_cases e : q = n
  · subst e; rw [uI_s]
  · rw [uI_f _ _ _ _ e]; exact h q (by omega)
theorem AD.st {g : Nat → Nat} {n : Nat} {d : kD} (h : AD g n d) (j v : Nat) : AD (va_up g j v) n (uI d 97 0 j (nI v)) := fun q hq => by
  by_cases e : q = j
  · subst e; rw [uI_s]; simp [va_up]
  · rw [uI_f _ _ _ _ e, h q hq]; simp [va_up, e]
theorem shl10 {n : Nat} (h : n ≤ 10) : nI 1 <<< (nI n &&& 31) = nI (2 ^ n) := by
  have : ∀ n, n < 11 → nI 1 <<< (nI n &&& 31) = nI (2 ^ n) := by decide
  exact this n (by omega)
theorem pow10 {n : Nat} (h : n ≤ 10) : 1 ≤ 2 ^ n ∧ 2 ^ n ≤ 1024 := ⟨Nat.one_le_two_pow, Nat.pow_le_pow_right (by decide) h⟩
theorem bitI_t {b k : Nat} (h : ¬ (nI b >>> (nI k &&& 31)) &&& nI 1 = 0) : bitI b k = true := decide_eq_true h
theorem bitI_f {b k : Nat} (h : (nI b >>> (nI k &&& 31)) &&& nI 1 = 0) : bitI b k = false := decide_eq_false (fun q => q h)
theorem chL_le {S : sS} (hG : sG S) (mo day : Nat) : ∀ b, (chL S mo day b).2.1 ≤ 9990
  | 0 => Nat.zero_le _
  | b + 1 => by
    have h1 := chL_le hG mo day b
    have h3 : S 30 0 ≤ 10 := hG.f 30 (mx := 10) (by decide)
    have h2 := coL_le hG b (S 30 0) h3
    rw [chL]; split
    · show coL S b (S 30 0) ≤ 9990; omega
    · exact h1
theorem DP.k97 {S : sS} {day n : Nat} {d : kD} (h : DP S day n d) (j : Nat) (v : Int32) : DP S day n (uI d 97 0 j v) := fun q hq => by rw [uI_k _ _ _ _ (by omega)]; exact h q hq
