/-! bits of a long -/
theorem hasB_t (x : Int64) {k : Nat} (hk : k < 64) : hasB x k = x.toBitVec.toNat.testBit k := by
  have hn : x.toBitVec.toNat < 2 ^ 64 := x.toBitVec.isLt
  have h := hasB_lN hn hk
  rw [← lN_of x] at h
  exact h
theorem hasB_ext {x y : Int64} (h : ∀ k, k < 64 → hasB x k = hasB y k) : x = y := by
  apply lN_ext
  apply Nat.eq_of_testBit_eq
  intro i
  by_cases hi : i < 64
  · rw [← hasB_t x hi, ← hasB_t y hi]; exact h i hi
  · have hx : x.toBitVec.toNat < 2 ^ i := Nat.lt_of_lt_of_le x.toBitVec.isLt (Nat.pow_le_pow_right (by decide) (by omega))
    have hy : y.toBitVec.toNat < 2 ^ i := Nat.lt_of_lt_of_le y.toBitVec.isLt (Nat.pow_le_pow_right (by decide) (by omega))
    rw [Nat.testBit_lt_two_pow hx, Nat.testBit_lt_two_pow hy]
theorem hasB_and (x y : Int64) {k : Nat} (hk : k < 64) : hasB (x &&& y) k = (hasB x k && hasB y k) := by
  rw [hasB_t _ hk, hasB_t x hk, hasB_t y hk]
  show (x.toBitVec &&& y.toBitVec).toNat.testBit k = _
  rw [BitVec.toNat_and, Nat.testBit_and]
theorem hasB_or (x y : Int64) {k : Nat} (hk : k < 64) : hasB (x ||| y) k = (hasB x k || hasB y k) := by
  rw [hasB_t _ hk, hasB_t x hk, hasB_t y hk]
  show (x.toBitVec ||| y.toBitVec).toNat.testBit k = _
  rw [BitVec.toNat_or, Nat.testBit_or]
theorem hasB_not (x : Int64) {k : Nat} (hk : k < 64) : hasB (x ^^^ (-1)) k = !hasB x k := by
  rw [hasB_t _ hk, hasB_t x hk]
  show (x.toBitVec ^^^ (-1 : Int64).toBitVec).toNat.testBit k = _
  rw [BitVec.toNat_xor, Nat.testBit_xor, show (-1 : Int64).toBitVec.toNat = 2 ^ 64 - 1 from by decide, Nat.testBit_two_pow_sub_one, decide_eq_true hk, Bool.xor_true]
theorem hasB_one : ∀ j, j < 64 → ∀ k, k < 64 → hasB (lsl 1 j) k = decide (k = j) := by decide +kernel
theorem hasB_zero : ∀ k, k < 64 → hasB 0 k = false := by decide +kernel
theorem hasB_all : ∀ k, k < 64 → hasB (-1) k = true := by decide +kernel
theorem hasB_sBits (f : Nat → Bool) : ∀ n, n ≤ 64 → ∀ k, k < 64 → hasB (sBits f n) k = (decide (k < n) && f k)
  | 0, _, k, hk => by
    show hasB 0 k = _
    rw [hasB_zero k hk, decide_eq_false (Nat.not_lt_zero k), Bool.false_and]
  | n + 1, hn, k, hk => by
    have ih := hasB_sBits f n (by omega) k hk
    rw [sBits]
    by_cases hf : f n = true
    · rw [if_pos hf, hasB_or _ _ hk, ih, hasB_one n (by omega) k hk]
      by_cases e : k = n
      · subst e
        rw [decide_eq_true (Nat.lt_succ_self k), hf, decide_eq_true rfl, Bool.or_true, Bool.true_and]
      · rw [decide_eq_false e, Bool.or_false]
        congr 1
        exact decide_eq_decide.mpr (by omega)
    · rw [if_neg hf, ih]
      by_cases e : k = n
      · subst e
        cases hq : f k
        · rw [Bool.and_false, Bool.and_false]
        · exact absurd hq hf
      · congr 1
        exact decide_eq_decide.mpr (by omega)
theorem hasB_z {x : Int64} (h : ∀ k, k < 64 → hasB x k = false) : x = 0 := hasB_ext (fun k hk => by rw [h k hk, hasB_zero k hk])
theorem hasB_nz {x : Int64} (h : ¬ x = 0) : ∃ k, k < 64 ∧ hasB x k = true := by
  by_cases q : ∃ k, k < 64 ∧ hasB x k = true
  · exact q
  · exfalso
    apply h
    apply hasB_z
    intro k hk
    cases e : hasB x k
    · rfl
    · exact absurd ⟨k, hk, e⟩ q
/-- the first place with a property, from k on, n places -/
def fstB (p : Nat → Bool) : Nat → Nat → Nat
  | 0, k => k
  | n + 1, k => if p k = true then k else fstB p n (k + 1)
theorem fstB_ge (p : Nat → Bool) : ∀ n k, k ≤ fstB p n k
  | 0, k => Nat.le_refl _
  | n + 1, k => by
    have := fstB_ge p n (k + 1)
    rw [fstB]; split <;> omega
theorem fstB_no (p : Nat → Bool) : ∀ n k j, k ≤ j → j < fstB p n k → p j = false
  | 0, k, j, h, h2 => by rw [fstB] at h2; omega
  | n + 1, k, j, h, h2 => by
    rw [fstB] at h2
    by_cases q : p k = true
    · rw [if_pos q] at h2; omega
    · rw [if_neg q] at h2
      by_cases e : j = k
      · subst e
        cases hp : p j
        · rfl
        · exact absurd hp q
      · exact fstB_no p n (k + 1) j (by omega) h2
theorem fstB_yes (p : Nat → Bool) : ∀ n k, (∃ j, k ≤ j ∧ j < k + n ∧ p j = true) → fstB p n k < k + n ∧ p (fstB p n k) = true
  | 0, k, h => by obtain ⟨j, h1, h2, _⟩ := h; omega
  | n + 1, k, h => by
    rw [fstB]
    by_cases q : p k = true
    · rw [if_pos q]; exact ⟨by omega, q⟩
    · rw [if_neg q]
      obtain ⟨j, h1, h2, h3⟩ := h
      have hne : j ≠ k := fun e => q (by rw [← e]; exact h3)
      have := fstB_yes p n (k + 1) ⟨j, by omega, by omega, h3⟩
      exact ⟨by omega, this.2⟩
def ntN (x : Int64) : Nat := fstB (hasB x) 64 0
theorem ntN_ok {x : Int64} (h : ¬ x = 0) : ntN x < 64 ∧ hasB x (ntN x) = true ∧ ∀ j, j < ntN x → hasB x j = false := by
  obtain ⟨k, hk, hb⟩ := hasB_nz h
  have h1 := fstB_yes (hasB x) 64 0 ⟨k, by omega, by omega, hb⟩
  exact ⟨by have := h1.1; unfold ntN; omega, h1.2, fun j hj => fstB_no (hasB x) 64 0 j (by omega) hj⟩
/-- n has its lowest bit at m -/
theorem low_split {n m : Nat} (hb : n.testBit m = true) (hl : ∀ j, j < m → n.testBit j = false) : ∃ q, n = 2 ^ m * (2 * q + 1) := by
  have h0 : n % 2 ^ m = 0 := by
    apply Nat.eq_of_testBit_eq
    intro i
    rw [Nat.testBit_mod_two_pow, Nat.zero_testBit]
    by_cases hi : i < m
    · rw [hl i hi, Bool.and_false]
    · rw [decide_eq_false hi, Bool.false_and]
  have h1 : n / 2 ^ m % 2 = 1 := by
    rw [Nat.testBit_eq_decide_div_mod_eq] at hb
    exact of_decide_eq_true hb
  refine ⟨n / 2 ^ m / 2, ?_⟩
  have h2 := Nat.div_add_mod n (2 ^ m)
  have h3 : 2 * (n / 2 ^ m / 2) + 1 = n / 2 ^ m := by omega
  rw [h3]
  omega
theorem low_pred {n m : Nat} (hb : n.testBit m = true) (hl : ∀ j, j < m → n.testBit j = false) (j : Nat) : (n - 1).testBit j = if j < m then true else if j = m then false else n.testBit j := by
  obtain ⟨q, hq⟩ := low_split hb hl
  have hp : 0 < 2 ^ m := Nat.two_pow_pos m
  have e1 : n - 1 = 2 ^ m * (2 * q) + (2 ^ m - 1) := by
    rw [hq, Nat.mul_add, Nat.mul_one]; omega
  have t1 := Nat.testBit_two_pow_mul_add (i := m) (2 * q) (b := 2 ^ m - 1) (by omega) j
  have t2 := Nat.testBit_two_pow_mul_add (i := m) (2 * q + 1) (b := 0) hp j
  rw [Nat.add_zero, ← hq] at t2
  rw [e1, t1]
  by_cases h : j < m
  · rw [if_pos h, if_pos h, Nat.testBit_two_pow_sub_one, decide_eq_true h]
  · rw [if_neg h, if_neg h]
    by_cases e : j = m
    · subst e
      rw [if_pos rfl, Nat.sub_self, Nat.testBit_zero]
      exact decide_eq_false (by omega)
    · rw [if_neg e, t2, if_neg h]
      obtain ⟨i, hi⟩ : ∃ i, j - m = i + 1 := ⟨j - m - 1, by omega⟩
      rw [hi, Nat.testBit_succ, Nat.testBit_succ]
      congr 1
      omega
theorem hasB_dec {x : Int64} (h : ¬ x = 0) {k : Nat} (hk : k < 64) : hasB (x &&& (x - 1)) k = (hasB x k && decide (k ≠ ntN x)) := by
  obtain ⟨h1, h2, h3⟩ := ntN_ok h
  rw [hasB_and _ _ hk]
  generalize ntN x = m at h1 h2 h3
  rw [hasB_t _ h1] at h2
  have h3 : ∀ j, j < m → x.toBitVec.toNat.testBit j = false := fun j hj => by rw [← hasB_t x (by omega)]; exact h3 j hj
  rw [hasB_t x hk, hasB_t (x - 1) hk]
  have hn : x.toBitVec.toNat < 2 ^ 64 := x.toBitVec.isLt
  have hpos : 1 ≤ x.toBitVec.toNat := by
    rcases Nat.eq_zero_or_pos x.toBitVec.toNat with q | q
    · rw [q, Nat.zero_testBit] at h2; cases h2
    · exact q
  have e : (x - 1).toBitVec.toNat = x.toBitVec.toNat - 1 := by
    have h9 := lN_sub (a := x.toBitVec.toNat) (b := 1) hpos
    rw [← lN_of x] at h9
    show (x - lN 1).toBitVec.toNat = _
    rw [h9, lN_tn (by omega)]
  rw [e, low_pred h2 h3 k]
  by_cases a : k < m
  · rw [if_pos a, h3 k a, Bool.false_and, Bool.false_and]
  · rw [if_neg a]
    by_cases b : k = m
    · rw [if_pos b, decide_eq_false (fun q => q b), Bool.and_false]
    · rw [if_neg b, decide_eq_true b, Bool.and_true, Bool.and_self]
/-- the Integer's own steps -/
theorem ntz_q {n m : Nat} (hm : m < 32) (hb : n.testBit m = true) (hl : ∀ j, j < m → n.testBit j = false) : (nI n ^^^ (-1)) &&& (nI n - nI 1) = nI (2 ^ m - 1) := by
  have hpos : 1 ≤ n := by
    rcases Nat.eq_zero_or_pos n with q | q
    · rw [q, Nat.zero_testBit] at hb; cases hb
    · exact q
  rw [pk_sub hpos]
  apply Int32.toBitVec_inj.mp
  apply BitVec.eq_of_toNat_eq
  show (((nI n).toBitVec ^^^ (-1 : Int32).toBitVec) &&& (nI (n - 1)).toBitVec).toNat = (BitVec.ofNat 32 (2 ^ m - 1)).toNat
  rw [BitVec.toNat_and, BitVec.toNat_xor]
  show (((BitVec.ofNat 32 n).toNat ^^^ (-1 : Int32).toBitVec.toNat) &&& (BitVec.ofNat 32 (n - 1)).toNat) = (BitVec.ofNat 32 (2 ^ m - 1)).toNat
  rw [BitVec.toNat_ofNat, BitVec.toNat_ofNat, BitVec.toNat_ofNat, show (-1 : Int32).toBitVec.toNat = 2 ^ 32 - 1 from by decide]
  have h2 : 2 ^ m - 1 < 2 ^ 32 := by
    have := Nat.pow_le_pow_right (n := 2) (by decide) (show m ≤ 32 by omega)
    omega
  rw [Nat.mod_eq_of_lt h2]
  apply Nat.eq_of_testBit_eq
  intro j
  rw [Nat.testBit_and, Nat.testBit_xor, Nat.testBit_mod_two_pow, Nat.testBit_mod_two_pow, Nat.testBit_two_pow_sub_one, Nat.testBit_two_pow_sub_one, low_pred hb hl j]
  by_cases h32 : j < 32
  · rw [decide_eq_true h32, Bool.true_and, Bool.true_and, Bool.xor_true]
    by_cases a : j < m
    · rw [if_pos a, hl j a, decide_eq_true a]; rfl
    · rw [if_neg a, decide_eq_false a]
      by_cases b : j = m
      · rw [if_pos b, Bool.and_false]
      · rw [if_neg b]; cases n.testBit j <;> rfl
  · rw [decide_eq_false h32, decide_eq_false (show ¬ j < m by omega)]; rfl
theorem ntz_0 {m q : Nat} (hq : q = 2 ^ m - 1) (h : q = 0) : nI q &&& nI 32 = nI m := by
  have e1 : m = 0 := by
    rcases Nat.eq_zero_or_pos m with z | z
    · exact z
    · exfalso
      have := Nat.pow_le_pow_right (n := 2) (by decide) z
      omega
  subst e1
  rw [h]; decide
def zs (k : Nat) (s : Nat × Nat) : Nat × Nat := if s.2 ≤ 2 ^ k then s else (s.1 + k, s.2 / 2 ^ k)
theorem zs_ok : ∀ m, m < 32 → m ≠ 0 → (zs 2 (zs 4 (zs 8 (zs 16 (1, 2 ^ m - 1))))).1 + (zs 2 (zs 4 (zs 8 (zs 16 (1, 2 ^ m - 1))))).2 / 2 ^ 1 = m := by decide +kernel
theorem zs_le (k : Nat) (s : Nat × Nat) : (zs k s).2 ≤ s.2 := by
  unfold zs; split
  · exact Nat.le_refl _
  · exact Nat.div_le_self _ _
theorem l2i_lo (x : Int64) : x.toInt32 = nI x.toBitVec.toNat := by
  have h := lN_i x.toBitVec.toNat
  rw [← lN_of x] at h; exact h
theorem l2i_hi (x : Int64) : (lsr x 32).toInt32 = nI (x.toBitVec.toNat / 2 ^ 32) := by
  have h := lsr_lN (n := x.toBitVec.toNat) (k := 32) x.toBitVec.isLt (by decide)
  rw [← lN_of x] at h
  rw [h, lN_i]
theorem nI_z32 {n : Nat} : nI n = 0 ↔ n % 2 ^ 32 = 0 := by
  constructor
  · intro h
    have h2 := congrArg (fun z : Int32 => z.toBitVec.toNat) h
    have h3 : (BitVec.ofNat 32 n).toNat = 0 := h2
    rw [BitVec.toNat_ofNat] at h3; exact h3
  · intro h
    apply Int32.toBitVec_inj.mp
    apply BitVec.eq_of_toNat_eq
    show (BitVec.ofNat 32 n).toNat = 0
    rw [BitVec.toNat_ofNat]; exact h
theorem nt_lo {x : Int64} (h : ¬ x = 0) (h2 : ¬ nI x.toBitVec.toNat = 0) : ntN x < 32 := by
  obtain ⟨h1, h3, h4⟩ := ntN_ok h
  rcases Nat.lt_or_ge (ntN x) 32 with q | q
  · exact q
  · exfalso
    apply h2
    rw [nI_z32]
    apply Nat.eq_of_testBit_eq
    intro i
    rw [Nat.testBit_mod_two_pow, Nat.zero_testBit]
    by_cases hi : i < 32
    · rw [← hasB_t x (by omega), h4 i (by omega), Bool.and_false]
    · rw [decide_eq_false hi, Bool.false_and]
theorem nt_hi {x : Int64} (h : ¬ x = 0) (h2 : nI x.toBitVec.toNat = 0) : 32 ≤ ntN x := by
  obtain ⟨h1, h3, h4⟩ := ntN_ok h
  rcases Nat.lt_or_ge (ntN x) 32 with q | q
  · exfalso
    rw [nI_z32] at h2
    have t := Nat.testBit_mod_two_pow x.toBitVec.toNat 32 (ntN x)
    rw [h2, Nat.zero_testBit, decide_eq_true q, ← hasB_t x h1, h3] at t
    cases t
  · exact q
theorem nt_b {x : Int64} (h : ¬ x = 0) : x.toBitVec.toNat.testBit (ntN x) = true ∧ ∀ j, j < ntN x → x.toBitVec.toNat.testBit j = false := by
  obtain ⟨h1, h3, h4⟩ := ntN_ok h
  exact ⟨by rw [← hasB_t x h1]; exact h3, fun j hj => by rw [← hasB_t x (by omega)]; exact h4 j hj⟩
theorem nt_bh {x : Int64} (h : ¬ x = 0) (h2 : 32 ≤ ntN x) : (x.toBitVec.toNat / 2 ^ 32).testBit (ntN x - 32) = true ∧ ∀ j, j < ntN x - 32 → (x.toBitVec.toNat / 2 ^ 32).testBit j = false := by
  obtain ⟨h3, h4⟩ := nt_b h
  refine ⟨?_, fun j hj => ?_⟩
  · rw [Nat.testBit_div_two_pow, Nat.sub_add_cancel h2]; exact h3
  · rw [Nat.testBit_div_two_pow]; exact h4 _ (by omega)
/-- what is left of x: its minds from k on -/
def RS (x : Int64) (k : Nat) (r : Int64) : Prop := ∀ j, j < 64 → hasB r j = (decide (k ≤ j) && hasB x j)
theorem RS.start (x : Int64) : RS x 0 x := fun j _ => by rw [decide_eq_true (Nat.zero_le j), Bool.true_and]
theorem RS.at {x r : Int64} {k : Nat} (h : RS x k r) (hr : ¬ r = 0) : k ≤ ntN r ∧ ntN r < 64 ∧ hasB x (ntN r) = true ∧ ∀ j, k ≤ j → j < ntN r → hasB x j = false := by
  obtain ⟨h1, h2, h3⟩ := ntN_ok hr
  have h4 := h _ h1
  rw [h2] at h4
  have h5 := (Bool.and_eq_true _ _).mp h4.symm
  refine ⟨of_decide_eq_true h5.1, h1, h5.2, fun j hj hj2 => ?_⟩
  have h6 := h j (by omega)
  rw [h3 j hj2, decide_eq_true hj, Bool.true_and] at h6
  exact h6.symm
theorem RS.next {x r : Int64} {k : Nat} (h : RS x k r) (hr : ¬ r = 0) : RS x (ntN r + 1) (r &&& (r - 1)) := by
  obtain ⟨h1, h2, h3, h4⟩ := h.at hr
  intro j hj
  rw [hasB_dec hr hj, h j hj]
  by_cases a : j < k
  · rw [decide_eq_false (show ¬ k ≤ j by omega), decide_eq_false (show ¬ ntN r + 1 ≤ j by omega)]; simp
  · rw [decide_eq_true (show k ≤ j by omega), Bool.true_and]
    by_cases b : j < ntN r
    · rw [h4 j (by omega) b]; simp
    · by_cases e : j = ntN r
      · rw [decide_eq_false (fun q => q e), decide_eq_false (show ¬ ntN r + 1 ≤ j by omega)]; simp
      · rw [decide_eq_true e, decide_eq_true (show ntN r + 1 ≤ j by omega)]; simp
theorem RS.end {x : Int64} {k : Nat} (h : RS x k 0) : ∀ j, k ≤ j → j < 64 → hasB x j = false := by
  intro j h1 h2
  have h3 := h j h2
  rw [hasB_zero j h2, decide_eq_true h1, Bool.true_and] at h3
  exact h3.symm
theorem sBits_skip {f : Nat → Bool} {k : Nat} : ∀ m, k ≤ m → (∀ j, k ≤ j → j < m → f j = false) → sBits f m = sBits f k
  | 0, h, _ => by rw [show k = 0 by omega]
  | m + 1, h, hf => by
    by_cases e : k = m + 1
    · rw [e]
    · rw [sBits, hf m (by omega) (Nat.lt_succ_self m), if_neg (by decide)]
      exact sBits_skip m (by omega) (fun j h1 h2 => hf j h1 (by omega))
theorem lg0 {x : Int64} (h : lg_cmp x 0 = 0) : x = 0 := (lg_cmp_eq _ _).mp h
theorem lg0n {x : Int64} (h : ¬ lg_cmp x 0 = 0) : ¬ x = 0 := fun q => h ((lg_cmp_eq _ _).mpr q)
