/-! how many bits: Long.bitCount over natural numbers, byte by byte -/
def ctB (p : Nat → Bool) : Nat → Nat
  | 0 => 0
  | n + 1 => ctB p n + (if p n = true then 1 else 0)
def rpB (c : Nat) : Nat → Nat
  | 0 => 0
  | k + 1 => 256 * rpB c k + c
def pg1 (k n : Nat) : Nat := n - ((n / 2) &&& rpB 85 k)
def pg2 (k n : Nat) : Nat := (n &&& rpB 51 k) + ((n / 4) &&& rpB 51 k)
def pg3 (k n : Nat) : Nat := (n + n / 16) &&& rpB 15 k
theorem and_256 (a b c d : Nat) (hb : b < 256) (hd : d < 256) : (256 * a + b) &&& (256 * c + d) = 256 * (a &&& c) + (b &&& d) := by
  have hbd : (b &&& d) < 256 := Nat.lt_of_le_of_lt Nat.and_le_left hb
  apply Nat.eq_of_testBit_eq
  intro i
  have e1 := Nat.testBit_two_pow_mul_add (i := 8) a (b := b) (by omega) i
  have e2 := Nat.testBit_two_pow_mul_add (i := 8) c (b := d) (by omega) i
  have e3 := Nat.testBit_two_pow_mul_add (i := 8) (a &&& c) (b := b &&& d) (by omega) i
  rw [show (2 : Nat) ^ 8 = 256 from rfl] at e1 e2 e3
  rw [Nat.testBit_and, e1, e2, e3]
  by_cases h : i < 8
  · rw [if_pos h, if_pos h, if_pos h, Nat.testBit_and]
  · rw [if_neg h, if_neg h, if_neg h, Nat.testBit_and]
theorem pg1_b : ∀ m, m < 512 → (m / 2) &&& 85 = ((m % 256) / 2) &&& 85 := by decide +kernel
theorem pg2_b : ∀ m, m < 1024 → (m / 4) &&& 51 = ((m % 256) / 4) &&& 51 := by decide +kernel
theorem pg1_le (k n : Nat) : (n / 2) &&& rpB 85 k ≤ n := Nat.le_trans Nat.and_le_left (Nat.div_le_self _ _)
theorem pg1_s (k q b : Nat) (hb : b < 256) : pg1 (k + 1) (256 * q + b) = 256 * pg1 k q + (b - ((b / 2) &&& 85)) := by
  unfold pg1
  have e : (256 * q + b) / 2 = 256 * (q / 2) + ((256 * q + b) % 512) / 2 := by omega
  have h1 := pg1_b ((256 * q + b) % 512) (by omega)
  have h2 : ((256 * q + b) % 512) % 256 = b := by omega
  rw [h2] at h1
  rw [e, rpB, and_256 _ _ _ _ (by omega) (by omega), h1]
  have l1 := pg1_le k q
  have l2 : (b / 2) &&& 85 ≤ b := Nat.le_trans Nat.and_le_left (Nat.div_le_self _ _)
  omega
theorem pg2_s (k q b : Nat) (hb : b < 256) : pg2 (k + 1) (256 * q + b) = 256 * pg2 k q + ((b &&& 51) + ((b / 4) &&& 51)) := by
  unfold pg2
  have e : (256 * q + b) / 4 = 256 * (q / 4) + ((256 * q + b) % 1024) / 4 := by omega
  have h1 := pg2_b ((256 * q + b) % 1024) (by omega)
  have h2 : ((256 * q + b) % 1024) % 256 = b := by omega
  rw [h2] at h1
  rw [e, rpB, and_256 _ _ _ _ (by omega) (by omega), and_256 _ _ _ _ (by omega) (by omega), h1]
  omega
theorem pg3_b : ∀ b, b < 128 → ∀ r, r < 8 → (16 * r + b) &&& 15 = b &&& 15 := by decide
theorem pg3_s (k q b : Nat) (hb : b ≤ 68) (hq : q % 16 ≤ 4) : pg3 (k + 1) (256 * q + b) = 256 * pg3 k q + ((b + b / 16) &&& 15) := by
  unfold pg3
  have e : 256 * q + b + (256 * q + b) / 16 = 256 * (q + q / 16) + (16 * (q % 16) + (b + b / 16)) := by omega
  rw [e, rpB, and_256 _ _ _ _ (by omega) (by omega), pg3_b (b + b / 16) (by omega) (q % 16) (by omega)]
def b1 (b : Nat) : Nat := b - ((b / 2) &&& 85)
def b2 (b : Nat) : Nat := (b1 b &&& 51) + ((b1 b / 4) &&& 51)
def b3 (b : Nat) : Nat := (b2 b + b2 b / 16) &&& 15
theorem b_ok : ∀ b, b < 256 → b1 b < 256 ∧ b2 b ≤ 68 ∧ b2 b % 16 ≤ 4 ∧ b3 b ≤ 8 ∧ b3 b = ctB (fun i => b.testBit i) 8 := by decide +kernel
theorem y2_nib : ∀ k q, q < 256 ^ k → (pg2 k (pg1 k q)) % 16 ≤ 4
  | 0, q, h => by
    have : q = 0 := by simpa using h
    subst this; decide
  | k + 1, q, h => by
    obtain ⟨g1, g2, g3, g4, g5⟩ := b_ok (q % 256) (by omega)
    have e : q = 256 * (q / 256) + q % 256 := by omega
    rw [e, pg1_s _ _ _ (by omega)]
    rw [show q % 256 - ((q % 256 / 2) &&& 85) = b1 (q % 256) from rfl, pg2_s _ _ _ g1]
    rw [show (b1 (q % 256) &&& 51) + ((b1 (q % 256) / 4) &&& 51) = b2 (q % 256) from rfl]
    omega
def y3 (k n : Nat) : Nat := pg3 k (pg2 k (pg1 k n))
theorem y3_s (k q b : Nat) (hq : q < 256 ^ k) (hb : b < 256) : y3 (k + 1) (256 * q + b) = 256 * y3 k q + b3 b := by
  obtain ⟨g1, g2, g3, g4, g5⟩ := b_ok b hb
  unfold y3
  rw [pg1_s _ _ _ hb, show b - ((b / 2) &&& 85) = b1 b from rfl, pg2_s _ _ _ g1, show (b1 b &&& 51) + ((b1 b / 4) &&& 51) = b2 b from rfl, pg3_s _ _ _ g2 (y2_nib k q hq)]
  rfl
theorem ct_split (q b : Nat) (hb : b < 256) : ∀ m, ctB (fun i => (256 * q + b).testBit i) (8 + m) = ctB (fun i => b.testBit i) 8 + ctB (fun i => q.testBit i) m
  | 0 => by
    have key : ∀ n, n ≤ 8 → ctB (fun i => (256 * q + b).testBit i) n = ctB (fun i => b.testBit i) n := by
      intro n
      induction n with
      | zero => intro _; rfl
      | succ n ih =>
        intro hn
        have e1 := Nat.testBit_two_pow_mul_add (i := 8) q (b := b) (by omega) n
        rw [show (2 : Nat) ^ 8 = 256 from rfl, if_pos (by omega)] at e1
        show ctB _ n + (if (256 * q + b).testBit n = true then 1 else 0) = ctB _ n + (if b.testBit n = true then 1 else 0)
        rw [e1, ih (by omega)]
    exact key 8 (Nat.le_refl _)
  | m + 1 => by
    have e1 := Nat.testBit_two_pow_mul_add (i := 8) q (b := b) (by omega) (8 + m)
    rw [show (2 : Nat) ^ 8 = 256 from rfl, if_neg (by omega), show 8 + m - 8 = m by omega] at e1
    show ctB _ (8 + m) + (if (256 * q + b).testBit (8 + m) = true then 1 else 0) = _
    rw [ct_split q b hb m, e1]
    show _ = ctB _ 8 + (ctB _ m + (if q.testBit m = true then 1 else 0))
    omega
/-- a number of k bytes of at most 8 each, and their sum -/
def PB : Nat → Nat → Nat → Prop
  | 0, y, c => y = 0 ∧ c = 0
  | k + 1, y, c => ∃ y' c' d, d ≤ 8 ∧ PB k y' c' ∧ y = 256 * y' + d ∧ c = c' + d
theorem y3_PB : ∀ k n, n < 256 ^ k → PB k (y3 k n) (ctB (fun i => n.testBit i) (8 * k))
  | 0, n, h => by
    have : n = 0 := by simpa using h
    subst this; exact ⟨by decide, rfl⟩
  | k + 1, n, h => by
    have hq : n / 256 < 256 ^ k := by rw [Nat.pow_succ] at h; omega
    obtain ⟨g1, g2, g3, g4, g5⟩ := b_ok (n % 256) (by omega)
    have e : n = 256 * (n / 256) + n % 256 := by omega
    refine ⟨y3 k (n / 256), ctB (fun i => (n / 256).testBit i) (8 * k), b3 (n % 256), g4, y3_PB k _ hq, ?_, ?_⟩
    · conv => lhs; rw [e]
      exact y3_s k _ _ hq (by omega)
    · have h1 := ct_split (n / 256) (n % 256) (by omega) (8 * k)
      rw [← e, ← g5] at h1
      rw [show 8 * (k + 1) = 8 + 8 * k by omega, h1]
      omega
theorem pop_sum {y c : Nat} (h : PB 8 y c) : c ≤ 64 ∧ (y + y / 256 + (y + y / 256) / 65536 + (y + y / 256 + (y + y / 256) / 65536) / 4294967296) % 128 = c := by
  obtain ⟨y1, c1, d1, h1, ⟨y2, c2, d2, h2, ⟨y3, c3, d3, h3, ⟨y4, c4, d4, h4, ⟨y5, c5, d5, h5, ⟨y6, c6, d6, h6, ⟨y7, c7, d7, h7, ⟨y8, c8, d8, h8, ⟨e9, f9⟩, e8, f8⟩, e7, f7⟩, e6, f6⟩, e5, f5⟩, e4, f4⟩, e3, f3⟩, e2, f2⟩, e1, f1⟩ := h
  have ey : y = d1 + 256 * d2 + 65536 * d3 + 16777216 * d4 + 4294967296 * d5 + 1099511627776 * d6 + 281474976710656 * d7 + 72057594037927936 * d8 := by omega
  have ec : c = d1 + d2 + d3 + d4 + d5 + d6 + d7 + d8 := by omega
  clear e1 e2 e3 e4 e5 e6 e7 e8 e9 f1 f2 f3 f4 f5 f6 f7 f8 f9
  have e1 : y / 256 = d2 + 256 * d3 + 65536 * d4 + 16777216 * d5 + 4294967296 * d6 + 1099511627776 * d7 + 281474976710656 * d8 := by omega
  obtain ⟨u, hu⟩ : ∃ u, u = y + y / 256 := ⟨_, rfl⟩
  rw [← hu]
  have eu : u = (d1 + d2) + 256 * (d2 + d3) + 65536 * (d3 + d4) + 16777216 * (d4 + d5) + 4294967296 * (d5 + d6) + 1099511627776 * (d6 + d7) + 281474976710656 * (d7 + d8) + 72057594037927936 * d8 := by omega
  clear hu e1 ey
  have e2 : u / 65536 = (d3 + d4) + 256 * (d4 + d5) + 65536 * (d5 + d6) + 16777216 * (d6 + d7) + 4294967296 * (d7 + d8) + 1099511627776 * d8 := by omega
  obtain ⟨v, hv⟩ : ∃ v, v = u + u / 65536 := ⟨_, rfl⟩
  rw [← hv]
  have ev : v = (d1 + d2 + d3 + d4) + 256 * (d2 + d3 + d4 + d5) + 65536 * (d3 + d4 + d5 + d6) + 16777216 * (d4 + d5 + d6 + d7) + 4294967296 * (d5 + d6 + d7 + d8) + 1099511627776 * (d6 + d7 + d8) + 281474976710656 * (d7 + d8) + 72057594037927936 * d8 := by omega
  clear hv e2 eu
  have e3 : v / 4294967296 = (d5 + d6 + d7 + d8) + 256 * (d6 + d7 + d8) + 65536 * (d7 + d8) + 16777216 * d8 := by omega
  rw [e3, ev, ec]
  omega
/-! Long.bitCount's steps -/
def bq1 (x : Int64) : Int64 := x - (lsr x 1 &&& 6148914691236517205)
def bq2 (x : Int64) : Int64 := (x &&& 3689348814741910323) + (lsr x 2 &&& 3689348814741910323)
def bq3 (x : Int64) : Int64 := (x + lsr x 4) &&& 1085102592571150095
def bq4 (x : Int64) : Int64 := x + lsr x 8
def bq5 (x : Int64) : Int64 := x + lsr x 16
def bq6 (x : Int64) : Int64 := x + lsr x 32
def popN (x : Int64) : Nat := ctB (hasB x) 64
theorem lN_tn {n : Nat} (h : n < 2 ^ 64) : (lN n).toBitVec.toNat = n := by
  show (BitVec.ofNat 64 n).toNat = n
  rw [BitVec.toNat_ofNat, Nat.mod_eq_of_lt h]
theorem lN_ext {a b : Int64} (h : a.toBitVec.toNat = b.toBitVec.toNat) : a = b := Int64.toBitVec_inj.mp (BitVec.eq_of_toNat_eq h)
theorem lN_of (x : Int64) : x = lN x.toBitVec.toNat := lN_ext (by rw [lN_tn x.toBitVec.isLt])
theorem lsr_amt : ∀ k, k < 64 → ((nI k).toInt64.toUInt64 &&& Int64.toUInt64 63) = UInt64.ofNat k := by decide +kernel
theorem lsr_lN {n k : Nat} (hn : n < 2 ^ 64) (hk : k < 64) : lsr (lN n) k = lN (n / 2 ^ k) := by
  apply lN_ext
  have h2 : n / 2 ^ k < 2 ^ 64 := Nat.lt_of_le_of_lt (Nat.div_le_self _ _) hn
  rw [lN_tn h2]
  unfold lsr
  rw [lsr_amt k hk]
  show (((lN n).toBitVec) >>> ((UInt64.ofNat k).toBitVec % 64#64)).toNat = _
  rw [BitVec.ushiftRight_eq', BitVec.toNat_ushiftRight, lN_tn hn]
  have e : ((UInt64.ofNat k).toBitVec % 64#64).toNat = k := by
    rw [BitVec.toNat_umod]
    show k % 18446744073709551616 % 64 = k
    omega
  rw [e, Nat.shiftRight_eq_div_pow]
theorem and_lN {a b : Nat} (ha : a < 2 ^ 64) (hb : b < 2 ^ 64) : lN a &&& lN b = lN (a &&& b) := by
  apply lN_ext
  rw [lN_tn (Nat.lt_of_le_of_lt Nat.and_le_left ha)]
  show ((lN a).toBitVec &&& (lN b).toBitVec).toNat = _
  rw [BitVec.toNat_and, lN_tn ha, lN_tn hb]
theorem hasB_lN {n k : Nat} (hn : n < 2 ^ 64) (hk : k < 64) : hasB (lN n) k = n.testBit k := by
  unfold hasB
  have h2 : n / 2 ^ k < 2 ^ 64 := Nat.lt_of_le_of_lt (Nat.div_le_self _ _) hn
  rw [lsr_lN hn hk, show (1 : Int64) = lN 1 from rfl, and_lN h2 (by decide), Nat.and_one_is_mod]
  rw [Nat.testBit_eq_decide_div_mod_eq]
  apply decide_eq_decide.mpr
  constructor
  · intro h
    have h3 := congrArg (fun x : Int64 => x.toBitVec.toNat) h
    simp only [lN_tn (show n / 2 ^ k % 2 < 2 ^ 64 by omega), lN_tn (show 1 < 2 ^ 64 by decide)] at h3
    exact h3
  · intro h; rw [h]
theorem ctB_cg {p q : Nat → Bool} : ∀ n, (∀ k, k < n → p k = q k) → ctB p n = ctB q n
  | 0, _ => rfl
  | n + 1, h => by rw [ctB, ctB, h n (by omega), ctB_cg n (fun k hk => h k (by omega))]
theorem popN_lN {n : Nat} (hn : n < 2 ^ 64) : popN (lN n) = ctB (fun i => n.testBit i) 64 := ctB_cg 64 (fun _ hk => hasB_lN hn hk)
theorem rp85 : rpB 85 8 = 6148914691236517205 := by decide
theorem rp51 : rpB 51 8 = 3689348814741910323 := by decide
theorem rp15 : rpB 15 8 = 1085102592571150095 := by decide
theorem PB_lt {y c : Nat} (h : PB 8 y c) : y < 2 ^ 60 := by
  obtain ⟨y1, c1, d1, h1, ⟨y2, c2, d2, h2, ⟨y3, c3, d3, h3, ⟨y4, c4, d4, h4, ⟨y5, c5, d5, h5, ⟨y6, c6, d6, h6, ⟨y7, c7, d7, h7, ⟨y8, c8, d8, h8, ⟨e9, f9⟩, e8, f8⟩, e7, f7⟩, e6, f6⟩, e5, f5⟩, e4, f4⟩, e3, f3⟩, e2, f2⟩, e1, f1⟩ := h
  omega
theorem bc_ok (x : Int64) : (bq6 (bq5 (bq4 (bq3 (bq2 (bq1 x)))))).toInt32 &&& nI 127 = nI (popN x) := by
  rw [lN_of x]
  generalize hn0 : x.toBitVec.toNat = n
  have hn : n < 2 ^ 64 := by rw [← hn0]; exact x.toBitVec.isLt
  rw [popN_lN hn]
  have hPB := y3_PB 8 n (by simpa using hn)
  have hs := pop_sum hPB
  have hlt := PB_lt hPB
  have l1 : n / 2 ^ 1 < 2 ^ 64 := by omega
  have a1 : (n / 2 ^ 1) &&& 6148914691236517205 ≤ n := Nat.le_trans Nat.and_le_left (by omega)
  have e1 : bq1 (lN n) = lN (pg1 8 n) := by
    unfold bq1 pg1
    rw [lsr_lN hn (by decide), show (6148914691236517205 : Int64) = lN 6148914691236517205 from rfl, and_lN l1 (by decide), lN_sub a1, rp85, Nat.pow_one]
  have b1 : pg1 8 n < 2 ^ 64 := Nat.lt_of_le_of_lt (Nat.sub_le _ _) hn
  have b1' : pg1 8 n / 2 ^ 2 < 2 ^ 64 := by omega
  have e2 : bq2 (lN (pg1 8 n)) = lN (pg2 8 (pg1 8 n)) := by
    unfold bq2 pg2
    rw [lsr_lN b1 (by decide), show (3689348814741910323 : Int64) = lN 3689348814741910323 from rfl, and_lN b1 (by decide), and_lN b1' (by decide), lN_add, rp51]
  have c1 : pg2 8 (pg1 8 n) ≤ 3689348814741910323 + 3689348814741910323 := by
    unfold pg2
    rw [rp51]
    exact Nat.add_le_add Nat.and_le_right Nat.and_le_right
  have b2 : pg2 8 (pg1 8 n) < 2 ^ 63 := by omega
  have e3 : bq3 (lN (pg2 8 (pg1 8 n))) = lN (y3 8 n) := by
    unfold bq3 y3 pg3
    rw [lsr_lN (by omega) (by decide), lN_add, show (1085102592571150095 : Int64) = lN 1085102592571150095 from rfl, and_lN (by omega) (by decide), rp15, show (2 : Nat) ^ 4 = 16 from rfl]
  generalize hy : y3 8 n = y at hs hlt e3
  have e4 : bq4 (lN y) = lN (y + y / 256) := by unfold bq4; rw [lsr_lN (by omega) (by decide), lN_add]
  have e5 : bq5 (lN (y + y / 256)) = lN (y + y / 256 + (y + y / 256) / 65536) := by unfold bq5; rw [lsr_lN (by omega) (by decide), lN_add]
  have e6 : bq6 (lN (y + y / 256 + (y + y / 256) / 65536)) = lN (y + y / 256 + (y + y / 256) / 65536 + (y + y / 256 + (y + y / 256) / 65536) / 4294967296) := by unfold bq6; rw [lsr_lN (by omega) (by decide), lN_add]
  rw [e1, e2, e3, e4, e5, e6, lN_i]
  rw [show (127 : Nat) = 2 ^ 7 - 1 from rfl]
  have hx : ∀ m : Nat, nI m &&& nI (2 ^ 7 - 1) = nI (m % 128) := by
    intro m
    have e : nI m = nI (m % 2 ^ 32) := by
      apply Int32.toBitVec_inj.mp
      apply BitVec.eq_of_toNat_eq
      show (BitVec.ofNat 32 m).toNat = (BitVec.ofNat 32 (m % 2 ^ 32)).toNat
      rw [BitVec.toNat_ofNat, BitVec.toNat_ofNat, Nat.mod_mod]
    rw [e, pk_andN (by omega) 7 (by decide)]
    congr 1
    omega
  rw [hx, hs.2]
theorem popN_le (x : Int64) : popN x ≤ 64 := by
  have key : ∀ (p : Nat → Bool) n, ctB p n ≤ n := by
    intro p n
    induction n with
    | zero => exact Nat.le_refl _
    | succ n ih => rw [ctB]; split <;> omega
  exact key _ 64
theorem ctB_z {p : Nat → Bool} : ∀ n, ctB p n = 0 → ∀ k, k < n → p k = false
  | 0, _, k, hk => absurd hk (Nat.not_lt_zero _)
  | n + 1, h, k, hk => by
    rw [ctB] at h
    by_cases e : p n = true
    · rw [if_pos e] at h; omega
    · rw [if_neg e] at h
      by_cases ek : k = n
      · subst ek
        cases hp : p k
        · rfl
        · exact absurd hp e
      · exact ctB_z n (by omega) k (by omega)
theorem popN_pos {x : Int64} (h : ¬ x = 0) : 0 < popN x := by
  rcases Nat.eq_zero_or_pos (popN x) with q | q
  · exfalso
    apply h
    have hn : x.toBitVec.toNat < 2 ^ 64 := x.toBitVec.isLt
    rw [lN_of x, popN_lN hn] at q
    have hz : x.toBitVec.toNat = 0 := by
      apply Nat.eq_of_testBit_eq
      intro i
      rw [Nat.zero_testBit]
      by_cases hi : i < 64
      · exact ctB_z 64 q i hi
      · exact Nat.testBit_lt_two_pow (Nat.lt_of_lt_of_le hn (Nat.pow_le_pow_right (by decide) (by omega)))
    rw [lN_of x, hz]; rfl
  · exact q
def aBars (S : sS) (l : Int32) : Int32 := if ix l (S 18 0) = true then nI (popN (sBars S (nx l))) else -1
def aWeighs (S : sS) (l : Int32) : Int32 := if ix l (S 18 0) = true then if sKn S (nx l) (S 19 0) = true then nI (popN (sFree S (S 12 (nx l)) (S 19 0) (nI (nx l)))) - nI (popN (sFree S (S 12 (nx l)) (S 19 0) (-1))) else -1 else -1
def aShare (S : sS) (p day q : Int32) : Int32 := if ix p (S 7 0) = true then if ix day 400 = true then if ix q 2 = true then if sKept S (nx p) (S 19 0) = 0 then -1 else nI (popN (sYes S (nx p) (sKept S (nx p) (S 19 0)) (nx day) (nx q)) * 1000 / popN (sKept S (nx p) (S 19 0))) else -1 else -1 else -1
