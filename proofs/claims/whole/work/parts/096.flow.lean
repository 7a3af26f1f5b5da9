/-! flows -/
def shv (kd : Nat) (v : Int32) : Int32 := if kd = 0 then v.toInt8.toInt32 else if kd = 1 then v.toInt16.toInt32 else v
def clipI (e : Int32) : Int32 := if nI 0 < (if e < nI 99 then e else nI 99) then (if e < nI 99 then e else nI 99) else nI 0
theorem clip_ok (e : Int32) : ∃ j : Nat, j < 100 ∧ clipI e = nI j := by
  apply vp_in_of _ (by decide)
  apply vp_in_iff.mpr
  have e99 : (nI 99).toInt = 99 := by decide
  have e0 : (nI 0).toInt = 0 := by decide
  have key : ∀ t : Int32, t.toInt ≤ 99 → 0 ≤ (if nI 0 < t then t else nI 0).toInt ∧ (if nI 0 < t then t else nI 0).toInt < (100 : Nat) := by
    intro t ht
    by_cases h : nI 0 < t
    · rw [if_pos h]
      rw [Int32.lt_iff_toInt_lt, e0] at h
      omega
    · rw [if_neg h, e0]; omega
  unfold clipI
  apply key
  by_cases h : e < nI 99
  · rw [if_pos h]
    rw [Int32.lt_iff_toInt_lt, e99] at h
    omega
  · rw [if_neg h, e99]; omega
def clip (e : Int32) : Nat := nx (clipI e)
theorem clip_le (e : Int32) : clip e ≤ 99 := by
  obtain ⟨j, hj, h⟩ := clip_ok e
  unfold clip; rw [h, nx_nI (by omega)]; omega
theorem clip_eq (e : Int32) : clipI e = nI (clip e) := by
  obtain ⟨j, hj, h⟩ := clip_ok e
  unfold clip; rw [h, nx_nI (by omega)]
def flw (S : sS) (day kd : Nat) (f st : Int32) : Nat → sS × Int32
  | 0 => (S, f)
  | k + 1 => (if day + k < 400 then upS (flw S day kd f st k).1 0 (day + k) (clip (shv kd (flw S day kd f st k).2)) else (flw S day kd f st k).1, (flw S day kd f st k).2 + st)
theorem flw_n (S : sS) (day kd : Nat) (f st : Int32) {g : Nat} (hg : g ≠ 0) (i : Nat) : ∀ k, (flw S day kd f st k).1 g i = S g i
  | 0 => rfl
  | k + 1 => by
    have h := flw_n S day kd f st hg i k
    show (if day + k < 400 then upS (flw S day kd f st k).1 0 (day + k) _ else (flw S day kd f st k).1) g i = S g i
    split
    · rw [upS_n _ _ (fun q => hg q.1)]; exact h
    · exact h
theorem flw_b {S : sS} (h : sB S) (day kd : Nat) (f st : Int32) : ∀ k, sB (flw S day kd f st k).1
  | 0 => h
  | k + 1 => by
    have h2 := flw_b h day kd f st k
    show sB (if day + k < 400 then upS (flw S day kd f st k).1 0 (day + k) _ else (flw S day kd f st k).1)
    split
    · exact h2.up 0 _ (mx := 99) rfl (clip_le _)
    · exact h2
theorem flw_g {S : sS} (h : sG S) (day kd : Nat) (f st : Int32) (k : Nat) : sG (flw S day kd f st k).1 := by
  refine (flw_b h.b day kd f st k).g ?_
  have e : ∀ g i, g ≠ 0 → (flw S day kd f st k).1 g i = S g i := fun g i hg => flw_n S day kd f st hg i k
  unfold sRl
  simp only [e _ _ (by decide : (1 : Nat) ≠ 0), e _ _ (by decide : (2 : Nat) ≠ 0), e _ _ (by decide : (7 : Nat) ≠ 0), e _ _ (by decide : (8 : Nat) ≠ 0), e _ _ (by decide : (11 : Nat) ≠ 0), e _ _ (by decide : (12 : Nat) ≠ 0), e _ _ (by decide : (18 : Nat) ≠ 0), e _ _ (by decide : (23 : Nat) ≠ 0), e _ _ (by decide : (25 : Nat) ≠ 0), e _ _ (by decide : (27 : Nat) ≠ 0), e _ _ (by decide : (30 : Nat) ≠ 0)]
  exact h.2.2
def aFlows (S : sS) (day kd n f st : Int32) : Int32 := if ix day 400 = true then if ix kd 4 = true then if nI 60 < n then -1 else if nx kd = 3 then -3 else if n < 0 then -2 else n else -1 else -1
def nFlows (S : sS) (day kd n f st : Int32) : sS := if ix day 400 = true then if ix kd 4 = true then if nI 60 < n then S else if nx kd = 3 then S else if n < 0 then S else (flw S (nx day) (nx kd) f st (nx n)).1 else S else S
def FL (d0 d : kD) : Prop := (∀ p, p < 8 → d.1 86 0 p = 0) ∧ (∀ l, l < 40 → d.1 88 0 l = 0) ∧ d.1 81 = d0.1 81 ∧ FrP d0 d
theorem FL.st {d0 d : kD} (h : FL d0 d) (j : Nat) (v : Int32) : FL d0 (uI d 50 0 j v) := ⟨h.1, h.2.1, h.2.2.1, h.2.2.2.stI _ _ _ _ (by omega)⟩
theorem FL.end {S : sS} {sr : Nat → Int32} {d0 d : kD} (h : FL d0 d) (hG : sG S) (hR : RowM S sr d0) {day kd : Nat} {f st : Int32} {k : Nat} (hD : dS (flw S day kd f st k).1 d) : PI (flw S day kd f st k).1 sr d0 d :=
  ⟨InvM.fgt hD (flw_g hG day kd f st k) h.1 h.2.1, fun i hi => by
    rw [flw_n S day kd f st (by decide) 0 k] at hi
    rw [h.2.2.1]; exact hR i hi, h.2.2.2⟩
theorem n_of60 {n : Int32} (h : n ≤ nI 60) (h0 : 0 ≤ n) : ∃ j : Nat, j ≤ 60 ∧ n = nI j := by
  rw [Int32.le_iff_toInt_le] at h h0
  have e60 : (nI 60).toInt = 60 := by decide
  have e0 : (0 : Int32).toInt = 0 := by decide
  obtain ⟨j, hj, rfl⟩ := vp_in_of (x := n) (n := 61) (vp_in_iff.mpr (by omega)) (by decide)
  exact ⟨j, by omega, rfl⟩
/-! a span of days -/
def spn (a b : Int32) : Bool := ix a 400 && (rx b (nx a) 399 && decide (nx b < nx a + 60))
theorem spn_t {a b : Int32} (h : spn a b = true) : ∃ i j : Nat, i < 400 ∧ i ≤ j ∧ j ≤ 399 ∧ j < i + 60 ∧ a = nI i ∧ b = nI j := by
  unfold spn at h
  rw [Bool.and_eq_true, Bool.and_eq_true] at h
  obtain ⟨i, hi, rfl⟩ := ix_t h.1 (by decide)
  rw [nx_nI (by omega)] at h
  obtain ⟨j, hj1, hj2, rfl⟩ := rx_t h.2.1 (by decide)
  rw [nx_nI (by omega)] at h
  exact ⟨i, j, hi, hj1, hj2, of_decide_eq_true h.2.2, rfl, rfl⟩
