/-! days of a bridge, as the class keeps them -/
theorem XX.uIk {cA : Nat → ClassId} {ad : kA} {S : sS} {d0 d : kD} (h : XX cA ad S d0 d) (k i f : Nat) (v : Int32) (hk : 22 ≤ k ∧ k < 28) : XX cA ad S d0 (uI d k i f v) :=
  ⟨h.1.cg ((Fr.refl IX JX d).stI k i f v (decide_eq_true (by omega))) (fun p => by rw [uI_k _ _ _ _ (by omega)]) (fun p f => by rw [uI_k _ _ _ _ (by omega)]) (fun l => by rw [uI_k _ _ _ _ (by omega)]) (fun _ => rfl), h.2.stI k i f v (decide_eq_true (by omega))⟩
theorem br_one (v p : Nat) : ((nI v >>> (nI p &&& 31)) &&& nI 1 = nI 1) ↔ bitI v p = true := by
  obtain ⟨j, hj, e⟩ := pk_andE (nI v >>> (nI p &&& 31)) (m := nI 1) 1 (by decide)
  unfold bitI
  rw [e]
  rcases (show j = 0 ∨ j = 1 by omega) with rfl | rfl <;> decide
theorem twL_br (S : sS) (b day p : Nat) : twL S b day (p + 1) = if brB S b p = true then max (twL S b day p) (sState S p (S 26 p) day) else twL S b day p := by
  rw [twL]
  by_cases c : brB S b p = true
  · rw [if_pos c, if_pos ((br_one _ _).mpr c)]
  · rw [if_neg c, if_neg (fun q => c ((br_one _ _).mp q))]
def WT (S : sS) (b a n : Nat) (d : kD) : Prop := d.1 22 0 2 = nI n ∧ ∀ i, i < n → d.1 23 0 i = nI (opL S b (a + i) (S 7 0)) ∧ d.1 24 0 i = nI (twL S b (a + i) (S 7 0))
theorem WT.fk {S : sS} {b a n : Nat} {d d1 : kD} (h : WT S b a n d) (hf : Fr IK JK d d1) : WT S b a n d1 := ⟨by rw [hf.1 22 0 2 rfl]; exact h.1, fun i hi => ⟨by rw [hf.1 23 0 i rfl]; exact (h.2 i hi).1, by rw [hf.1 24 0 i rfl]; exact (h.2 i hi).2⟩⟩
theorem WT.k {S : sS} {b a n : Nat} {d : kD} (h : WT S b a n d) (k i f : Nat) (v : Int32) (hk : k < 22) : WT S b a n (uI d k i f v) := ⟨by rw [uI_k _ _ _ _ (by omega)]; exact h.1, fun i hi => ⟨by rw [uI_k _ _ _ _ (by omega)]; exact (h.2 i hi).1, by rw [uI_k _ _ _ _ (by omega)]; exact (h.2 i hi).2⟩⟩
theorem WT.add {S : sS} {b a n : Nat} {d : kD} (h : WT S b a n d) {v w : Nat} (hv : v = opL S b (a + n) (S 7 0)) (hw : w = twL S b (a + n) (S 7 0)) : WT S b a (n + 1) (uI (uI (uI d 23 0 n (nI v)) 24 0 n (nI w)) 22 0 2 (nI (n + 1))) := by
  refine ⟨uI_s _ _ _ _ _, fun i hi => ?_⟩
  by_cases e : i = n
  · subst e
    exact ⟨by rw [uI_k _ _ _ _ (by decide), uI_k _ _ _ _ (by decide), uI_s, hv], by rw [uI_k _ _ _ _ (by decide), uI_s, hw]⟩
  · exact ⟨by rw [uI_k _ _ _ _ (by decide), uI_k _ _ _ _ (by decide), uI_f _ _ _ _ e]; exact (h.2 i (by omega)).1, by rw [uI_k _ _ _ _ (by decide), uI_f _ _ _ _ e, uI_k _ _ _ _ (by decide)]; exact (h.2 i (by omega)).2⟩
theorem gd_1 {S : sS} {b sh a k : Nat} (hs : sh ≤ 1000) : (gdL S b sh a (k + 1)).1 = if sh < opL S b (a + k) (S 7 0) then (gdL S b sh a k).1 + 1 else (gdL S b sh a k).1 := by
  rw [gdL, shut_op hs]
  by_cases c : sh < opL S b (a + k) (S 7 0)
  · rw [if_pos c, if_pos (decide_eq_true c)]; split <;> rfl
  · rw [if_neg c, if_neg (by rw [decide_eq_false c]; decide)]; split <;> rfl
theorem gd_2 {S : sS} {b sh a k : Nat} (hs : sh ≤ 1000) : (gdL S b sh a (k + 1)).2.1 = if ¬ sh < opL S b (a + k) (S 7 0) ∧ twL S b (a + k) (S 7 0) = 2 then (gdL S b sh a k).2.1 + 1 else (gdL S b sh a k).2.1 := by
  rw [gdL, shut_op hs]
  by_cases c : sh < opL S b (a + k) (S 7 0)
  · rw [if_neg (show ¬ (¬ sh < opL S b (a + k) (S 7 0) ∧ twL S b (a + k) (S 7 0) = 2) from fun q => q.1 c), if_pos (decide_eq_true c)]; split <;> rfl
  · rw [if_neg (show ¬ decide (sh < opL S b (a + k) (S 7 0)) = true by rw [decide_eq_false c]; decide)]
    by_cases t : twL S b (a + k) (S 7 0) = 2
    · rw [if_pos t, if_pos ⟨c, t⟩]
    · rw [if_neg t, if_neg (fun q => t q.2)]
theorem gd_3 {S : sS} {b sh a k : Nat} (hs : sh ≤ 1000) : (gdL S b sh a (k + 1)).2.2 = if sh < opL S b (a + k) (S 7 0) ∧ twL S b (a + k) (S 7 0) = 0 then (gdL S b sh a k).2.2 + 1 else (gdL S b sh a k).2.2 := by
  rw [gdL, shut_op hs]
  by_cases c : sh < opL S b (a + k) (S 7 0)
  · rw [if_pos (decide_eq_true c)]
    by_cases t : twL S b (a + k) (S 7 0) = 0
    · rw [if_pos t, if_pos ⟨c, t⟩]
    · rw [if_neg t, if_neg (fun q => t q.2)]
  · rw [if_neg (show ¬ decide (sh < opL S b (a + k) (S 7 0)) = true by rw [decide_eq_false c]; decide), if_neg (show ¬ (sh < opL S b (a + k) (S 7 0) ∧ twL S b (a + k) (S 7 0) = 0) from fun q => c q.1)]; split <;> rfl
/-! the best share: the greatest of those that cost least -/
theorem bt_ok (S : sS) (b a z w : Nat) : ∀ n, n ≤ 11 → 1 ≤ n → ∃ J, J < n ∧ btL S b a z w n = (nI (1000 - 100 * J), btS S b a z w J) ∧ (∀ j, j < n → btS S b a z w J ≤ btS S b a z w j) ∧ ∀ j, j < J → btS S b a z w J < btS S b a z w j
  | 0, _, h => by omega
  | n + 1, hn, _ => by
    rcases Nat.eq_zero_or_pos n with q | q
    · subst q
      refine ⟨0, by omega, by rw [btL, if_pos (show (btL S b a z w 0).1 = -1 ∨ _ from Or.inl rfl)], fun j hj => by rw [show j = 0 by omega]; exact Nat.le_refl _, fun j hj => absurd hj (Nat.not_lt_zero _)⟩
    · obtain ⟨J, h1, h2, h3, h4⟩ := bt_ok S b a z w n (by omega) q
      have hne : ¬ (btL S b a z w n).1 = -1 := by rw [h2]; exact nI_ne_m1 (by omega)
      have e2 : (btL S b a z w n).2 = btS S b a z w J := by rw [h2]
      by_cases c : btS S b a z w n < btS S b a z w J
      · refine ⟨n, by omega, by rw [btL, if_pos (Or.inr (by rw [e2]; exact c))], fun j hj => ?_, fun j hj => ?_⟩
        · rcases Nat.lt_or_ge j n with r | r
          · have := h3 j r; omega
          · rw [show j = n by omega]; exact Nat.le_refl _
        · have := h3 j hj; omega
      · refine ⟨J, by omega, by rw [btL, if_neg (fun r => r.elim hne (fun s => c (by rw [e2] at s; exact s)))]; exact h2, fun j hj => ?_, h4⟩
        rcases Nat.lt_or_ge j n with r | r
        · exact h3 j r
        · rw [show j = n by omega]; omega
def BS (S : sS) (b a z w i bs le : Nat) : Prop := (i = 0 ∧ bs = 0 ∧ le = 0) ∨ ∃ t, t < i ∧ bs = 100 * t ∧ le = btS S b a z w (10 - t) ∧ (∀ u, u < i → le ≤ btS S b a z w (10 - u)) ∧ ∀ u, t < u → u < i → le < btS S b a z w (10 - u)
theorem BS.yes {S : sS} {b a z w i bs le : Nat} (h : BS S b a z w i bs le) (hc : i = 0 ∨ btS S b a z w (10 - i) ≤ le) : BS S b a z w (i + 1) (100 * i) (btS S b a z w (10 - i)) := by
  refine Or.inr ⟨i, by omega, rfl, rfl, fun u hu => ?_, fun u h1 h2 => by omega⟩
  rcases Nat.lt_or_ge u i with q | q
  · rcases h with r | ⟨t, h1, h2, h3, h4, h5⟩
    · omega
    · have := h4 u q; omega
  · rw [show u = i by omega]; exact Nat.le_refl _
theorem BS.no {S : sS} {b a z w i bs le : Nat} (h : BS S b a z w i bs le) (h0 : ¬ i = 0) (hc : le < btS S b a z w (10 - i)) : BS S b a z w (i + 1) bs le := by
  rcases h with r | ⟨t, h1, h2, h3, h4, h5⟩
  · omega
  · refine Or.inr ⟨t, by omega, h2, h3, fun u hu => ?_, fun u g1 g2 => ?_⟩
    · rcases Nat.lt_or_ge u i with q | q
      · exact h4 u q
      · rw [show u = i by omega]; omega
    · rcases Nat.lt_or_ge u i with q | q
      · exact h5 u g1 q
      · rw [show u = i by omega]; exact hc
theorem BS.end {S : sS} {b a z w bs le : Nat} (h : BS S b a z w 11 bs le) : btL S b a z w 11 = (nI bs, le) := by
  rcases h with r | ⟨t, h1, h2, h3, h4, h5⟩
  · omega
  · obtain ⟨J, g1, g2, g3, g4⟩ := bt_ok S b a z w 11 (Nat.le_refl _) (by omega)
    have e : J = 10 - t := by
      rcases Nat.lt_trichotomy J (10 - t) with q | q | q
      · have a1 := h5 (10 - J) (by omega) (by omega)
        have a2 := g3 (10 - t) (by omega)
        rw [show 10 - (10 - J) = J by omega] at a1
        omega
      · exact q
      · have a1 := g4 (10 - t) q
        have a2 := h4 (10 - J) (by omega)
        rw [show 10 - (10 - J) = J by omega] at a2
        omega
    rw [g2, e, h3, h2, show 1000 - 100 * (10 - t) = 100 * t by omega]
theorem BS.le {S : sS} {b a z w i bs le : Nat} (h : BS S b a z w i bs le) (hG : sG S) (hb : b < 4) (hw : w < 10000) (hz : z < a + 60) : le ≤ 999 * 60 + 9999 * 60 ∧ bs ≤ 100 * i := by
  rcases h with r | ⟨t, h1, h2, h3, h4, h5⟩
  · omega
  · have := btS_le hG (b := b) (a := a) (z := z) (w := w) (j := 10 - t) hb hw hz
    omega
/-! works -/
def lkI (S : sS) (p day : Nat) (x : Int64) : Int32 := if x = 0 then nI 1001 else nI (gEv S p day x 64) - nI (S 5 p) - nI (S 6 p)
theorem dp_gEv {S : sS} (hG : sG S) {p : Nat} (hp : p < 8) (day : Nat) (x : Int64) : ∀ m, (dpL S p day x m = -1 ∧ gEv S p day x m = 0 ∧ ∀ k, k < m → hasB x k = false) ∨ (dpL S p day x m = nI (gEv S p day x m) ∧ ∃ k, k < m ∧ hasB x k = true)
  | 0 => Or.inl ⟨rfl, rfl, fun _ h => absurd h (Nat.not_lt_zero _)⟩
  | m + 1 => by
    have hev : sEver S p m day ≤ 200 := (sHE_le hG hp (day + 1)).2
    have hge := gEv_le hG hp day x m
    rw [dpL, gEv]
    by_cases q : hasB x m = true
    · rw [if_pos q, if_pos q]
      right
      refine ⟨?_, m, Nat.lt_succ_self m, q⟩
      rcases dp_gEv hG hp day x m with r | r
      · rw [r.1, r.2.1, if_pos (by
          rw [Int32.lt_iff_toInt_lt, nI_toInt (by omega), show (-1 : Int32).toInt = -1 from by decide]; omega)]
        rw [Nat.max_eq_right (Nat.zero_le _)]
      · rw [r.1, n_max (by omega) (by omega)]
    · rw [if_neg q, if_neg q]
      rcases dp_gEv hG hp day x m with r | r
      · refine Or.inl ⟨r.1, r.2.1, fun k hk => ?_⟩
        by_cases e : k = m
        · subst e
          cases z : hasB x k
          · rfl
          · exact absurd z q
        · exact r.2.2 k (by omega)
      · obtain ⟨k, hk, hb⟩ := r.2
        exact Or.inr ⟨r.1, k, by omega, hb⟩
theorem lk_eq {S : sS} (hG : sG S) {p : Nat} (hp : p < 8) (day b : Nat) {gn : Nat} (hg : gn = adL S b (S 30 0) p) : (lkI S p day (sKept S p (S 19 0)) ≤ nI gn) ↔ suP S b day p = true := by
  have h30 : S 30 0 ≤ 10 := hG.f 30 (mx := 10) (by decide)
  have hal := adL_le hG b (S 30 0) h30 p
  have h5 : S 5 p ≤ 99 := hG.a 5 p (n := 8) (mx := 99) (by decide) hp
  have h6 : S 6 p ≤ 99 := hG.a 6 p (n := 8) (mx := 99) (by decide) hp
  have hge := gEv_le hG hp day (sKept S p (S 19 0)) 64
  unfold suP lkI sDeep
  rw [← hg, decide_eq_true_iff]
  rcases dp_gEv hG hp day (sKept S p (S 19 0)) 64 with r | r
  · have hx : sKept S p (S 19 0) = 0 := hasB_z r.2.2
    rw [r.1, if_pos hx, nI_leI (by omega) (by omega)]
    constructor
    · intro z; omega
    · intro z; exact absurd rfl z.1
  · have hx : ¬ sKept S p (S 19 0) = 0 := by
      intro e
      obtain ⟨k, hk, hb⟩ := r.2
      rw [e, hasB_zero k hk] at hb; cases hb
    rw [r.1, if_neg hx, nI_leI (by omega) (by omega)]
    have e : (nI (gEv S p day (sKept S p (S 19 0)) 64) - nI (S 5 p) - nI (S 6 p)).toInt = (gEv S p day (sKept S p (S 19 0)) 64 : Int) - S 5 p - S 6 p := by
      rw [Int32.toInt_sub, pk_sub_toInt (by omega) (by omega), nI_toInt (by omega)]
      apply Int.bmod_eq_of_le <;> omega
    rw [Int32.le_iff_toInt_le, e, nI_toInt (by omega)]
    constructor
    · intro z; exact ⟨nI_ne_m1 (by omega), by omega⟩
    · intro z; have := z.2; omega
def LA (S : sS) (day n : Nat) (d : kD) : Prop := ∀ q, q < n → d.1 26 0 q = lkI S q day (sKept S q (S 19 0))
theorem LA.st {S : sS} {day n : Nat} {d : kD} (h : LA S day n d) {v : Int32} (hv : v = lkI S n day (sKept S n (S 19 0))) : LA S day (n + 1) (uI d 26 0 n v) := fun q hq => by
  by_cases e : q = n
  · subst e; rw [uI_s, hv]
  · rw [uI_f _ _ _ _ e]; exact h q (by omega)
theorem LA.fw {S : sS} {day n : Nat} {d d1 : kD} (h : LA S day n d) (hf : Fr IW J0 d d1) : LA S day n d1 := fun q hq => by rw [hf.1 26 0 q rfl]; exact h q hq
def GA (g : Nat → Nat) (d : kD) : Prop := ∀ q, q < 8 → d.1 27 0 q = nI (g q)
theorem GA.st {g : Nat → Nat} {d : kD} (h : GA g d) (j v : Nat) : GA (va_up g j v) (uI d 27 0 j (nI v)) := fun q hq => by
  by_cases e : q = j
  · subst e; rw [uI_s]; simp [va_up]
  · rw [uI_f _ _ _ _ e, h q hq]; simp [va_up, e]
theorem ch_eq {su co mo be bc : Nat} {bi : Int32} (hbi : bi = -1 ∨ ∃ n, n ≤ 8 ∧ bi = nI n) (hsu : su ≤ 8) : (bi < nI su ∨ (nI su = bi ∧ co < bc)) ↔ (¬ nI su < bi ∧ ¬ (nI su = bi ∧ bc ≤ co)) := by
  rcases hbi with r | ⟨n, hn, r⟩
  · subst r
    have h1 : (-1 : Int32) < nI su := by rw [Int32.lt_iff_toInt_lt, nI_toInt (by omega), show (-1 : Int32).toInt = -1 from by decide]; omega
    have h2 : ¬ nI su = -1 := nI_ne_m1 (by omega)
    have h3 : ¬ nI su < -1 := by rw [Int32.lt_iff_toInt_lt, nI_toInt (by omega), show (-1 : Int32).toInt = -1 from by decide]; omega
    exact ⟨fun _ => ⟨h3, fun q => h2 q.1⟩, fun _ => Or.inl h1⟩
  · subst r
    rw [nI_ltI (by omega) (by omega), nI_ltI (by omega) (by omega), nI_eq (by omega) (by omega)]
    omega
theorem chL_b {S : sS} (hG : sG S) (mo day : Nat) : ∀ b, (chL S mo day b).1 = -1 ∨ ∃ n, n ≤ 8 ∧ (chL S mo day b).1 = nI n
  | 0 => Or.inl rfl
  | b + 1 => by
    rw [chL]; split
    · have h1 := suL_le S b day (S 7 0)
      have h7 : S 7 0 ≤ 8 := hG.f 7 (mx := 8) (by decide)
      exact Or.inr ⟨suL S b day (S 7 0), by omega, rfl⟩
    · exact chL_b hG mo day b
