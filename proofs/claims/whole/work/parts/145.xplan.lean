/-! plans of the class -/
theorem and_HB {S : sS} {p : Nat} {x y : Int64} {day h : Nat} (hyx : ∀ m, m < 64 → hasB y m = true → hasB x m = true) : y &&& sHB S p x day h = sHB S p y day h := by
  apply hasB_ext
  intro k hk
  rw [hasB_and _ _ hk, hasB_HB hk, hasB_HB hk]
  cases a : hasB y k
  · rfl
  · rw [hyx k hk a]; simp
theorem and_left {S : sS} {p : Nat} {x y : Int64} {day er m : Nat} (hyx : ∀ m, m < 64 → hasB y m = true → hasB x m = true) : y &&& sLeft S p x day er m = sLeft S p y day er m := by
  apply hasB_ext
  intro k hk
  rw [hasB_and _ _ hk, hasB_left hk, hasB_left hk]
  cases a : hasB y k
  · rfl
  · rw [hyx k hk a]; simp
/-- what a sight leaves of y -/
def lfE (S : sS) (p er : Nat) (y : Int64) (day r : Nat) (lf : Int64) : Prop := (sHB S p y day (sHole S p r day) = 0 ∧ lf = 0) ∨ (¬ sHB S p y day (sHole S p r day) = 0 ∧ lf = sLeft S p y day er r)
theorem sub_of {a b : Int64} (h : a &&& (b ^^^ (-1)) = 0) : ∀ m, m < 64 → hasB a m = true → hasB b m = true := by
  intro m hm ha
  have := hasB_zero m hm
  rw [← h, hasB_and _ _ hm, hasB_not _ hm, ha, Bool.true_and] at this
  cases e : hasB b m
  · rw [e] at this; cases this
  · rfl
theorem lfE.mem {S : sS} {p er : Nat} {y : Int64} {day r m : Nat} {lf : Int64} (h : lfE S p er y day r lf) (hm : m < 64) (hb : hasB y m = true) (hh : sHole S p m day = sHole S p r day) : lf = sLeft S p y day er m := by
  rcases h with q | q
  · exfalso
    have := hasB_zero m hm
    rw [← q.1, hasB_HB hm, hb, decide_eq_true hh] at this; cases this
  · rw [q.2, left_hole hh]
theorem lfE.ex {S : sS} {p er : Nat} {y : Int64} {day r : Nat} {lf : Int64} (h : lfE S p er y day r lf) (hn : ¬ lf = 0) : ∃ m, m < 64 ∧ hasB y m = true ∧ lf = sLeft S p y day er m := by
  rcases h with q | q
  · exact absurd q.2 hn
  · obtain ⟨m, hm, hb, hh⟩ := HB_ex q.1
    exact ⟨m, hm, hb, by rw [q.2, left_hole hh]⟩
def WB (S : sS) (p er : Nat) (y : Int64) (day : Nat) (f : Int64 → Nat) (rep : Nat → Nat) (fl en i w : Nat) (bf : Int64) : Prop := fl ≤ w ∧ w ≤ max fl (min en (wvL S p y day er f 64)) ∧ (∀ j, j < i → ∀ m, m < 64 → hasB y m = true → sHole S p (rep j) day = sHole S p m day → min en (f (sLeft S p y day er m)) ≤ w) ∧ (bf = 0 ∨ min en (f bf) ≤ w)
theorem WB.start (S : sS) (p er : Nat) (y : Int64) (day : Nat) (f : Int64 → Nat) (rep : Nat → Nat) (fl en : Nat) : WB S p er y day f rep fl en 0 fl 0 := ⟨Nat.le_refl _, Nat.le_max_left _ _, fun _ h => absurd h (Nat.not_lt_zero _), Or.inl rfl⟩
theorem WB.skip {S : sS} {p er : Nat} {y : Int64} {day : Nat} {f : Int64 → Nat} {rep : Nat → Nat} {fl en i w : Nat} {bf lf : Int64} (h : WB S p er y day f rep fl en i w bf) (hf : ∀ {a b : Int64}, (∀ m, m < 64 → hasB a m = true → hasB b m = true) → f a ≤ f b) (hl : lfE S p er y day (rep i) lf) (hs : lf &&& (bf ^^^ (-1)) = 0) : WB S p er y day f rep fl en (i + 1) w bf := by
  obtain ⟨h1, h2, h3, h4⟩ := h
  refine ⟨h1, h2, fun j hj m hm hb hh => ?_, h4⟩
  by_cases e : j = i
  · subst e
    have hsub := sub_of hs
    have el := hl.mem hm hb hh.symm
    rcases h4 with q | q
    · exfalso
      have h5 := hsub m hm (by rw [el]; exact left_self hm hb)
      rw [q, hasB_zero m hm] at h5; cases h5
    · have := hf hsub
      rw [el] at this
      omega
  · exact h3 j (by omega) m hm hb hh
theorem WB.look {S : sS} {p er : Nat} {y : Int64} {day : Nat} {f : Int64 → Nat} {rep : Nat → Nat} {fl en i w r : Nat} {bf lf : Int64} (h : WB S p er y day f rep fl en i w bf) (hl : lfE S p er y day (rep i) lf) (hn : ¬ lf = 0) (hr : max w r = max w (min en (f lf))) : WB S p er y day f rep fl en (i + 1) (max w r) lf := by
  obtain ⟨h1, h2, h3, h4⟩ := h
  obtain ⟨m0, hm0, hb0, e0⟩ := hl.ex hn
  have hub := wvL_ub (S := S) (p := p) (day := day) (er := er) (f := f) hb0 64 hm0
  rw [← e0] at hub
  refine ⟨by omega, by omega, fun j hj m hm hb hh => ?_, Or.inr (by omega)⟩
  by_cases e : j = i
  · subst e
    have el := hl.mem hm hb hh.symm
    rw [← el]; omega
  · have := h3 j (by omega) m hm hb hh; omega
theorem WB.end {S : sS} {p er : Nat} {y : Int64} {day : Nat} {f : Int64 → Nat} {rep : Nat → Nat} {fl en i w c : Nat} {bf : Int64} (h : WB S p er y day f rep fl en i w bf) (hcov : ∀ m, m < 64 → hasB y m = true → ∃ j, j < c ∧ sHole S p (rep j) day = sHole S p m day) (he : c ≤ i ∨ en ≤ w) : w = max fl (min en (wvL S p y day er f 64)) := by
  obtain ⟨h1, h2, h3, h4⟩ := h
  have key : min en (wvL S p y day er f 64) ≤ w := by
    rcases he with q | q
    · by_cases hc : en ≤ w
      · omega
      · have : wvL S p y day er f 64 ≤ w := wvL_max 64 (fun m hm hb => by
          obtain ⟨j, hj, hr⟩ := hcov m hm hb
          have := h3 j (by omega) m hm hb hr
          omega)
        omega
    · omega
  omega
theorem lw_step {fl le en m b : Nat} (h : max fl le = max fl (min en m)) (hle : fl < le) : max fl (min le (max fl (min le b))) = max fl (min en (min m b)) := by omega
theorem minL_anti (g : Nat → Nat) (v : Nat) {i : Nat} : ∀ j, i ≤ j → minL g v j ≤ minL g v i
  | 0, h => by rw [show i = 0 by omega]; exact Nat.le_refl _
  | j + 1, h => by
    by_cases e : i = j + 1
    · rw [e]; exact Nat.le_refl _
    · have := minL_anti g v (i := i) j (by omega)
      rw [minL]; omega
theorem bhV_pos (S : sS) (p er : Nat) (dy : Nat → Nat) (n k : Nat) {x : Int64} (hx : ¬ x = 0) (i : Nat) : 1 ≤ bhV S p er dy n k x i := by
  obtain ⟨m, hm, hb⟩ := hasB_nz hx
  exact Nat.le_trans (plV_pos S p er dy n k _ _ (popN_has hm (left_self hm hb))) (wvL_ub (f := fun y => plV S p er dy n k y (i + 1)) hb 64 hm)
theorem plB_stop {S : sS} {p er : Nat} {dy : Nat → Nat} {n k : Nat} {x : Int64} (hx : ¬ x = 0) {i : Nat} (h : (plB S p er dy n k x i).1 ≤ 1) : ∀ j, i ≤ j → plB S p er dy n k x j = plB S p er dy n k x i
  | 0, hj => by rw [show i = 0 by omega]
  | j + 1, hj => by
    by_cases e : i = j + 1
    · rw [e]
    · have ih := plB_stop hx h j (by omega)
      have h1 := bhV_pos S p er dy n k hx j
      rw [plB, ih, if_neg (by omega)]
/-- where the plan begins -/
def FS (dy : Nat → Nat) (n : Nat) (v : Int32) (q : Int32) : Prop := (v = -1 ∧ q = -1) ∨ ∃ s, s < n ∧ v = nI s ∧ q = nI (dy s)
/-- settling: all sights so far -/
def SW (S : sS) (p er : Nat) (y : Int64) (day : Nat) (f : Int64 → Bool) (rep : Nat → Nat) (i : Nat) (bf : Int64) : Prop := (∀ j, j < i → ∀ m, m < 64 → hasB y m = true → sHole S p (rep j) day = sHole S p m day → f (sLeft S p y day er m) = true) ∧ (bf = 0 ∨ f bf = true)
theorem SW.skip {S : sS} {p er : Nat} {y : Int64} {day : Nat} {f : Int64 → Bool} {rep : Nat → Nat} {i : Nat} {bf lf : Int64} (h : SW S p er y day f rep i bf) (hf : ∀ {a b : Int64}, (∀ m, m < 64 → hasB a m = true → hasB b m = true) → f b = true → f a = true) (hl : lfE S p er y day (rep i) lf) (hs : lf &&& (bf ^^^ (-1)) = 0) : SW S p er y day f rep (i + 1) bf := by
  obtain ⟨h3, h4⟩ := h
  refine ⟨fun j hj m hm hb hh => ?_, h4⟩
  by_cases e : j = i
  · subst e
    have hsub := sub_of hs
    have el := hl.mem hm hb hh.symm
    rcases h4 with q | q
    · exfalso
      have h5 := hsub m hm (by rw [el]; exact left_self hm hb)
      rw [q, hasB_zero m hm] at h5; cases h5
    · rw [← el]; exact hf hsub q
  · exact h3 j (by omega) m hm hb hh
theorem SW.look {S : sS} {p er : Nat} {y : Int64} {day : Nat} {f : Int64 → Bool} {rep : Nat → Nat} {i : Nat} {bf lf : Int64} (h : SW S p er y day f rep i bf) (hl : lfE S p er y day (rep i) lf) (hr : f lf = true) : SW S p er y day f rep (i + 1) lf := by
  refine ⟨fun j hj m hm hb hh => ?_, Or.inr hr⟩
  by_cases e : j = i
  · subst e; rw [← hl.mem hm hb hh.symm]; exact hr
  · exact h.1 j (by omega) m hm hb hh
theorem st_alt {ys x : Int64} : x &&& (ys ^^^ (-1)) = 0 ↔ x &&& ys = x := by
  constructor
  · intro h
    have hs := sub_of h
    apply hasB_ext
    intro k hk
    rw [hasB_and _ _ hk]
    cases a : hasB x k
    · rfl
    · rw [hs k hk a]; rfl
  · intro h
    apply hasB_z
    intro k hk
    rw [hasB_and _ _ hk, hasB_not _ hk]
    cases a : hasB x k
    · rfl
    · rw [← h, hasB_and _ _ hk, Bool.and_eq_true] at a
      rw [a.2]; rfl
theorem and_nz {a b : Int64} (h : ¬ a &&& b = 0) : ¬ a = 0 := by
  rintro rfl
  exact h (hasB_z (fun k hk => by rw [hasB_and _ _ hk, hasB_zero k hk, Bool.false_and]))
theorem isRow_eq {S : sS} {p a b n er : Int32} : isPl S p a b n er = (ix p (S 7 0) && ((ix a 400 && (rx b 1 50 && (rx n 1 6 && decide (dyF (nx a) (nx b) (nx n - 1) < 400)))) && ix er 51)) := by
  unfold isPl
  cases ix p (S 7 0) <;> cases ix a 400 <;> cases rx b 1 50 <;> cases rx n 1 6 <;> cases decide (dyF (nx a) (nx b) (nx n - 1) < 400) <;> cases ix er 51 <;> rfl
def isRw (a b n : Int32) : Bool := ix a 400 && (rx b 1 50 && (rx n 1 6 && decide (dyF (nx a) (nx b) (nx n - 1) < 400)))
theorem isRw_t {a b n : Int32} (h : isRw a b n = true) : ∃ a' b' n' : Nat, a' < 400 ∧ 1 ≤ b' ∧ b' ≤ 50 ∧ 1 ≤ n' ∧ n' ≤ 6 ∧ dyF a' b' (n' - 1) < 400 ∧ a = nI a' ∧ b = nI b' ∧ n = nI n' := by
  unfold isRw at h
  rw [Bool.and_eq_true, Bool.and_eq_true, Bool.and_eq_true] at h
  obtain ⟨h2, h3, h4, h5⟩ := h
  obtain ⟨a', g2, rfl⟩ := ix_t h2 (by decide)
  obtain ⟨b', g3, g4, rfl⟩ := rx_t h3 (by decide)
  obtain ⟨n', g5, g6, rfl⟩ := rx_t h4 (by decide)
  have h5 := of_decide_eq_true h5
  rw [nx_nI (by omega), nx_nI (by omega), nx_nI (by omega)] at h5
  exact ⟨a', b', n', g2, g3, g4, g5, g6, h5, rfl, rfl, rfl⟩
/-- all slots of a plan stand -/
def AL (S : sS) (p er : Nat) (x : Int64) (dy : Nat → Nat) (n : Nat) (d : kD) : Prop := d.1 16 0 5 = nI n ∧ ∀ s, s < n → SL S p er x (dy s) s d
theorem AL.uI6 {S : sS} {p er : Nat} {x : Int64} {dy : Nat → Nat} {n : Nat} {d : kD} (h : AL S p er x dy n d) (v : Int32) : AL S p er x dy n (uI d 16 0 6 v) := ⟨by rw [uI_f _ _ _ _ (by decide)]; exact h.1, fun s hs => (h.2 s hs).fr (by rw [uI_k _ _ _ _ (by decide)]) (fun _ _ => ⟨rfl, rfl⟩)⟩
theorem AL.w {S : sS} {p er : Nat} {x : Int64} {dy : Nat → Nat} {n : Nat} {d d1 : kD} (h : AL S p er x dy n d) (hf : Fr IW J0 d d1) : AL S p er x dy n d1 := ⟨by rw [hf.1 16 0 5 rfl]; exact h.1, fun s hs => (h.2 s hs).fr (hf.1 19 0 s rfl) (fun _ _ => ⟨hf.2.1 _ _ _ rfl, hf.2.1 _ _ _ rfl⟩)⟩
theorem lf_sub {S : sS} {p er : Nat} {x y : Int64} {day r : Nat} {lf : Int64} (h : lfE S p er y day r lf) (hyx : ∀ m, m < 64 → hasB y m = true → hasB x m = true) : ∀ m, m < 64 → hasB lf m = true → hasB x m = true := by
  intro m hm hb
  rcases h with q | q
  · rw [q.2, hasB_zero m hm] at hb; cases hb
  · rw [q.2, hasB_left hm, Bool.and_eq_true] at hb
    exact hyx m hm hb.1
theorem rx_no {b : Int32} {a : Nat} (h : ix b 400 = false) : rx b a 399 = false := by
  have h := of_decide_eq_false h
  exact decide_eq_false (fun q => h (by omega))
theorem nx_lt {S : sS} {p : Nat} {x : Int64} {er a le dy w : Nat} (hle : le = (nxL S p x er a (dy - a)).1) (hw : le ≤ w) (hwl : w ≤ 64) : a < dy := by
  rcases Nat.lt_or_ge a dy with q | q
  · exact q
  · rw [show dy - a = 0 by omega] at hle
    have : (nxL S p x er a 0).1 = 65 := rfl
    omega
theorem nx_lt3 {S : sS} {p : Nat} {x : Int64} {er a le dy : Nat} (hle : le = (nxL S p x er a (dy - a)).1) (hw : le ≤ 1) : a < dy := nx_lt (w := 1) hle hw (by omega)
theorem AL.add {S : sS} {p er : Nat} {x : Int64} {dy : Nat → Nat} {n : Nat} {d d1 : kD} (h : AL S p er x dy n d) (hs : d1.1 16 0 5 = nI (n + 1)) (hl : SL S p er x (dy n) n d1) (ho : OL n d d1) : AL S p er x dy (n + 1) d1 := ⟨hs, fun s hs => by
  by_cases e : s = n
  · subst e; exact hl
  · exact (h.2 s (by omega)).old (by omega) ho⟩
theorem FS.none {dy : Nat → Nat} {n : Nat} {v q : Int32} (h : FS dy n v q) (hn : n ≤ 6) (hv : v = -1) : -1 = q := by
  rcases h with z | ⟨s, h1, h2, h3⟩
  · exact z.2.symm
  · rw [hv] at h2; exact absurd h2.symm (nI_ne_m1 (by omega))
theorem FS.some {a b n : Nat} {v q : Int32} (h : FS (dyF a b) n v q) (hv : ¬ v = -1) : nI a + nI b * v = q := by
  rcases h with z | ⟨s, h1, h2, h3⟩
  · exact absurd z.1 hv
  · rw [h2, h3, pk_mul, nI_add]; rfl
theorem isPl_rw {S : sS} {p a b n er : Int32} : isPl S p a b n er = (ix p (S 7 0) && (isRw a b n && ix er 51)) := isRow_eq
theorem sb_no {S : sS} {p er : Nat} {dy : Nat → Nat} {n : Nat} {ys : Int64} {k : Nat} {y : Int64} {s r : Nat} {lf : Int64} (hl : lfE S p er y (dy s) r lf) (hn : ¬ lf = 0) (h : stV S p er dy n ys k lf (s + 1) = false) : sbV S p er dy n ys k y s = false := by
  obtain ⟨m, hm, hb, e⟩ := hl.ex hn
  cases q : sbV S p er dy n ys k y s
  · rfl
  · unfold sbV at q
    have := (allL_t 64).mp q m hm
    rw [hb, ← e, h] at this; cases this
theorem sb_yes {S : sS} {p er : Nat} {dy : Nat → Nat} {n : Nat} {ys : Int64} {k : Nat} {y : Int64} {s : Nat} {rep : Nat → Nat} {i c : Nat} {bf : Int64} (h : SW S p er y (dy s) (fun z => stV S p er dy n ys k z (s + 1)) rep i bf) (hcov : ∀ m, m < 64 → hasB y m = true → ∃ j, j < c ∧ sHole S p (rep j) (dy s) = sHole S p m (dy s)) (hc : c ≤ i) : sbV S p er dy n ys k y s = true := by
  unfold sbV
  rw [allL_t]
  intro m hm
  cases hb : hasB y m
  · rfl
  · obtain ⟨j, hj, hr⟩ := hcov m hm hb
    rw [Bool.not_true, Bool.false_or]
    exact h.1 j (by omega) m hm hb hr
