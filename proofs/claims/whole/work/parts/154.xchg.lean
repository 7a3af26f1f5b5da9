/-! calls that change the pure state and make nothing -/
theorem InvX.chg {cA : Nat → ClassId} {ad ad' : kA} {S S' : sS} {d d' : kD} (h : InvX cA ad S d) (hA : xAl cA ad' S') (hD : xD S' d') (hG : sG S') (e3 : ∀ p, d'.1 3 p = d.1 3 p) (e7 : ∀ p, d'.1 6 p 7 = d.1 6 p 7) (e8 : ∀ p, d'.1 6 p 8 = d.1 6 p 8) (e6 : ∀ l, d'.1 8 l 6 = d.1 8 l 6) (eJ : ∀ l, d'.2.1 8 l 7 = d.2.1 8 l 7) (h7 : S' 7 0 = S 7 0) (h18 : S' 18 0 = S 18 0) (hs : ∀ p, p < S 7 0 → ∀ m n, sHE S' p m n = sHE S p m n) (hb : ∀ l, l < S 18 0 → S' 12 l = S 12 l ∧ S' 13 l = S 13 l ∧ S' 14 l = S 14 l ∧ S' 15 l = S 15 l) : InvX cA ad' S' d' := by
  refine ⟨⟨hA, hD, hG⟩, fun p hp => ?_, fun l hl => ?_, h.2.2.2.cg (by omega) (fun p _ => e3 p)⟩
  · rw [h7] at hp
    obtain ⟨w, k, a1, a2, a3, a4, a5, a6⟩ := h.2.1 p hp
    exact ⟨w, k, a1, a2, by rw [e7]; exact a3, by rw [e8]; exact a4, fun m hm => by rw [e3, hs p hp]; exact a5 m hm, fun j g1 g2 m hm => by rw [e3, hs p hp]; exact a6 j g1 g2 m hm⟩
  · rw [h18] at hl
    have := h.2.2.1 l hl
    obtain ⟨q1, q2, q3, q4⟩ := hb l hl
    unfold Lk at *
    rw [e6, eJ, sBars_cg q1 q2 q3 q4 (hs _ (h.1.2.2.2.2.2.2.1 l hl))]
    exact this
theorem xD.bed {S : sS} {d : kD} (h : xD S d) (v : Nat) : xD (upS S 1 0 v) (uI d 0 0 13 (nI v)) := by
  obtain ⟨⟨h1, h2, h3⟩, h4, h5, h6, h7, h8, h9, h10, h14, h15⟩ := h
  exact ⟨⟨rfl, h2, h3⟩, h4, fun j hj => by rw [xCt_cg (S := S) (S' := upS S 1 0 v) rfl rfl rfl rfl hj]; exact h5 j hj, fun p hp => ⟨fun f hf => by rw [upS_n _ _ (by omega)]; exact (h6 p hp).1 f hf, (h6 p hp).2⟩, h7, fun l hl f hf => by rw [upS_n _ _ (by omega)]; exact h8 l hl f hf, h9, fun o ho f hf => by rw [upS_n _ _ (by omega)]; exact h10 o ho f hf, h14, h15⟩
theorem xD.asd {S : sS} {d : kD} (h : xD S d) (v : Nat) : xD (upS S 19 0 v) (uI d 0 0 15 (nI v)) := by
  obtain ⟨⟨h1, h2, h3⟩, h4, h5, h6, h7, h8, h9, h10, h14, h15⟩ := h
  exact ⟨⟨h1, h2, rfl⟩, h4, fun j hj => by rw [xCt_cg (S := S) (S' := upS S 19 0 v) rfl rfl rfl rfl hj]; exact h5 j hj, fun p hp => ⟨fun f hf => by rw [upS_n _ _ (by omega)]; exact (h6 p hp).1 f hf, (h6 p hp).2⟩, h7, fun l hl f hf => by rw [upS_n _ _ (by omega)]; exact h8 l hl f hf, h9, fun o ho f hf => by rw [upS_n _ _ (by omega)]; exact h10 o ho f hf, h14, h15⟩
theorem xD.tru {S : sS} {d : kD} (h : xD S d) (p v : Nat) (hp : p < S 7 0) : xD (upS S 26 p v) (uI d 6 p 10 (nI v)) := by
  obtain ⟨⟨h1, h2, h3⟩, h4, h5, h6, h7, h8, h9, h10, h14, h15⟩ := h
  refine ⟨⟨h1, h2, h3⟩, h4, fun j hj => by rw [xCt_cg (S := S) (S' := upS S 26 p v) rfl rfl rfl rfl hj]; exact h5 j hj, fun q hq => ⟨fun f hf => ?_, ?_⟩, h7, fun l hl f hf => by rw [upS_n _ _ (by omega)]; exact h8 l hl f hf, h9, fun o ho f hf => by rw [upS_n _ _ (by omega)]; exact h10 o ho f hf, fun q hq hq2 => ?_, h15⟩
  · rw [upS_n _ _ (by omega), uI_n _ _ (by omega)]; exact (h6 q hq).1 f hf
  · by_cases e : q = p
    · subst e; rw [uI_s, upS_s]
    · rw [uI_n _ _ (by omega), upS_n _ _ (by omega)]; exact (h6 q hq).2
  · have hq3 : S 7 0 ≤ q := hq2
    rw [upS_n _ _ (by omega)]; exact h14 q hq hq3
theorem xD.bck {S : sS} {d : kD} (h : xD S d) (l v : Nat) : xD (upS S 17 l v) (uI d 8 l 5 (nI v)) := by
  obtain ⟨⟨h1, h2, h3⟩, h4, h5, h6, h7, h8, h9, h10, h14, h15⟩ := h
  refine ⟨⟨h1, h2, h3⟩, h4, fun j hj => by rw [xCt_cg (S := S) (S' := upS S 17 l v) rfl rfl rfl rfl hj]; exact h5 j hj, fun p hp => ⟨fun f hf => by rw [upS_n _ _ (by omega)]; exact (h6 p hp).1 f hf, (h6 p hp).2⟩, h7, fun q hq f hf => ?_, h9, fun o ho f hf => by rw [upS_n _ _ (by omega)]; exact h10 o ho f hf, h14, h15⟩
  by_cases e : q = l ∧ f = 4
  · obtain ⟨rfl, rfl⟩ := e
    rw [uI_s, upS_s]
  · rw [uI_n _ _ (by omega), upS_n _ _ (by omega)]; exact h8 q hq f hf
theorem PX.of {cA : Nat → ClassId} {ad : kA} {S' : sS} {sr : Nat → Int32} {S : sS} {d0 d : kD} (h : InvX cA ad S' d) (hR : RowX S sr d) (e32 : S' 32 0 = S 32 0) (e22 : S' 22 0 = S 22 0) (e20 : S' 20 = S 20) (e21 : S' 21 = S 21) (hf : FrX d0 d) : PX cA ad S' sr d0 d :=
  ⟨h, ⟨by rw [e32]; exact hR.1, by rw [e22]; exact hR.2.1, by rw [e20, e21]; exact hR.2.2⟩, hf⟩
theorem RowX.k {S : sS} {sr : Nat → Int32} {d : kD} (h : RowX S sr d) (k i f : Nat) (v : Int32) (hk : k < 11 ∨ 15 < k) : RowX S sr (uI d k i f v) := ⟨h.1.k k i f v (by omega), by rw [uI_k _ _ _ _ (by omega)]; exact h.2.1, fun j hj => ⟨by rw [uI_k _ _ _ _ (by omega)]; exact (h.2.2 j hj).1, by rw [uI_k _ _ _ _ (by omega)]; exact (h.2.2 j hj).2⟩⟩
theorem x_bed {cA : Nat → ClassId} {ad : kA} {S : sS} {sr : Nat → Int32} {d : kD} (hM : InvX cA ad S d) (hR : RowX S sr d) {v : Nat} (hG : sG (upS S 1 0 v)) : PX cA ad (upS S 1 0 v) sr d (uI d 0 0 13 (nI v)) :=
  PX.of (hM.chg (hM.1.1.cg rfl rfl rfl rfl rfl rfl rfl) (hM.1.2.1.bed v) hG (fun _ => rfl) (fun _ => rfl) (fun _ => rfl) (fun _ => rfl) (fun _ => rfl) rfl rfl (fun p _ m n => sHE_cg (S := S) (S' := upS S 1 0 v) rfl rfl rfl rfl rfl rfl rfl m n) (fun _ _ => ⟨rfl, rfl, rfl, rfl⟩)) (hR.k _ _ _ _ (by omega)) rfl rfl rfl rfl ((FrX.refl d).stI _ _ _ _ (by decide))
theorem x_as {cA : Nat → ClassId} {ad : kA} {S : sS} {sr : Nat → Int32} {d : kD} (hM : InvX cA ad S d) (hR : RowX S sr d) {v : Nat} (hG : sG (upS S 19 0 v)) : PX cA ad (upS S 19 0 v) sr d (uI d 0 0 15 (nI v)) :=
  PX.of (hM.chg (hM.1.1.cg rfl rfl rfl rfl rfl rfl rfl) (hM.1.2.1.asd v) hG (fun _ => rfl) (fun _ => rfl) (fun _ => rfl) (fun _ => rfl) (fun _ => rfl) rfl rfl (fun p _ m n => sHE_cg (S := S) (S' := upS S 19 0 v) rfl rfl rfl rfl rfl rfl rfl m n) (fun _ _ => ⟨rfl, rfl, rfl, rfl⟩)) (hR.k _ _ _ _ (by omega)) rfl rfl rfl rfl ((FrX.refl d).stI _ _ _ _ (by decide))
theorem x_tru {cA : Nat → ClassId} {ad : kA} {S : sS} {sr : Nat → Int32} {d : kD} (hM : InvX cA ad S d) (hR : RowX S sr d) {p v : Nat} (hp : p < S 7 0) (hG : sG (upS S 26 p v)) : PX cA ad (upS S 26 p v) sr d (uI d 6 p 10 (nI v)) :=
  PX.of (hM.chg (hM.1.1.cg rfl rfl rfl rfl rfl rfl rfl) (hM.1.2.1.tru p v hp) hG (fun _ => rfl) (fun _ => uI_n _ _ (by omega)) (fun _ => uI_n _ _ (by omega)) (fun _ => rfl) (fun _ => rfl) rfl rfl (fun q _ m n => sHE_cg (S := S) (S' := upS S 26 p v) rfl rfl rfl rfl rfl rfl rfl m n) (fun _ _ => ⟨rfl, rfl, rfl, rfl⟩)) (hR.k _ _ _ _ (by omega)) rfl rfl rfl rfl ((FrX.refl d).stI _ _ _ _ (by decide))
theorem x_bck {cA : Nat → ClassId} {ad : kA} {S : sS} {sr : Nat → Int32} {d : kD} (hM : InvX cA ad S d) (hR : RowX S sr d) {l v : Nat} (hG : sG (upS S 17 l v)) : PX cA ad (upS S 17 l v) sr d (uI d 8 l 5 (nI v)) :=
  PX.of (hM.chg (hM.1.1.cg rfl rfl rfl rfl rfl rfl rfl) (hM.1.2.1.bck l v) hG (fun _ => rfl) (fun _ => rfl) (fun _ => rfl) (fun _ => uI_n _ _ (by omega)) (fun _ => rfl) rfl rfl (fun q _ m n => sHE_cg (S := S) (S' := upS S 17 l v) rfl rfl rfl rfl rfl rfl rfl m n) (fun _ _ => ⟨rfl, rfl, rfl, rfl⟩)) (hR.k _ _ _ _ (by omega)) rfl rfl rfl rfl ((FrX.refl d).stI _ _ _ _ (by decide))
theorem x_prv {cA : Nat → ClassId} {ad : kA} {S : sS} {sr : Nat → Int32} {d0 d : kD} (h : XR cA ad S d0 d) (hT : TR (S 32 0) sr d) {c m l : Nat} (hS : SP (upS (upS (upS S 20 c m) 21 c l) 22 0 (c + 1)) d) (hG : sG (upS (upS (upS S 20 c m) 21 c l) 22 0 (c + 1))) : PX cA ad (upS (upS (upS S 20 c m) 21 c l) 22 0 (c + 1)) sr d0 d :=
  ⟨h.1.sgen (fun f h1 h2 h3 _ => by funext i; rw [upS_n _ _ (fun q => h3 q.1), upS_n _ _ (fun q => h2 q.1), upS_n _ _ (fun q => h1 q.1)]) hG, ⟨hT, hS⟩, h.2⟩
/-! stories and looks are forgotten from a day on -/
theorem sHE_pre {S S' : sS} {p m day : Nat} (h : ∀ i, i < day → sGoal S' p m i = sGoal S p m i) : ∀ n, n ≤ day → sHE S' p m n = sHE S p m n
  | 0, _ => rfl
  | n + 1, hn => by rw [sHE, sHE, sHE_pre h n (by omega), h n (by omega)]
/-- what stands before they are forgotten -/
def PF (S : sS) (day : Nat) (d : kD) (p : Nat) : Prop := ∃ w k, w ≤ 400 ∧ k ≤ 10 ∧ d.1 6 p 7 = nI w ∧ d.1 6 p 8 = nI k ∧ Mk S d p (min k (day / 40)) ∧ (w ≤ day → ∀ m, m < 64 → d.1 3 p m = nI (pkd (sHE S p m w)))
def LF (S : sS) (day : Nat) (d : kD) (l : Nat) : Prop := d.1 8 l 6 = 0 ∨ (d.1 8 l 6 = 1 ∧ (S 13 l < day → d.2.1 8 l 7 = sBars S l))
theorem PF.cg {S : sS} {day p q : Nat} {d d1 : kD} (h : PF S day d p) (hF : F1 q d d1) (hq : p ≠ q) : PF S day d1 p := by
  obtain ⟨w, k, a1, a2, a3, a4, a5, a6⟩ := h
  exact ⟨w, k, a1, a2, by rw [hF.1 _ _ _ (by omega)]; exact a3, by rw [hF.1 _ _ _ (by omega)]; exact a4, fun j g1 g2 m hm => by rw [hF.1 _ _ _ (by omega)]; exact a5 j g1 g2 m hm, fun hw m hm => by rw [hF.1 _ _ _ (by omega)]; exact a6 hw m hm⟩
theorem PF.of {S S' : sS} {day p : Nat} {d d' : kD} (h : ∃ w k, Wk S d p w k) (hs : ∀ m n, n ≤ day → sHE S' p m n = sHE S p m n) (e3 : d'.1 3 p = d.1 3 p) (e7 : d'.1 6 p 7 = d.1 6 p 7) (e8 : d'.1 6 p 8 = d.1 6 p 8) : PF S' day d' p := by
  obtain ⟨w, k, a1, a2, a3, a4, a5, a6⟩ := h
  exact ⟨w, k, a1, a2, by rw [e7]; exact a3, by rw [e8]; exact a4, fun j g1 g2 m hm => by rw [e3, hs m (40 * j) (by omega)]; exact a6 j g1 (by omega) m hm, fun hw m hm => by rw [e3, hs m w hw]; exact a5 m hm⟩
theorem LF.of {S S' : sS} {day l : Nat} {d d' : kD} (h : Lk S d l) (hs : ∀ m n, n ≤ day → sHE S' (S 12 l) m n = sHE S (S 12 l) m n) (e12 : S' 12 l = S 12 l) (e13 : S' 13 l = S 13 l) (e14 : S' 14 l = S 14 l) (e15 : S' 15 l = S 15 l) (e6 : d'.1 8 l 6 = d.1 8 l 6) (eJ : d'.2.1 8 l 7 = d.2.1 8 l 7) : LF S' day d' l := by
  rcases h with q | q
  · exact Or.inl (by rw [e6]; exact q)
  · refine Or.inr ⟨by rw [e6]; exact q.1, fun hd => ?_⟩
    rw [eJ, q.2]
    refine sBits_cg 64 (fun m _ => ?_)
    unfold sBar sHole
    rw [e12, e13, e14, e15, hs m _ (by omega)]
def IF (k f : Nat) : Bool := decide (k = 3 ∨ (k = 6 ∧ (f = 7 ∨ f = 8)) ∨ (k = 8 ∧ f = 6))
theorem F1.f {p : Nat} {d d1 : kD} (h : F1 p d d1) : Fr IF J0 d d1 := ⟨fun k i f q => h.1 k i f (fun z => of_decide_eq_false q (by omega)), fun k i f _ => by rw [h.2], by rw [h.2]⟩
theorem Fr.fx {d d1 : kD} (h : Fr IF J0 d d1) : Fr IX JX d d1 := h.mono (fun k f q => decide_eq_false (fun z => of_decide_eq_false q (by omega))) (fun _ _ _ => rfl)
theorem Wk.other {S : sS} {d d1 : kD} {p q w k : Nat} (h : Wk S d q w k) (hF : F1 p d d1) (hq : q ≠ p) : Wk S d1 q w k := h.cg (by funext f; exact hF.1 _ _ _ (by omega)) (hF.1 _ _ _ (by omega)) (hF.1 _ _ _ (by omega))
def lkS (d0 d : kD) (l : Nat) : Prop := d.1 8 l 6 = d0.1 8 l 6 ∧ d.2.1 8 l 7 = d0.2.1 8 l 7
theorem fgt_look {S : sS} {day l : Nat} {d0 d d1 : kD} (h : (S 13 l < day ∧ d = d1) ∨ (day ≤ S 13 l ∧ uI d 8 l 6 (nI 0) = d1)) (hFr : Fr IF J0 d0 d) (hP : ∀ p, p < S 7 0 → ∃ w j, Wk S d p w j) (hL1 : ∀ q, l ≤ q → q < S 18 0 → LF S day d q) (hL2 : ∀ q, q < l → Lk S d q) (hl : l < S 18 0) : Fr IF J0 d0 d1 ∧ (∀ p, p < S 7 0 → ∃ w j, Wk S d1 p w j) ∧ (∀ q, l + 1 ≤ q → q < S 18 0 → LF S day d1 q) ∧ ∀ q, q < l + 1 → Lk S d1 q := by
  rcases h with ⟨h1, rfl⟩ | ⟨h1, rfl⟩
  · refine ⟨hFr, hP, fun q g1 g2 => hL1 q (by omega) g2, fun q hq => ?_⟩
    rcases Nat.lt_or_ge q l with z | z
    · exact hL2 q z
    · have e : q = l := by omega
      subst e
      rcases hL1 q (Nat.le_refl _) hl with r | r
      · exact Or.inl r
      · exact Or.inr ⟨r.1, r.2 h1⟩
  · refine ⟨hFr.stI 8 l 6 _ rfl, fun p hp => ?_, fun q g1 g2 => ?_, fun q hq => ?_⟩
    · obtain ⟨w, j, hw⟩ := hP p hp
      exact ⟨w, j, hw.cg (by rw [uI_k _ _ _ _ (by decide)]) (by rw [uI_k _ _ _ _ (by decide)]) (by rw [uI_k _ _ _ _ (by decide)])⟩
    · have := hL1 q (by omega) g2
      unfold LF at *
      rw [uI_n _ _ (by omega)]; exact this
    · rcases Nat.lt_or_ge q l with z | z
      · have := hL2 q z
        unfold Lk at *
        rw [uI_n _ _ (by omega)]; exact this
      · have e : q = l := by omega
        subst e
        exact Or.inl (uI_s _ _ _ _ _)
theorem xD.flw {S : sS} {d : kD} (h : xD S d) (j v : Nat) : xD (upS S 0 j v) (uI d 1 0 j (nI v)) := by
  obtain ⟨⟨h1, h2, h3⟩, h4, h5, h6, h7, h8, h9, h10, h14, h15⟩ := h
  refine ⟨⟨h1, h2, h3⟩, fun i hi => ?_, fun q hq => by rw [xCt_cg (S := S) (S' := upS S 0 j v) rfl rfl rfl rfl hq]; exact h5 q hq, fun p hp => ⟨fun f hf => by rw [upS_n _ _ (by omega)]; exact (h6 p hp).1 f hf, (h6 p hp).2⟩, h7, fun l hl f hf => by rw [upS_n _ _ (by omega)]; exact h8 l hl f hf, h9, fun o ho f hf => by rw [upS_n _ _ (by omega)]; exact h10 o ho f hf, h14, h15⟩
  by_cases e : i = j
  · subst e; rw [uI_s, upS_s]
  · rw [uI_f _ _ _ _ e, upS_n _ _ (by omega)]; exact h4 i hi
theorem flw_stop {S : sS} {day kd : Nat} {f st : Int32} {k : Nat} (h : 400 ≤ day + k) : ∀ j, k ≤ j → (flw S day kd f st j).1 = (flw S day kd f st k).1
  | 0, hj => by rw [show k = 0 by omega]
  | j + 1, hj => by
    by_cases e : k = j + 1
    · rw [e]
    · have ih := flw_stop (S := S) (kd := kd) (f := f) (st := st) h j (by omega)
      show (if day + j < 400 then upS (flw S day kd f st j).1 0 (day + j) _ else (flw S day kd f st j).1) = _
      rw [if_neg (by omega)]; exact ih
theorem flw_lo (S : sS) (day kd : Nat) (f st : Int32) {i : Nat} (hi : i < day) : ∀ k, (flw S day kd f st k).1 0 i = S 0 i
  | 0 => rfl
  | k + 1 => by
    have ih := flw_lo S day kd f st hi k
    show (if day + k < 400 then upS (flw S day kd f st k).1 0 (day + k) _ else (flw S day kd f st k).1) 0 i = _
    split
    · rw [upS_n _ _ (by omega)]; exact ih
    · exact ih
theorem flw_he (S : sS) (day kd : Nat) (f st : Int32) (k p m : Nat) : ∀ n, n ≤ day → sHE (flw S day kd f st k).1 p m n = sHE S p m n := by
  refine sHE_pre (fun i hi => ?_)
  have e : ∀ g, g ≠ 0 → (flw S day kd f st k).1 g = S g := fun g hg => by funext j; exact flw_n S day kd f st hg j k
  unfold sGoal
  rw [flw_lo S day kd f st hi k, e 4 (by decide), e 11 (by decide), sW_cg (by rw [e 3 (by decide)]) (e 8 (by decide)) (e 9 (by decide)) (e 10 (by decide))]
theorem xfl_al {cA : Nat → ClassId} {ad : kA} {S : sS} (h : xAl cA ad S) (day kd : Nat) (f st : Int32) (k : Nat) : xAl cA ad (flw S day kd f st k).1 := by
  have e : ∀ g, g ≠ 0 → (flw S day kd f st k).1 g = S g := fun g hg => by funext j; exact flw_n S day kd f st hg j k
  exact h.cg (by rw [e 7 (by decide)]) (e 8 (by decide)) (by rw [e 11 (by decide)]) (e 12 (by decide)) (by rw [e 18 (by decide)]) (by rw [e 25 (by decide)]) (by rw [e 30 (by decide)])
theorem xfl_pf {cA : Nat → ClassId} {ad : kA} {S : sS} {d0 d : kD} (hM : InvX cA ad S d0) (hF : FK 1 d0 d) (day kd : Nat) (f st : Int32) (k : Nat) : ∀ p, p < (flw S day kd f st k).1 7 0 → PF (flw S day kd f st k).1 day d p := by
  intro p hp
  rw [flw_n S day kd f st (by decide)] at hp
  exact PF.of (hM.2.1 p hp) (fun m n hn => flw_he S day kd f st k p m n hn) (by funext g; exact hF.1 _ _ _ (by omega)) (hF.1 _ _ _ (by omega)) (hF.1 _ _ _ (by omega))
theorem xfl_lf {cA : Nat → ClassId} {ad : kA} {S : sS} {d0 d : kD} (hM : InvX cA ad S d0) (hF : FK 1 d0 d) (day kd : Nat) (f st : Int32) (k : Nat) : ∀ l, l < (flw S day kd f st k).1 18 0 → LF (flw S day kd f st k).1 day d l := by
  intro l hl
  have e : ∀ g i, g ≠ 0 → (flw S day kd f st k).1 g i = S g i := fun g i hg => flw_n S day kd f st hg i k
  rw [e 18 0 (by decide)] at hl
  exact LF.of (hM.2.2.1 l hl) (fun m n hn => flw_he S day kd f st k _ m n hn) (e _ _ (by decide)) (e _ _ (by decide)) (e _ _ (by decide)) (e _ _ (by decide)) (hF.1 _ _ _ (by omega)) (by rw [hF.2])
theorem xfl_z {cA : Nat → ClassId} {ad : kA} {S : sS} {d0 d : kD} (hM : InvX cA ad S d0) (hF : FK 1 d0 d) (day kd : Nat) (f st : Int32) (k : Nat) : Zr (flw S day kd f st k).1 d :=
  hM.2.2.2.cg (by rw [flw_n S day kd f st (by decide)]; exact Nat.le_refl _) (fun p _ => by funext g; exact hF.1 _ _ _ (by omega))
theorem fgt_z {S : sS} {l dd : Nat} {d d1 : kD} (h : (S 13 l < dd ∧ d = d1) ∨ (dd ≤ S 13 l ∧ uI d 8 l 6 (nI 0) = d1)) (hZ : Zr S d) : Zr S d1 := by
  rcases h with ⟨-, rfl⟩ | ⟨-, rfl⟩
  · exact hZ
  · exact hZ.cg (Nat.le_refl _) (fun p _ => by rw [uI_k _ _ _ _ (by decide)])
theorem xfl_px {cA : Nat → ClassId} {ad : kA} {S : sS} {sr : Nat → Int32} {d0 d d1 : kD} {day kd : Nat} {f st : Int32} {k : Nat} (hM : InvX cA ad (flw S day kd f st k).1 d1) (hR : RowX S sr d0) (hF : FK 1 d0 d) (hFr : Fr IF J0 d d1) : PX cA ad (flw S day kd f st k).1 sr d0 d1 := by
  have e : ∀ g, g ≠ 0 → (flw S day kd f st k).1 g = S g := fun g hg => by funext j; exact flw_n S day kd f st hg j k
  refine PX.of (S := S) hM ⟨TR.fr ⟨by rw [hF.1 _ _ _ (by omega)]; exact hR.1.1, fun i hi => by rw [hF.1 _ _ _ (by omega)]; exact hR.1.2 i hi⟩ hFr.fx, SP.fr ⟨by rw [hF.1 _ _ _ (by omega)]; exact hR.2.1, fun i hi => ⟨by rw [hF.1 _ _ _ (by omega)]; exact (hR.2.2 i hi).1, by rw [hF.1 _ _ _ (by omega)]; exact (hR.2.2 i hi).2⟩⟩ hFr.fx⟩ (by rw [e 32 (by decide)]) (by rw [e 22 (by decide)]) (e 20 (by decide)) (e 21 (by decide)) (FrX.trans ⟨fun k hk => by funext i g; exact hF.1 _ _ _ (by omega), fun k hk => by rw [hF.2], by rw [hF.2]⟩ hFr.fx.frx)
theorem xfl_0 {cA : Nat → ClassId} {ad : kA} {S : sS} {d0 d : kD} (hM : InvX cA ad S d0) (hF : FK 1 d0 d) (hD : xD S d) : InvX cA ad S d :=
  hM.chg hM.1.1 hD hM.1.2.2 (fun p => by funext g; exact hF.1 _ _ _ (by omega)) (fun p => hF.1 _ _ _ (by omega)) (fun p => hF.1 _ _ _ (by omega)) (fun l => hF.1 _ _ _ (by omega)) (fun l => by rw [hF.2]) rfl rfl (fun _ _ _ _ => rfl) (fun _ _ => ⟨rfl, rfl, rfl, rfl⟩)
