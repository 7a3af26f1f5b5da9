/-! looks, and what is kept -/
def bKn (S : sS) (p l m day : Nat) (x : Int64) : Bool := decide (S 12 l = p ∧ sKn S l day = true ∧ hasB x m = true)
theorem xAl.arr {cA : Nat → ClassId} {ad : kA} {S : sS} (h : xAl cA ad S) {j q : Nat} (hj : j < 4) (hq : q < xCt S j) : ad.2 4 j 1 = ad.1 5 j ∧ ad.1 5 j ≠ 0 := by
  rcases (h.ls hj).1 with z | z
  · omega
  · exact ⟨z.2.1, z.1⟩
theorem xAl.cap {cA : Nat → ClassId} {ad : kA} {S : sS} (h : xAl cA ad S) {j q : Nat} (hj : j < 4) (hq : q < xCt S j) : q < ad.2 5 j 100 ∧ ad.2 5 j 100 ≤ 60 := by
  rcases (h.ls hj).1 with z | z
  · omega
  · exact ⟨by omega, z.2.2.2.1⟩
theorem xAl.el {cA : Nat → ClassId} {ad : kA} {S : sS} (h : xAl cA ad S) {j q : Nat} (hj : j < 4) (hq : q < xCt S j) : ad.2 5 j q = ad.1 (xKd j) q ∧ ad.1 (xKd j) q ≠ 0 := ⟨((h.ls hj).2 q hq).2, ((h.ls hj).2 q hq).1⟩
theorem kX_5 (cA : Nat → ClassId) (ad : kA) (d : kD) (i : Nat) : kC cA ad d 5 i = some (.inl (cA 3, ad.2 5 i 100, .inr (.inr (.inr (.inr (fun q => rf (ad.2 5 i q))))))) := rfl
/-- one look is made fresh -/
def F8 (l : Nat) (d0 d : kD) : Prop := (∀ k i f, IW k f = false → ¬ (k = 8 ∧ i = l ∧ f = 6) → d.1 k i f = d0.1 k i f) ∧ (∀ k i f, ¬ (k = 8 ∧ i = l ∧ f = 7) → d.2.1 k i f = d0.2.1 k i f) ∧ d.2.2 = d0.2.2
theorem F8.of1 {l p : Nat} {d0 d : kD} (h : F1 p d0 d) : F8 l d0 d := ⟨fun k i f q _ => h.w.1 k i f q, fun _ _ _ _ => by rw [h.2], by rw [h.2]⟩
theorem F8.uJ7 {l : Nat} {d0 d : kD} (h : F8 l d0 d) (v : Int64) : F8 l d0 (uJ d 8 l 7 v) := by
  refine ⟨h.1, fun k i f q => ?_, h.2.2⟩
  rw [← h.2.1 k i f q]
  show up3 d.2.1 8 l 7 v k i f = _
  by_cases e : k = 8 ∧ i = l
  · obtain ⟨rfl, rfl⟩ := e
    rw [up3_same]
    have : f ≠ 7 := fun z => q ⟨rfl, rfl, z⟩
    simp [va_up, this]
  · rw [up3_ne _ _ _ e]
theorem F8.uI6 {l : Nat} {d0 d : kD} (h : F8 l d0 d) (v : Int32) : F8 l d0 (uI d 8 l 6 v) := by
  refine ⟨fun k i f q q2 => ?_, h.2⟩
  rw [← h.1 k i f q q2]
  show up3 d.1 8 l 6 v k i f = _
  by_cases e : k = 8 ∧ i = l
  · obtain ⟨rfl, rfl⟩ := e
    rw [up3_same]
    have : f ≠ 6 := fun z => q2 ⟨rfl, rfl, z⟩
    simp [va_up, this]
  · rw [up3_ne _ _ _ e]
theorem F8.k {l : Nat} {d0 d : kD} (h : F8 l d0 d) : Fr IK JK d0 d := ⟨fun k i f q => h.1 k i f (IW_IK q) (fun z => of_decide_eq_false q (by omega)), fun k i f q => h.2.1 k i f (fun z => of_decide_eq_false q (by omega)), h.2.2⟩
def XK (cA : Nat → ClassId) (ad : kA) (S : sS) (d0 d : kD) : Prop := InvX cA ad S d ∧ Fr IK JK d0 d
theorem XK.start {cA : Nat → ClassId} {ad : kA} {S : sS} {d : kD} (h : InvX cA ad S d) : XK cA ad S d d := ⟨h, Fr.refl _ _ d⟩
theorem XK.trans {cA : Nat → ClassId} {ad : kA} {S : sS} {d d1 d2 : kD} (h : XK cA ad S d d1) (h2 : XK cA ad S d1 d2) : XK cA ad S d d2 := ⟨h2.1, h.2.trans h2.2⟩
theorem XW.k {cA : Nat → ClassId} {ad : kA} {S : sS} {d d1 : kD} (h : XW cA ad S d d1) : XK cA ad S d d1 := ⟨h.1, h.2.wk⟩
/-- the stores stand while their data do -/
theorem InvX.cg {cA : Nat → ClassId} {ad : kA} {S : sS} {d d1 : kD} (h : InvX cA ad S d) (hx : Fr IX JX d d1) (h3 : ∀ p, d1.1 3 p = d.1 3 p) (h6 : ∀ p f, d1.1 6 p f = d.1 6 p f) (h8 : ∀ l, d1.1 8 l 6 = d.1 8 l 6) (h7 : ∀ l, d1.2.1 8 l 7 = d.2.1 8 l 7) : InvX cA ad S d1 := by
  refine ⟨⟨h.1.1, h.1.2.1.fr hx, h.1.2.2⟩, fun p hp => ?_, fun l hl => ?_, h.2.2.2.cg (Nat.le_refl _) (fun p _ => h3 p)⟩
  · obtain ⟨w, k, hw⟩ := h.2.1 p hp
    exact ⟨w, k, hw.cg (h3 p) (h6 p 7) (h6 p 8)⟩
  · have := h.2.2.1 l hl
    unfold Lk at *
    rw [h8, h7]; exact this
theorem F8.inv {cA : Nat → ClassId} {ad : kA} {S : sS} {l : Nat} {d0 d1 d : kD} (hM : InvX cA ad S d1) (h : F8 l d1 d) (e3 : d.1 3 = d1.1 3) (e6 : d.1 6 = d1.1 6) (h6 : d.1 8 l 6 = 1) (h7 : d.2.1 8 l 7 = sBars S l) : InvX cA ad S d := by
  refine ⟨⟨hM.1.1, hM.1.2.1.fr h.k.kx, hM.1.2.2⟩, fun p hp => ?_, fun q hq => ?_, hM.2.2.2.cg (Nat.le_refl _) (fun p _ => by rw [e3])⟩
  · obtain ⟨w, k, hw⟩ := hM.2.1 p hp
    exact ⟨w, k, hw.cg (by rw [e3]) (by rw [e6]) (by rw [e6])⟩
  · by_cases e : q = l
    · subst e; exact Or.inr ⟨h6, h7⟩
    · have := hM.2.2.1 q hq
      unfold Lk at *
      rw [h.1 8 q 6 rfl (fun z => e z.2.1), h.2.1 8 q 7 (fun z => e z.2.1)]; exact this
/-- while the minds that a look bars are found: below m -/
def FB (S : sS) (l m : Nat) (d1 d : kD) : Prop := d.1 = d1.1 ∧ d.2.2 = d1.2.2 ∧ (∀ k i f, ¬ (k = 8 ∧ i = l ∧ f = 7) → d.2.1 k i f = d1.2.1 k i f) ∧ d.2.1 8 l 7 = sBits (sBar S l) m
theorem FB.set {S : sS} {l m m' : Nat} {d1 d : kD} (h : FB S l m d1 d) {v : Int64} (hv : v = sBits (sBar S l) m') : FB S l m' d1 (uJ d 8 l 7 v) := by
  refine ⟨h.1, h.2.1, fun k i f q => ?_, by rw [uJ_s, hv]⟩
  rw [← h.2.2.1 k i f q]
  show up3 d.2.1 8 l 7 v k i f = _
  by_cases e : k = 8 ∧ i = l
  · obtain ⟨rfl, rfl⟩ := e
    rw [up3_same]
    have : f ≠ 7 := fun z => q ⟨rfl, rfl, z⟩
    simp [va_up, this]
  · rw [up3_ne _ _ _ e]
theorem FB.f8 {S : sS} {l m : Nat} {d1 d : kD} (h : FB S l m d1 d) : F8 l d1 d := ⟨fun k i f _ _ => by rw [h.1], h.2.2.1, h.2.1⟩
theorem FB.start {S : sS} {l : Nat} (d1 : kD) : FB S l 0 d1 (uJ d1 8 l 7 0) := by
  refine ⟨rfl, rfl, fun k i f q => ?_, by rw [uJ_s]; rfl⟩
  show up3 d1.2.1 8 l 7 0 k i f = _
  by_cases e : k = 8 ∧ i = l
  · obtain ⟨rfl, rfl⟩ := e
    rw [up3_same]
    have : f ≠ 7 := fun z => q ⟨rfl, rfl, z⟩
    simp [va_up, this]
  · rw [up3_ne _ _ _ e]
theorem FB.end {cA : Nat → ClassId} {ad : kA} {S : sS} {l p : Nat} {d0 d1 d : kD} (h : FB S l 64 d1 d) (hM : InvX cA ad S d1) (hF : F1 p d0 d1) : InvX cA ad S (uI d 8 l 6 (nI 1)) ∧ (uI d 8 l 6 (nI 1)).1 8 l 6 = 1 ∧ (uI d 8 l 6 (nI 1)).2.1 8 l 7 = sBars S l ∧ F8 l d0 (uI d 8 l 6 (nI 1)) := by
  have h8 : F8 l d1 (uI d 8 l 6 (nI 1)) := h.f8.uI6 _
  have e6 : (uI d 8 l 6 (nI 1)).1 8 l 6 = 1 := uI_s _ _ _ _ _
  refine ⟨F8.inv (d0 := d0) hM h8 (by rw [uI_k _ _ _ _ (by decide), h.1]) (by rw [uI_k _ _ _ _ (by decide), h.1]) e6 h.2.2.2, e6, h.2.2.2, ?_⟩
  have g : F8 l d0 d1 := F8.of1 hF
  exact ⟨fun k i f q q2 => (h8.1 k i f q q2).trans (g.1 k i f q q2), fun k i f q => (h8.2.1 k i f q).trans (g.2.1 k i f q), h8.2.2.trans g.2.2⟩
/-! an array is filled -/
def FK (k0 : Nat) (d0 d : kD) : Prop := (∀ k i f, ¬ (k = k0 ∧ i = 0) → d.1 k i f = d0.1 k i f) ∧ d.2 = d0.2
theorem FK.refl (k : Nat) (d : kD) : FK k d d := ⟨fun _ _ _ _ => rfl, rfl⟩
theorem FK.trans {k : Nat} {d d1 d2 : kD} (h : FK k d d1) (h2 : FK k d1 d2) : FK k d d2 := ⟨fun k i f q => (h2.1 k i f q).trans (h.1 k i f q), h2.2.trans h.2⟩
theorem FK.st {k0 : Nat} {d d1 : kD} (h : FK k0 d d1) (f : Nat) (v : Int32) : FK k0 d (uI d1 k0 0 f v) := ⟨fun k i f' q => by
  rw [← h.1 k i f' q]
  show up3 d1.1 k0 0 f v k i f' = _
  rw [up3_ne _ _ _ q], h.2⟩
theorem FK.x {k0 : Nat} {d d1 : kD} (h : FK k0 d d1) (hk : 16 ≤ k0 ∧ k0 < 28) : Fr IX JX d d1 := ⟨fun k i f q => h.1 k i f (fun z => of_decide_eq_false q (by omega)), fun k i f _ => by rw [h.2], by rw [h.2]⟩
theorem FK.inv {cA : Nat → ClassId} {ad : kA} {S : sS} {k0 : Nat} {d d1 : kD} (h : FK k0 d d1) (hk : 16 ≤ k0 ∧ k0 < 28) (hM : InvX cA ad S d) : InvX cA ad S d1 :=
  hM.cg (h.x hk) (fun p => by funext f; exact h.1 _ _ _ (by omega)) (fun p f => h.1 _ _ _ (by omega)) (fun l => h.1 _ _ _ (by omega)) (fun l => by rw [h.2])
/-! what is kept of each pier, by the looks known on a day -/
theorem kp_mA (x : Int64) (b : Int32) : sKp x b 8 = x &&& mA b 8 := by
  have h1 : ∀ n, n ≤ 8 → ∀ k, k < 64 → hasB (sKp x b n) k = (hasB x k && !decide (k < 8 * n ∧ (b >>> (nI (k / 8) &&& 31)) &&& nI 1 = 0)) := by
    intro n
    induction n with
    | zero => intro _ k hk; rw [sKp, decide_eq_false (by omega)]; simp
    | succ n ih =>
      intro hn k hk
      rw [sKp]
      have hm : hasB (lsl 255 (8 * n)) k = decide (8 * n ≤ k ∧ k < 8 * n + 8) := by
        have key : ∀ n, n < 8 → ∀ k, k < 64 → hasB (lsl 255 (8 * n)) k = decide (8 * n ≤ k ∧ k < 8 * n + 8) := by decide +kernel
        exact key n (by omega) k hk
      by_cases c : (b >>> (nI n &&& 31)) &&& nI 1 = 0
      · rw [if_pos c, hasB_and _ _ hk, hasB_not _ hk, ih (by omega) k hk, hm]
        by_cases q : 8 * n ≤ k ∧ k < 8 * n + 8
        · have e : k / 8 = n := by omega
          rw [decide_eq_true q, decide_eq_true (show k < 8 * (n + 1) ∧ _ from ⟨by omega, by rw [e]; exact c⟩)]; simp
        · rw [decide_eq_false q]
          have e2 : decide (k < 8 * n ∧ (b >>> (nI (k / 8) &&& 31)) &&& nI 1 = 0) = decide (k < 8 * (n + 1) ∧ (b >>> (nI (k / 8) &&& 31)) &&& nI 1 = 0) := decide_eq_decide.mpr ⟨fun z => ⟨by omega, z.2⟩, fun z => ⟨by omega, z.2⟩⟩
          rw [e2]; simp
      · rw [if_neg c, ih (by omega) k hk]
        congr 2
        refine decide_eq_decide.mpr ⟨fun z => ⟨by omega, z.2⟩, fun z => ⟨?_, z.2⟩⟩
        rcases Nat.lt_or_ge k (8 * n) with w | w
        · exact w
        · have e : k / 8 = n := by omega
          rw [e] at z; exact absurd z.2 c
  have h2 : ∀ n, n ≤ 8 → ∀ k, k < 64 → hasB (mA b n) k = decide (k < 8 * n ∧ ¬ (b >>> (nI (k / 8) &&& 31)) &&& nI 1 = 0) := by
    intro n
    induction n with
    | zero => intro _ k hk; rw [mA, hasB_zero k hk, decide_eq_false (by omega)]
    | succ n ih =>
      intro hn k hk
      rw [mA]
      have hm : hasB (lsl 255 (8 * n)) k = decide (8 * n ≤ k ∧ k < 8 * n + 8) := by
        have key : ∀ n, n < 8 → ∀ k, k < 64 → hasB (lsl 255 (8 * n)) k = decide (8 * n ≤ k ∧ k < 8 * n + 8) := by decide +kernel
        exact key n (by omega) k hk
      by_cases c : (b >>> (nI n &&& 31)) &&& nI 1 = 0
      · rw [if_pos c, ih (by omega) k hk]
        refine decide_eq_decide.mpr ⟨fun z => ⟨by omega, z.2⟩, fun z => ⟨?_, z.2⟩⟩
        rcases Nat.lt_or_ge k (8 * n) with w | w
        · exact w
        · have e : k / 8 = n := by omega
          rw [e] at z; exact absurd c z.2
      · rw [if_neg c, hasB_or _ _ hk, ih (by omega) k hk, hm]
        by_cases q : 8 * n ≤ k ∧ k < 8 * n + 8
        · have e : k / 8 = n := by omega
          rw [decide_eq_true q, decide_eq_true (show k < 8 * (n + 1) ∧ _ from ⟨by omega, by rw [e]; exact c⟩)]; simp
        · rw [decide_eq_false q, Bool.or_false]
          exact decide_eq_decide.mpr ⟨fun z => ⟨by omega, z.2⟩, fun z => ⟨by omega, z.2⟩⟩
  apply hasB_ext
  intro k hk
  rw [hasB_and _ _ hk, h1 8 (Nat.le_refl _) k hk, h2 8 (Nat.le_refl _) k hk]
  congr 1
  by_cases c : (b >>> (nI (k / 8) &&& 31)) &&& nI 1 = 0
  · rw [decide_eq_true ⟨by omega, c⟩, decide_eq_false (fun z => z.2 c)]; rfl
  · rw [decide_eq_false (fun z => c z.2), decide_eq_true ⟨by omega, c⟩]; rfl
def KP (S : sS) (day : Nat) (d : kD) : Prop := (∀ p, p < S 7 0 → d.2.1 6 p 11 = sFree S p day (-1) ∧ d.2.1 6 p 12 = sKept S p day) ∧ (∀ b, b < 4 → d.1 25 0 b = sCommon S b day) ∧ ∀ l, l < S 18 0 → d.2.1 8 l 7 = sBars S l
theorem KP.fr {S : sS} {day : Nat} {d d1 : kD} (h : KP S day d) (hf : Fr IW J0 d d1) : KP S day d1 :=
  ⟨fun p hp => ⟨by rw [hf.2.1 _ _ _ rfl]; exact (h.1 p hp).1, by rw [hf.2.1 _ _ _ rfl]; exact (h.1 p hp).2⟩, fun b hb => by rw [hf.1 25 0 b rfl]; exact h.2.1 b hb, fun l hl => by rw [hf.2.1 _ _ _ rfl]; exact h.2.2 l hl⟩
