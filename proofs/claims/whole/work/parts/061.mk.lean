theorem uI_s (d : kD) (k i f : Nat) (v : Int32) : (uI d k i f v).1 k i f = v := by show up3 d.1 k i f v k i f = v; rw [up3_same]; simp [va_up]
theorem uI_k (d : kD) {k k' : Nat} (i f : Nat) (v : Int32) (h : k' ≠ k) : (uI d k i f v).1 k' = d.1 k' := by funext i'; exact up3_ne _ _ _ (fun q => h q.1)
theorem uI_f (d : kD) (k i : Nat) {f f' : Nat} (v : Int32) (h : f' ≠ f) : (uI d k i f v).1 k i f' = d.1 k i f' := by show up3 d.1 k i f v k i f' = _; rw [up3_same]; simp [va_up, h]
theorem uJ_s (d : kD) (k i f : Nat) (v : Int64) : (uJ d k i f v).2.1 k i f = v := by show up3 d.2.1 k i f v k i f = v; rw [up3_same]; simp [va_up]
theorem uJ_k (d : kD) {k k' : Nat} (i f : Nat) (v : Int64) (h : k' ≠ k) : (uJ d k i f v).2.1 k' = d.2.1 k' := by funext i'; exact up3_ne _ _ _ (fun q => h q.1)
theorem uJ_f (d : kD) (k i : Nat) {f f' : Nat} (v : Int64) (h : f' ≠ f) : (uJ d k i f v).2.1 k i f' = d.2.1 k i f' := by show up3 d.2.1 k i f v k i f' = _; rw [up3_same]; simp [va_up, h]
/-- a place that the pure state doesn't hold changes -/
theorem sLen_free : ∀ f, (f = 31 ∨ 34 ≤ f) → sLen f = 0 := by
  intro f h
  by_cases hf : f < 48
  · have : ∀ f, f < 48 → (f = 31 ∨ 34 ≤ f) → sLen f = 0 := by decide
    exact this f hf h
  · unfold sLen
    rw [List.getD_eq_getElem?_getD, List.getElem?_eq_none (by simp; omega)]; rfl
theorem dS.stI {S : sS} {d : kD} (h : dS S d) (k i f : Nat) (v : Int32) (hk : k = 81 ∨ 84 ≤ k) : dS S (uI d k i f v) := by
  refine ⟨fun g j hj => ?_, fun g hg => ?_⟩
  · by_cases hg : 50 + g = k
    · exfalso
      have := sLen_free g (by omega)
      omega
    · rw [uI_k d i f v hg]; exact h.1 g j hj
  · rw [uI_k d i f v (by omega)]; exact h.2 g hg
theorem dS.stF {S : sS} {d : kD} (h : dS S d) (f : Nat) (v : Int32) (hf : sFld f = false) : dS S (uI d 40 0 f v) := by
  refine ⟨fun g j hj => ?_, fun g hg => ?_⟩
  · rw [uI_k d 0 f v (by omega)]; exact h.1 g j hj
  · rw [uI_f d 40 0 v (fun q => by subst q; rw [hf] at hg; cases hg)]; exact h.2 g hg
theorem dS.stJ {S : sS} {d : kD} (h : dS S d) (k i f : Nat) (v : Int64) : dS S (uJ d k i f v) := h
/-- the reference's way through make -/
def MK (S : sS) (d0 : kD) (pp mm dd : Nat) (d : kD) : Prop := dS S d ∧ FrM d0 d ∧ d.2.1 = d0.2.1 ∧ d.1 88 = d0.1 88 ∧ (∀ q, q ≠ pp → d.1 86 0 q = d0.1 86 0 q) ∧ (∀ j, (j < 64 * pp * 400 ∨ (64 * pp + 64) * 400 ≤ j) → d.1 84 0 j = d0.1 84 0 j ∧ d.1 85 0 j = d0.1 85 0 j) ∧
  ∀ m day, m < 64 → day < 400 → (m < mm ∨ (m = mm ∧ day < dd)) → d.1 84 0 ((64 * pp + m) * 400 + day) = nI (sHole S pp m day) ∧ d.1 85 0 ((64 * pp + m) * 400 + day) = nI (sEver S pp m day)
theorem MK.start {S : sS} {d0 : kD} (h : dS S d0) (pp : Nat) (v : Int32) : MK S d0 pp 0 0 (uI d0 86 0 pp v) :=
  ⟨h.stI _ _ _ _ (by omega), (FrM.refl d0).stI _ _ _ _ (by omega), rfl, uI_k _ _ _ _ (by omega), fun q hq => uI_f _ _ _ _ hq, fun j _ => ⟨by rw [uI_k _ _ _ _ (by omega)], by rw [uI_k _ _ _ _ (by omega)]⟩, fun m day _ _ h => by omega⟩
theorem MK.step {S : sS} {d0 d : kD} {pp mm dd h e : Nat} (H : MK S d0 pp mm dd d) (hp : pp < 8) (hm : mm < 64) (hd : dd < 400) (hh : h = sHole S pp mm dd) (he : e = sEver S pp mm dd) : MK S d0 pp mm (dd + 1) (uI (uI d 84 0 ((64 * pp + mm) * 400 + dd) (nI h)) 85 0 ((64 * pp + mm) * 400 + dd) (nI e)) := by
  obtain ⟨h1, h2, h3, h4, h5, h6, h7⟩ := H
  refine ⟨(h1.stI _ _ _ _ (by omega)).stI _ _ _ _ (by omega), (h2.stI _ _ _ _ (by omega)).stI _ _ _ _ (by omega), h3, ?_, fun q hq => ?_, fun j hj => ?_, fun m day hm' hd' hc => ?_⟩
  · rw [uI_k _ _ _ _ (by omega), uI_k _ _ _ _ (by omega), h4]
  · rw [uI_k _ _ _ _ (by omega), uI_k _ _ _ _ (by omega)]; exact h5 q hq
  · have hne : j ≠ (64 * pp + mm) * 400 + dd := by omega
    refine ⟨?_, ?_⟩
    · rw [uI_k _ _ _ _ (by omega), uI_f _ _ _ _ hne]; exact (h6 j hj).1
    · rw [uI_f _ _ _ _ hne, uI_k _ _ _ _ (by omega)]; exact (h6 j hj).2
  · by_cases hq : m = mm ∧ day = dd
    · obtain ⟨rfl, rfl⟩ := hq
      exact ⟨by rw [uI_k _ _ _ _ (by omega), uI_s, hh], by rw [uI_s, he]⟩
    · have hne : (64 * pp + m) * 400 + day ≠ (64 * pp + mm) * 400 + dd := by omega
      have := h7 m day hm' hd' (by omega)
      exact ⟨by rw [uI_k _ _ _ _ (by omega), uI_f _ _ _ _ hne]; exact this.1, by rw [uI_f _ _ _ _ hne, uI_k _ _ _ _ (by omega)]; exact this.2⟩
theorem MK.next {S : sS} {d0 d : kD} {pp mm : Nat} (H : MK S d0 pp mm 400 d) : MK S d0 pp (mm + 1) 0 d := by
  obtain ⟨h1, h2, h3, h4, h5, h6, h7⟩ := H
  exact ⟨h1, h2, h3, h4, h5, h6, fun m day hm hd hc => h7 m day hm hd (by omega)⟩
theorem MK.end {S : sS} {d0 d : kD} {pp : Nat} (H : MK S d0 pp 64 0 d) (hM : InvM S d0) (hp : pp < 8) (hp7 : pp < S 7 0) : MI S d0 d := by
  obtain ⟨h1, h2, h3, h4, h5, h6, h7⟩ := H
  refine ⟨⟨h1, hM.2.1, fun q hq hne => ?_, fun l hl hne => ?_⟩, h2⟩
  · by_cases hqp : q = pp
    · subst hqp; exact ⟨hp7, fun m hm day hd => h7 m day hm hd (by omega)⟩
    · rw [h5 q hqp] at hne
      refine ⟨(hM.2.2.1 q hq hne).1, fun m hm day hd => ?_⟩
      have := (hM.2.2.1 q hq hne).2 m hm day hd
      have h8 := h6 ((64 * q + m) * 400 + day) (by omega)
      rw [h8.1, h8.2]; exact this
  · rw [h4] at hne; rw [h3]; exact hM.2.2.2 l hl hne
theorem sStep_le {h g b r : Nat} (h1 : h ≤ r) (h2 : g ≤ r) (hb : b ≤ 7) : sStep h g b ≤ r := by
  unfold sStep; split
  · omega
  · exact Nat.le_trans (Nat.sub_le _ _) h1
theorem sHE_le {S : sS} (hG : sG S) {p m : Nat} (hp : p < 8) : ∀ n, (sHE S p m n).1 ≤ 200 ∧ (sHE S p m n).2 ≤ 200
  | 0 => ⟨Nat.zero_le _, Nat.zero_le _⟩
  | n + 1 => by
    have h := sHE_le hG (m := m) hp n
    have hr : S 4 p ≤ 200 := hG.a 4 p (n := 8) (mx := 200) (by decide) hp
    have hg : sGoal S p m n ≤ 200 := Nat.le_trans (Nat.min_le_left _ _) hr
    have hs := sStep_le (b := m % 8) h.1 hg (by omega)
    refine ⟨hs, ?_⟩
    show max _ _ ≤ 200
    omega
theorem make_prod {a b : Nat} (h : a ≤ 200) (hb : b ≤ 7) : a * b < 2 ^ 31 := by
  have := Nat.mul_le_mul h hb
  omega
theorem make_sub {h g b : Nat} (hb : b ≤ 7) : (h - g) * b / 8 ≤ h := by
  have h1 : (h - g) * b ≤ (h - g) * 8 := Nat.mul_le_mul_left _ (by omega)
  omega
theorem MI.bar {S : sS} {d0 d : kD} (h : MI S d0 d) {l : Nat} (hl7 : l < S 18 0) (v : Int32) : MI S d0 (uJ (uI d 88 0 l v) 87 0 l (sBars S l)) := by
  obtain ⟨⟨h1, h2, h3, h4⟩, hF⟩ := h
  refine ⟨⟨h1.stI _ _ _ _ (by omega), h2, fun p hp hne => ?_, fun q hq hne => ?_⟩, (hF.stI _ _ _ _ (by omega)).stJ _ _ _⟩
  · have e1 : ∀ k, k ≠ 88 → (uJ (uI d 88 0 l v) 87 0 l (sBars S l)).1 k = d.1 k := fun k hk => uI_k d 0 l v hk
    rw [e1 86 (by omega)] at hne
    rw [e1 84 (by omega), e1 85 (by omega)]
    exact h3 p hp hne
  · by_cases hl : q = l
    · subst hl; exact ⟨hl7, uJ_s _ _ _ _ _⟩
    · rw [uJ_f _ _ _ _ hl]
      have e2 : (uJ (uI d 88 0 l v) 87 0 l (sBars S l)).1 88 0 q = d.1 88 0 q := uI_f d 88 0 v hl
      rw [e2] at hne
      exact h4 q hq hne
theorem InvM.thr {S : sS} {d : kD} (h : InvM S d) (f : Nat) (v : Int32) (hf : sFld f = false) : InvM S (uI d 40 0 f v) := by
  obtain ⟨h1, h2, h3, h4⟩ := h
  refine ⟨h1.stF f v hf, h2, ?_, ?_⟩
  · rw [uI_k d 0 f v (by omega : 86 ≠ 40), uI_k d 0 f v (by omega : 84 ≠ 40), uI_k d 0 f v (by omega : 85 ≠ 40)]; exact h3
  · rw [uI_k d 0 f v (by omega : 88 ≠ 40)]; exact h4
theorem MI.pub {S : sS} {sr : Nat → Int32} {d0 d : kD} {v : Int32} (h : MI S (uI d0 40 0 33 v) d) (hR : RowM S sr d0) : PI S sr d0 d :=
  ⟨h.1, fun i hi => by rw [h.2.1 81 (by omega), uI_k _ _ _ _ (by omega)]; exact hR i hi, ((FrP.refl d0).stI _ _ _ _ (by omega)).trans h.2.p⟩
