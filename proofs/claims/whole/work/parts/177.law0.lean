/-! the law: what holds at its loop's head -/
theorem xD.lo {S : sS} {d d1 : kD} (h : xD S d) (e : ∀ k, k < 40 → d1.1 k = d.1 k) (eJ : ∀ k, k < 40 → d1.2.1 k = d.2.1 k) : xD S d1 := by
  obtain ⟨⟨h1, h2, h3⟩, h4, h5, h6, h7, h8, h9, h10, h14, h15⟩ := h
  refine ⟨⟨?_, ?_, ?_⟩, ?_, ?_, ?_, ?_, ?_, ?_, ?_, h14, ?_⟩
  · rw [e 0 (by omega)]; exact h1
  · rw [e 0 (by omega), eJ 31 (by omega)]; exact h2
  · rw [e 0 (by omega)]; exact h3
  · rw [e 1 (by omega)]; exact h4
  · rw [e 4 (by omega)]; exact h5
  · rw [e 6 (by omega)]; exact h6
  · rw [e 7 (by omega)]; exact h7
  · rw [e 8 (by omega)]; exact h8
  · rw [e 9 (by omega)]; exact h9
  · rw [e 10 (by omega)]; exact h10
  · rw [eJ 21 (by omega)]; exact h15
theorem InvX.lo {cA : Nat → ClassId} {ad : kA} {S : sS} {d d1 : kD} (h : InvX cA ad S d) (e : ∀ k, k < 40 → d1.1 k = d.1 k) (eJ : ∀ k, k < 40 → d1.2.1 k = d.2.1 k) : InvX cA ad S d1 :=
  h.chg h.1.1 (h.1.2.1.lo e eJ) h.1.2.2 (fun p => by rw [e 3 (by omega)]) (fun p => by rw [e 6 (by omega)]) (fun p => by rw [e 6 (by omega)]) (fun p => by rw [e 8 (by omega)]) (fun p => by rw [eJ 8 (by omega)]) rfl rfl (fun _ _ _ _ => rfl) (fun _ _ => ⟨rfl, rfl, rfl, rfl⟩)
theorem RowX.lo {S : sS} {sr : Nat → Int32} {d d1 : kD} (h : RowX S sr d) (e : ∀ k, k < 40 → d1.1 k = d.1 k) : RowX S sr d1 := by
  obtain ⟨⟨h1, h2⟩, h3, h4⟩ := h
  refine ⟨⟨?_, ?_⟩, ?_, fun i hi => ⟨?_, ?_⟩⟩
  · rw [e 11 (by omega)]; exact h1
  · rw [e 12 (by omega)]; exact h2
  · rw [e 13 (by omega)]; exact h3
  · rw [e 14 (by omega)]; exact (h4 i hi).1
  · rw [e 15 (by omega)]; exact (h4 i hi).2
theorem InvM.hi {S : sS} {d d1 : kD} (h : InvM S d) (e : ∀ k, 28 ≤ k → d1.1 k = d.1 k) (eJ : ∀ k, 28 ≤ k → d1.2.1 k = d.2.1 k) : InvM S d1 :=
  h.chg ⟨fun f i hi => by rw [e (50 + f) (by omega)]; exact h.1.1 f i hi, fun f hf => by rw [e 40 (by omega)]; exact h.1.2 f hf⟩ h.2.1 (e 84 (by omega)) (e 85 (by omega)) (e 86 (by omega)) (e 88 (by omega)) (eJ 87 (by omega)) (fun _ _ _ _ => rfl) (fun _ _ => ⟨rfl, rfl, rfl, rfl⟩) (Nat.le_refl _) (Nat.le_refl _)
def lw_I (cA : Nat → ClassId) (x0 m0 o0 : Nat) (S : sS) (sr : Nat → Int32) (ad : kA) (d : kD) : Prop := InvX cA ad S d ∧ RowX S sr d ∧ InvM S d ∧ RowM S sr d ∧ mAl ad ∧ d.2.1 31 0 0 = 0 ∧ ad.1 30 0 ≠ 0 ∧ ad.1 0 0 = x0 ∧ ad.1 40 0 = m0 ∧ ad.1 30 0 = o0
theorem lw_mid {S : sS} {sr : Nat → Int32} {d d1 : kD} (hM : InvM S d) (hR : RowM S sr d) (hf : FrX d d1) : InvM S d1 ∧ RowM S sr d1 := ⟨hM.hi hf.1 hf.2.1, fun i hi => by rw [hf.1 81 (by omega)]; exact hR i hi⟩
theorem lw_end {cA : Nat → ClassId} {x0 m0 o0 : Nat} {S S' : sS} {sr sr' : Nat → Int32} {ad a : kA} {d d1 d2 : kD} (hI : lw_I cA x0 m0 o0 S sr ad d) (hA : AFr ad a) (hP : PX cA a S' sr' d d1) (h2 : PI S' sr' d1 d2) : lw_I cA x0 m0 o0 S' sr' a d2 := by
  obtain ⟨g1, g2, g3, g4, g5, g6, g7, g8, g9, g10⟩ := hI
  refine ⟨hP.1.lo h2.2.2.1 h2.2.2.2.1, hP.2.1.lo h2.2.2.1, h2.1, h2.2.1, hA.mal g5, ?_, ?_, ?_, ?_, ?_⟩
  · rw [h2.2.2.2.1 31 (by omega), hP.2.2.2.1 31 (by omega)]; exact g6
  · rw [hA.1 30 (by omega)]; exact g7
  · rw [hA.1 0 (by omega)]; exact g8
  · rw [hA.1 40 (by omega)]; exact g9
  · rw [hA.1 30 (by omega)]; exact g10
/-- the way on, from the step to the next call -/
def lw_NX (p : Program) (l : Launch) (e : Env) (s : State) (m : MethodId) (below : List Frame) (meth : Method) (c : Code) (b : Nat) (D : va_G) (cA : Nat → ClassId) (x0 m0 o0 n : Nat) : Prop := ∀ (S : sS) (sr : Nat → Int32) (ad : kA) (d : kD) (H : Heap) (locs : List Loc) (ls : Array Slot) (cells slots : Nat), cells ≤ 300 + 4 * (n + 1) → slots ≤ 500000 + 100 * (n + 1) → lw_I cA x0 m0 o0 S sr ad d → oW D cA s.heap.size ad d H → va_S (oA s.heap.size) s.heap H locs → lv_has ls 7 [(4, .int (nI (8 * n))), (3, .ref o0), (2, .ref m0), (1, .ref x0), (0, .ref b)] → W p l e room_1 s m #[Value.ref b] below meth c H locs cells slots (lw_Z below #[Value.ref b] s) (F0 m 1797 ls [])
/-- what holds through all of the law -/
def lw_F (p : Program) (s : State) (m : MethodId) (meth : Method) (c : Code) (b L : Nat) (xs : Nat → Int32) (D : va_G) (cA : Nat → ClassId) : Prop := lw_At p s m meth c b L xs ∧ L ≤ 4096 ∧ oK D cA s ∧ oG cA s.heap.size s ∧ (∀ w ∈ UW, w.before #[Value.ref b] s = true)
section LSL
variable {p : Program} {l : Launch} {e : Env} {R : Room} {s : State} {m : MethodId} {args : Array Value} {below : List Frame} {meth : Method} {c : Code} {H : Heap} {locs : List Loc} {cells slots : Nat} {Q : State → Prop} {pc : Nat} {ls : Array Slot} {rest : List Value}
theorem l_sld {cc : ByteArray} (hexec : p.tables.exec = Jvm.exec) (hb : c.code = cc) {b L j : Nat} {xs : Nat → Int32} (hX : va_X b L xs s s.heap) (hbl : b < s.heap.size) (hS : va_S (oA s.heap.size) s.heap H locs) (hj : j < L) (hL : L ≤ 4096) (hdg : decode cc pc = .ok (.iaload, 1))
    (kk : W p l e R s m args below meth c H locs cells slots Q (F0 m (pc + 1) ls (.int (xs j) :: rest))) : W p l e R s m args below meth c H locs cells slots Q (F0 m pc ls (.int (nI j) :: .ref b :: rest)) := by
  refine va_sld hexec hb hX hbl (Nat.not_le.mpr hbl) hS (vp_in_nI hj (by omega)) hdg ?_
  rw [nI_clamp (by omega)]
  exact kk
end LSL
