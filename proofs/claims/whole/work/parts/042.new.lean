/-! new cells -/
def ad1 (ad : kA) (k i q : Nat) : kA := (fun k' i' => if k' = k ∧ i' = i then q else ad.1 k' i', ad.2)
def ad2 (ad : kA) (k i f q : Nat) : kA := (ad.1, up3 ad.2 k i f q)
theorem ad1_s (ad : kA) (k i q : Nat) : (ad1 ad k i q).1 k i = q := if_pos ⟨rfl, rfl⟩
theorem ad1_n (ad : kA) {k i k' i' : Nat} (q : Nat) (h : ¬ (k' = k ∧ i' = i)) : (ad1 ad k i q).1 k' i' = ad.1 k' i' := if_neg h
theorem oW.new {D : va_G} {cA : Nat → ClassId} {B0 : Nat} {ad : kA} {d : kD} {H H1 : Heap} (h : oW D cA B0 ad d H) {k i : Nat} (hdead : ad.1 k i = 0) (h0 : 0 < H.size) (hB : B0 ≤ H.size) {e : va_E} (hc : kC cA (ad1 ad k i H.size) d k i = some e) (ho : ∀ k' i', kC cA (ad1 ad k i H.size) d k' i' = kC cA ad d k' i') (h1 : va_at D vwCl (H.size, e) H1) (hz : H1.size = H.size + 1) (hq : ∀ q : Nat, q < H.size → H1[q]? = H[q]?) : oW D cA B0 (ad1 ad k i H.size) d H1 := by
  refine ⟨fun k' i' x ha' hx => ?_, fun k1 i1 k2 i2 hne heq => ?_, fun k' i' h' => ?_⟩
  · by_cases hk : k' = k ∧ i' = i
    · obtain ⟨rfl, rfl⟩ := hk
      rw [hc] at hx; cases hx
      rw [ad1_s]; exact ⟨h1, hB⟩
    · rw [ho k' i'] at hx
      rw [ad1_n _ _ hk] at ha' ⊢
      exact ⟨(h.1 _ _ _ ha' hx).1.kept (hq _ (h.2.2 _ _ ha')), (h.1 _ _ _ ha' hx).2⟩
  · by_cases ha : k1 = k ∧ i1 = i
    · obtain ⟨rfl, rfl⟩ := ha
      by_cases hb : k2 = k1 ∧ i2 = i1
      · obtain ⟨rfl, rfl⟩ := hb; exact ⟨rfl, rfl⟩
      · rw [ad1_s, ad1_n _ _ hb] at heq
        have := h.2.2 k2 i2 (by omega)
        omega
    · rw [ad1_n _ _ ha] at hne heq
      by_cases hb : k2 = k ∧ i2 = i
      · obtain ⟨rfl, rfl⟩ := hb
        rw [ad1_s] at heq
        have := h.2.2 k1 i1 hne
        omega
      · rw [ad1_n _ _ hb] at heq
        exact h.2.1 _ _ _ _ hne heq
  · rw [hz]
    by_cases hk : k' = k ∧ i' = i
    · obtain ⟨rfl, rfl⟩ := hk; rw [ad1_s]; omega
    · rw [ad1_n _ _ hk] at h' ⊢
      have := h.2.2 k' i' h'
      omega
section ONW
variable {p : Program} {l : Launch} {e : Env} {R : Room} {s : State} {m : MethodId} {args : Array Value} {below : List Frame} {meth : Method} {c : Code} {H : Heap} {locs : List Loc} {cells slots : Nat} {Q : State → Prop}
variable {cc : ByteArray} {pc : Nat} {ls : Array Slot} {rest : List Value} {D : va_G} {cA : Nat → ClassId} {B0 : Nat} {ad : kA} {d : kD} {H0 : Heap}
theorem o_newa (hx : p.tables.exec = Jvm.exec) (hb : c.code = cc) (hu : ∀ w ∈ UW, w.before args s = true) {atype : ArrayType} {ty : FieldType} (hty : newarray.typeOf atype = ty) (harr : Cond.arrayClass ty ∈ UW) (t : Nat) (hRA : ∀ x, va_RA s x ty = (s.vm.findClass ("[" ++ ty.toString) = some x)) (hoT : (oT cA)[t]? = some (cA t, ty)) (hK : oK D cA s) (hW : oW D cA B0 ad d H) (hS : va_S (oA B0) s.heap H locs) (hB : B0 ≤ s.heap.size) (h0 : 0 < B0) {k i : Nat} (hdead : ad.1 k i = 0) {n : Nat} {a0 : vp_A} (hn : n < 2 ^ 31) (ha : vp_cell (cA t) a0 = arrV (cA t) n (fun _ => defaultValue ty)) (hc : ∀ q, kC cA (ad1 ad k i q) d k i = some (.inl (cA t, a0))) (ho : ∀ q k' i', kC cA (ad1 ad k i q) d k' i' = kC cA ad d k' i') (hbytes : n * componentBytes ty ≤ 536870912) (hcells : cells + 1 ≤ R.cells) (hslots : slots + n ≤ R.slots) (hdg : decode cc pc = .ok (.newarray atype, 2))
    (kk : ∀ (q : Nat) (H1 : Heap), q ≠ 0 → oW D cA B0 (ad1 ad k i q) d H1 → va_S (oA B0) s.heap H1 locs → W p l e R s m args below meth c H1 locs (cells + 1) (slots + n) Q (F0 m (pc + 2) ls (.ref q :: rest))) : W p l e R s m args below meth c H locs cells slots Q (F0 m pc ls (.int (nI n) :: rest)) := by
  subst hty
  refine va_newaK hx hb (hu _ harr) rfl hdg rfl (nI_pos hn) (nI_clamp hn) hbytes hcells hslots rfl fun H1 cA' e1 z1 o1 hAr hNm => ?_
  have hcA : cA' = cA t := by
    have h2 := (hK.1.2 t _ hoT).2
    rw [hRA] at h2
    exact Option.some.inj (hNm.symm.trans h2)
  subst hcA
  have hle : s.heap.size ≤ H.size := hS.1
  refine kk H.size H1 (by omega) (hW.new hdead (by omega) (by omega) (hc _) (fun k' i' => ho _ k' i') (by show H1[H.size]? = some (vp_cell _ _); rw [ha]; exact e1) z1 o1) ⟨by rw [z1]; omega, fun x h1 h2 => (o1 x (by omega)).trans (hS.2.1 x h1 h2), hS.2.2⟩
end ONW
theorem oW.setA {D : va_G} {cA : Nat → ClassId} {B0 : Nat} {ad : kA} {d : kD} {H H1 : Heap} (h : oW D cA B0 ad d H) {k i f q : Nat} (ha : ad.1 k i ≠ 0) {e' : va_E} (hc' : kC cA (ad2 ad k i f q) d k i = some e') (hB : B0 ≤ ad.1 k i) (ho : ∀ k' i', ¬ (k' = k ∧ i' = i) → kC cA (ad2 ad k i f q) d k' i' = kC cA ad d k' i') (h1 : va_at D vwCl (ad.1 k i, e') H1) (hz : H1.size = H.size) (hq : ∀ q : Nat, q ≠ ad.1 k i → H1[q]? = H[q]?) : oW D cA B0 (ad2 ad k i f q) d H1 := by
  refine ⟨fun k' i' x ha' hx => ?_, h.2.1, fun k' i' h' => by rw [hz]; exact h.2.2 k' i' h'⟩
  by_cases hk : k' = k ∧ i' = i
  · obtain ⟨rfl, rfl⟩ := hk
    rw [hc'] at hx; cases hx
    exact ⟨h1, hB⟩
  · have hx2 := hx
    rw [ho k' i' hk] at hx2
    refine ⟨(h.1 _ _ _ ha' hx2).1.kept (hq _ (fun q => hk ?_)), (h.1 _ _ _ ha' hx2).2⟩
    exact h.2.1 _ _ _ _ ha' q
section ONP
variable {p : Program} {l : Launch} {e : Env} {R : Room} {s : State} {m : MethodId} {args : Array Value} {below : List Frame} {meth : Method} {c : Code} {H : Heap} {locs : List Loc} {cells slots : Nat} {Q : State → Prop}
variable {cc : ByteArray} {pc : Nat} {ls : Array Slot} {rest : List Value} {D : va_G} {cA : Nat → ClassId} {B0 : Nat} {ad : kA} {d : kD} {H0 : Heap}
theorem o_putrF (hexec : p.tables.exec = Jvm.exec) (hb : c.code = cc) {own C : String} {T : u_T} {N ci index : Nat} {Ts : List Cond} (hts : ∀ w ∈ Ts, w.before args s = true) (hin : ∀ w ∈ u_ws C T N, w ∈ Ts) (ty0 : Nat → FieldType) (hty : ∀ k, k < N → parseFieldDescriptor (T k).2.2.1 = some (ty0 k)) (hnm : ∀ a, a < N → ∀ b, b < N → a ≠ b → (T a).2.1 ≠ (T b).2.1) (hown : s.vm.findClass own = some m.cls) (hK : oK D cA s) (hW : oW D cA B0 ad d H) (hS : va_S (oA B0) H0 H locs) {k i q : Nat} (ha : ad.1 k i ≠ 0) {fs : List Value} (hcl : vwCl[ci]? = some (C, T, N)) (f : Nat) (hc0 : kC cA ad d k i = some (.inr (ci, fs))) (hc1 : kC cA (ad2 ad k i f q) d k i = some (.inr (ci, fs.set f (.ref q)))) (ho : ∀ k' i', ¬ (k' = k ∧ i' = i) → kC cA (ad2 ad k i f q) d k' i' = kC cA ad d k' i') (hf : f < N) (hlink : (Cond.fieldLink own index (T f).1 (T f).2.1 (T f).2.2.1).before args s = true) (hfin : (T f).2.2.2 = true) (hin2 : meth.name = "<init>") (hdecl : (T f).1 = own) {ty : FieldType} (hd : parseFieldDescriptor (T f).2.2.1 = some ty) (hn : narrow ty (.ref q) = .ref q) (hfit : fits ty (.ref q) = true) (hl : f < fs.length) (hdg : decode cc pc = .ok (.putfield index, 3))
    (kk : ∀ (H1 : Heap) (locs1 : List Loc), oW D cA B0 (ad2 ad k i f q) d H1 → va_S (oA B0) H0 H1 locs1 → W p l e R s m args below meth c H1 locs1 cells slots Q (F0 m (pc + 3) ls rest)) : W p l e R s m args below meth c H locs cells slots Q (F0 m pc ls (.ref q :: .ref (ad.1 k i) :: rest)) := by
  have hap := va_apart (own := own) hts hin ty0 hty hnm hK.1 hcl
  obtain ⟨⟨r, h1, cell, q1, q2, q3, q4⟩, hB⟩ := hW.1 k i _ ha hc0
  have hr : r = (C, T, N) := Option.some.inj (h1.symm.trans hcl)
  subst hr
  obtain ⟨hSl, hfc, kCl, hkC, hkind⟩ := hK.1.1 ci _ hcl
  obtain ⟨cf, kf, fi, fl, hi, hsl⟩ := hSl f hf
  have hlay := hts _ (hin _ (u_in_lay hf))
  unfold u_lay at hlay
  rw [if_pos hfin] at hlay
  have hst := (u_facts hfc hkC (u_lays hts hin hf) hi).1
  have hcf : m.cls = cf := by
    obtain ⟨_, _, c', _, _, _, -, -, hf', -, -, -, hown2, -⟩ := Cond.laysFinal_spec hlay
    have e1 : c' = cf := by have := hi.symm.trans hf'; simp at this; exact this.1.symm
    rw [hdecl] at hown2
    rw [← e1]; exact Option.some.inj (hown.symm.trans hown2)
  have h6 := u_fits hfc hkC hkind (Or.inr hlay) hi hd hn hfit
  refine W.putFinK hexec hb hown hlink hi hst hcf hin2 (by rw [q2]; exact h6) q1 q3 (by rw [hsl]; exact k2_hasslot (q4 f hf)) rfl rfl hdg fun H' e1 e2 e3 => ?_
  rw [hsl] at e1 ⊢
  exact kk H' _ (hW.setA ha hc1 hB ho ⟨_, hcl, t_OB.to (V := updV (vp_V fs) f (.ref q)) ⟨_, e1, q2, q3, t_set q4 hap hf _⟩ (fun j _ => vp_updV_set hl _ j)⟩ e2 e3) (hS.put e2 e3 hB)
end ONP
