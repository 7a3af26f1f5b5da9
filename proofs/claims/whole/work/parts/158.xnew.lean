/-! new objects and arrays of the kinds below 40; fields put while they are made -/
/-- a key's data and reference fields are all as at birth -/
def zD (d : kD) (k i : Nat) : kD := (fun k' i' => if k' = k ∧ i' = i then fun _ => 0 else d.1 k' i', fun k' i' => if k' = k ∧ i' = i then fun _ => 0 else d.2.1 k' i', d.2.2)
def zA (ad : kA) (k i : Nat) : kA := (ad.1, fun k' i' => if k' = k ∧ i' = i then fun _ => 0 else ad.2 k' i')
theorem zD_s1 (d : kD) (k i : Nat) : (zD d k i).1 k i = fun _ => 0 := if_pos ⟨rfl, rfl⟩
theorem zD_s2 (d : kD) (k i : Nat) : (zD d k i).2.1 k i = fun _ => 0 := if_pos ⟨rfl, rfl⟩
theorem zD_n1 (d : kD) {k i k' i' : Nat} (h : ¬ (k' = k ∧ i' = i)) : (zD d k i).1 k' i' = d.1 k' i' := if_neg h
theorem zD_n2 (d : kD) {k i k' i' : Nat} (h : ¬ (k' = k ∧ i' = i)) : (zD d k i).2.1 k' i' = d.2.1 k' i' := if_neg h
theorem zA_s (ad : kA) (k i : Nat) : (zA ad k i).2 k i = fun _ => 0 := if_pos ⟨rfl, rfl⟩
theorem zA_n (ad : kA) {k i k' i' : Nat} (h : ¬ (k' = k ∧ i' = i)) : (zA ad k i).2 k' i' = ad.2 k' i' := if_neg h
/-- two worlds that agree at a key have the same cell there -/
theorem kC_agree {cA : Nat → ClassId} {ad ad' : kA} {d d' : kD} {k' i' : Nat} (h1 : d'.1 k' i' = d.1 k' i') (h2 : d'.2.1 k' i' = d.2.1 k' i') (h3 : ad'.2 k' i' = ad.2 k' i') (h40 : ad'.2 40 0 = ad.2 40 0) : kC cA ad' d' k' i' = kC cA ad d k' i' := by
  unfold kC kF
  by_cases hk' : k' < 40
  · rw [if_pos hk', if_pos hk', h1, h2, h3]
  · rw [if_neg hk', if_neg hk', h1, h2]
    unfold mF mO mV
    rw [h40]
theorem kC_z {cA : Nat → ClassId} {ad : kA} {d : kD} {k i : Nat} (hk : k < 40) (k' i' : Nat) (h : ¬ (k' = k ∧ i' = i)) : kC cA (zA ad k i) (zD d k i) k' i' = kC cA ad d k' i' :=
  kC_agree (zD_n1 d h) (zD_n2 d h) (zA_n ad h) (zA_n ad (by omega))
theorem oW.newG {D : va_G} {cA : Nat → ClassId} {B0 : Nat} {ad ad' : kA} {d d' : kD} {H H1 : Heap} (h : oW D cA B0 ad d H) (hA : ad'.1 = ad.1) {k i : Nat} (ho : ∀ k' i', ¬ (k' = k ∧ i' = i) → kC cA ad' d' k' i' = kC cA ad d k' i') (hdead : ad.1 k i = 0) (h0 : 0 < H.size) (hB : B0 ≤ H.size) {e : va_E} (hc : kC cA ad' d' k i = some e) (h1 : va_at D vwCl (H.size, e) H1) (hz : H1.size = H.size + 1) (hq : ∀ q : Nat, q < H.size → H1[q]? = H[q]?) : oW D cA B0 (ad1 ad' k i H.size) d' H1 := by
  have h' : oW D cA B0 ad' d' H := by
    refine ⟨fun k' i' x ha hx => ?_, fun k1 i1 k2 i2 => by rw [hA]; exact h.2.1 k1 i1 k2 i2, fun k' i' => by rw [hA]; exact h.2.2 k' i'⟩
    rw [hA] at ha ⊢
    have hne : ¬ (k' = k ∧ i' = i) := by rintro ⟨rfl, rfl⟩; exact ha hdead
    rw [ho k' i' hne] at hx
    exact h.1 k' i' x ha hx
  exact h'.new (by rw [hA]; exact hdead) h0 hB (by rw [kC_ad1]; exact hc) (fun _ _ => kC_ad1 _ _) h1 hz hq
theorem oW.setG {D : va_G} {cA : Nat → ClassId} {B0 : Nat} {ad ad' : kA} {d d' : kD} {H H1 : Heap} (h : oW D cA B0 ad d H) (hA : ad'.1 = ad.1) {k i : Nat} (ha : ad.1 k i ≠ 0) {e' : va_E} (hc' : kC cA ad' d' k i = some e') (hB : B0 ≤ ad.1 k i) (ho : ∀ k' i', ¬ (k' = k ∧ i' = i) → kC cA ad' d' k' i' = kC cA ad d k' i') (h1 : va_at D vwCl (ad.1 k i, e') H1) (hz : H1.size = H.size) (hq : ∀ q : Nat, q ≠ ad.1 k i → H1[q]? = H[q]?) : oW D cA B0 ad' d' H1 := by
  refine ⟨fun k' i' x ha' hx => ?_, fun k1 i1 k2 i2 => by rw [hA]; exact h.2.1 k1 i1 k2 i2, fun k' i' h' => by rw [hz]; rw [hA] at h' ⊢; exact h.2.2 k' i' h'⟩
  rw [hA] at ha' ⊢
  by_cases hk : k' = k ∧ i' = i
  · obtain ⟨rfl, rfl⟩ := hk
    rw [hc'] at hx; cases hx
    exact ⟨h1, hB⟩
  · rw [ho k' i' hk] at hx
    refine ⟨(h.1 _ _ _ ha' hx).1.kept (hq _ (fun q => hk ?_)), (h.1 _ _ _ ha' hx).2⟩
    exact h.2.1 _ _ _ _ ha' q
/-- a new array's key moves -/
theorem oW.rekey {D : va_G} {cA : Nat → ClassId} {B0 : Nat} {ad : kA} {d : kD} {H : Heap} (h : oW D cA B0 ad d H) {k i k2 i2 : Nat} (hk : k < 40 ∧ k2 < 40 ∧ ¬ (k = k2 ∧ i = i2)) (hs : ∀ r gI gJ gI' gJ', xF cA r gI gJ k2 = xF cA r gI' gJ' k) {ad' : kA} (h1 : ad'.1 k2 i2 = ad.1 k i) (h2 : ad'.1 k i = 0) (h3 : ∀ k' i', ¬ (k' = k ∧ i' = i) → ¬ (k' = k2 ∧ i' = i2) → ad'.1 k' i' = ad.1 k' i') (h4 : ad'.2 k2 i2 = ad.2 k i) (h5 : ∀ k' i', ¬ (k' = k2 ∧ i' = i2) → ad'.2 k' i' = ad.2 k' i') : oW D cA B0 ad' d H := by
  have hcc : ∀ k' i', ¬ (k' = k2 ∧ i' = i2) → kC cA ad' d k' i' = kC cA ad d k' i' := fun k' i' hn => kC_agree rfl rfl (h5 k' i' hn) (h5 40 0 (by omega))
  have hc2 : kC cA ad' d k2 i2 = kC cA ad d k i := by
    rw [kC_x hk.2.1, kC_x hk.1, h4]; exact hs _ _ _ _ _
  have key : ∀ k' i', ad'.1 k' i' ≠ 0 → (k' = k2 ∧ i' = i2) ∨ (¬ (k' = k ∧ i' = i) ∧ ¬ (k' = k2 ∧ i' = i2) ∧ ad'.1 k' i' = ad.1 k' i') := by
    intro k' i' hne
    by_cases e2 : k' = k2 ∧ i' = i2
    · exact Or.inl e2
    · have e1 : ¬ (k' = k ∧ i' = i) := by rintro ⟨rfl, rfl⟩; exact hne h2
      exact Or.inr ⟨e1, e2, h3 k' i' e1 e2⟩
  refine ⟨fun k' i' x ha hx => ?_, fun k1 i1 k3 i3 ha he => ?_, fun k' i' ha => ?_⟩
  · rcases key k' i' ha with ⟨rfl, rfl⟩ | ⟨e1, e2, e3⟩
    · rw [hc2] at hx
      rw [h1] at ha ⊢
      exact h.1 k i x ha hx
    · rw [hcc k' i' e2] at hx
      rw [e3] at ha ⊢
      exact h.1 k' i' x ha hx
  · have hb : ad'.1 k3 i3 ≠ 0 := by rw [← he]; exact ha
    rcases key k1 i1 ha with ⟨rfl, rfl⟩ | ⟨e1, e2, e3⟩
    · rcases key k3 i3 hb with ⟨rfl, rfl⟩ | ⟨f1, f2, f3⟩
      · exact ⟨rfl, rfl⟩
      · rw [h1] at ha; rw [h1, f3] at he
        have := h.2.1 _ _ _ _ ha he
        exact absurd ⟨this.1.symm, this.2.symm⟩ f1
    · rcases key k3 i3 hb with ⟨rfl, rfl⟩ | ⟨f1, f2, f3⟩
      · rw [e3] at ha; rw [e3, h1] at he
        have := h.2.1 _ _ _ _ ha he
        exact absurd this e1
      · rw [e3] at ha; rw [e3, f3] at he
        exact h.2.1 _ _ _ _ ha he
  · rcases key k' i' ha with ⟨rfl, rfl⟩ | ⟨e1, e2, e3⟩
    · rw [h1] at ha ⊢; exact h.2.2 _ _ ha
    · rw [e3] at ha ⊢; exact h.2.2 _ _ ha
section XNW
variable {p : Program} {l : Launch} {e : Env} {R : Room} {s : State} {m : MethodId} {args : Array Value} {below : List Frame} {meth : Method} {c : Code} {H : Heap} {locs : List Loc} {cells slots : Nat} {Q : State → Prop}
variable {cc : ByteArray} {pc : Nat} {ls : Array Slot} {rest : List Value} {D : va_G} {cA : Nat → ClassId} {B0 : Nat} {ad : kA} {d : kD} {H0 : Heap} {index : Nat}
/-- a new object -/
theorem x_new (hx : p.tables.exec = Jvm.exec) (hb : c.code = cc) (hu : ∀ w ∈ UW, w.before args s = true) {own C : String} {T : u_T} {N ci : Nat} (hin : ∀ w ∈ u_ws C T N, w ∈ UW) (ty0 : Nat → FieldType) (hty : ∀ k, k < N → parseFieldDescriptor (T k).2.2.1 = some (ty0 k)) (hown : s.vm.findClass own = some m.cls) (hlink : Cond.classLink own index C ∈ UW) (hinst : Cond.instantiable C N ∈ UW) (hini : Cond.initialized C ∈ UW) (hK : oK D cA s) (hW : oW D cA B0 ad d H) (hS : va_S (oA B0) s.heap H locs) (hB : oG cA B0 s) {k i : Nat} (hk : k < 40) (hdead : ad.1 k i = 0) {ts : List Nat} (hc : ∀ r gI gJ, xF cA r gI gJ k = some (.inr (ci, xO r gI gJ ts))) (hcl : vwCl[ci]? = some (C, T, N)) (hfs : ∀ j, j < N → defaultValue (ty0 j) = vp_V (xO (fun _ => 0) (fun _ => 0) (fun _ => 0) ts) j) (hf : cells + 1 ≤ R.cells ∧ slots + N ≤ R.slots) (hdg : decode cc pc = .ok (.new index, 3))
    (kk : ∀ (q : Nat) (H1 : Heap), q ≠ 0 → oW D cA B0 (ad1 (zA ad k i) k i q) (zD d k i) H1 → va_S (oA B0) s.heap H1 locs → W p l e R s m args below meth c H1 locs (cells + 1) (slots + N) Q (F0 m (pc + 3) ls (.ref q :: rest))) : W p l e R s m args below meth c H locs cells slots Q (F0 m pc ls rest) := by
  have hKn := hK.1.1 ci _ hcl
  have hle : s.heap.size ≤ H.size := hS.1
  have hb1 := hB.1
  have hb2 : 0 < B0 := Nat.lt_of_le_of_lt (Nat.zero_le _) hB.2.2.2.1
  refine W.newcK hx hb hown (hu _ hlink) (hu _ hinst) (hu _ hini) rfl hdg hf.1 hf.2 hKn.2.1 rfl fun H1 kC' hkC e1 z1 o1 => ?_
  refine kk H.size H1 (by omega) (hW.newG (ad' := zA ad k i) (d' := zD d k i) rfl (fun k' i' h => kC_z hk k' i' h) hdead (by omega) (by omega) (e := .inr (ci, xO (fun _ => 0) (fun _ => 0) (fun _ => 0) ts)) ?_ ⟨_, hcl, (u_born ty0 hu hin hKn hkC e1 hty).to hfs⟩ z1 o1) ⟨by rw [z1]; omega, fun x h1 h2 => (o1 x (by omega)).trans (hS.2.1 x h1 h2), hS.2.2⟩
  rw [kC_x hk, zA_s, zD_s1, zD_s2]; exact hc _ _ _
/-- a field put, final or not: the world's cell changes there alone -/
theorem x_putF (hx : p.tables.exec = Jvm.exec) (hb : c.code = cc) (hu : ∀ w ∈ UW, w.before args s = true) {own C : String} {T : u_T} {N ci : Nat} (hin : ∀ w ∈ u_ws C T N, w ∈ UW) (ty0 : Nat → FieldType) (hty : ∀ k, k < N → parseFieldDescriptor (T k).2.2.1 = some (ty0 k)) (hnm : ∀ a, a < N → ∀ b, b < N → a ≠ b → (T a).2.1 ≠ (T b).2.1) (hown : s.vm.findClass own = some m.cls) (hK : oK D cA s) (hW : oW D cA B0 ad d H) (hS : va_S (oA B0) H0 H locs) {ad' : kA} {d' : kD} (hA : ad'.1 = ad.1) {k i : Nat} (ha : ad.1 k i ≠ 0) {fs : List Value} (hcl : vwCl[ci]? = some (C, T, N)) (f : Nat) {v : Value} (hc0 : kC cA ad d k i = some (.inr (ci, fs))) (hc1 : kC cA ad' d' k i = some (.inr (ci, fs.set f v))) (ho : ∀ k' i', ¬ (k' = k ∧ i' = i) → kC cA ad' d' k' i' = kC cA ad d k' i') (hf : f < N) (hlink : Cond.fieldLink own index (T f).1 (T f).2.1 (T f).2.2.1 ∈ UW) (hfin : (T f).2.2.2 = false ∨ ((T f).2.2.2 = true ∧ meth.name = "<init>" ∧ (T f).1 = own)) {ty : FieldType} (hd : parseFieldDescriptor (T f).2.2.1 = some ty) (hn : narrow ty v = v) (hfit : fits ty v = true) (hl : f < fs.length) (hdg : decode cc pc = .ok (.putfield index, 3))
    (kk : ∀ (H1 : Heap) (locs1 : List Loc), oW D cA B0 ad' d' H1 → va_S (oA B0) H0 H1 locs1 → W p l e R s m args below meth c H1 locs1 cells slots Q (F0 m (pc + 3) ls rest)) : W p l e R s m args below meth c H locs cells slots Q (F0 m pc ls (v :: .ref (ad.1 k i) :: rest)) := by
  have hap := va_apart (own := own) hu hin ty0 hty hnm hK.1 hcl
  obtain ⟨⟨r, h1, cell, q1, q2, q3, q4⟩, hB⟩ := hW.1 k i _ ha hc0
  have hr : r = (C, T, N) := Option.some.inj (h1.symm.trans hcl)
  subst hr
  obtain ⟨hSl, hfc, kCl, hkC, hkind⟩ := hK.1.1 ci _ hcl
  obtain ⟨cf, kf, fi, fl, hi, hsl⟩ := hSl f hf
  have hlay := hu _ (hin _ (u_in_lay hf))
  unfold u_lay at hlay
  have hst := (u_facts hfc hkC (u_lays hu hin hf) hi).1
  rcases hfin with hfin | ⟨hfin, hin2, hdecl⟩
  · rw [if_neg (by rw [hfin]; decide)] at hlay
    have h6 := u_store hfc hkC hkind hlay hi hd hn hfit
    refine W.putK hx hb (f := fl) ⟨hown, hu _ hlink, ⟨_, _, _, hi⟩, hst⟩ (by rw [q2]; exact h6) q1 q3 (by rw [hsl]; exact k2_hasslot (q4 f hf)) rfl rfl hdg fun H' e1 e2 e3 => ?_
    rw [hsl] at e1 ⊢
    exact kk H' _ (hW.setG hA ha hc1 hB ho ⟨_, hcl, t_OB.to (V := updV (vp_V fs) f v) ⟨_, e1, q2, q3, t_set q4 hap hf _⟩ (fun j _ => vp_updV_set hl _ j)⟩ e2 e3) (hS.put e2 e3 hB)
  · rw [if_pos hfin] at hlay
    have hcf : m.cls = cf := by
      obtain ⟨_, _, c', _, _, _, -, -, hf', -, -, -, hown2, -⟩ := Cond.laysFinal_spec hlay
      have e1 : c' = cf := by have := hi.symm.trans hf'; simp at this; exact this.1.symm
      rw [hdecl] at hown2
      rw [← e1]; exact Option.some.inj (hown.symm.trans hown2)
    have h6 := u_fits hfc hkC hkind (Or.inr hlay) hi hd hn hfit
    refine W.putFinK hx hb hown (hu _ hlink) hi hst hcf hin2 (by rw [q2]; exact h6) q1 q3 (by rw [hsl]; exact k2_hasslot (q4 f hf)) rfl rfl hdg fun H' e1 e2 e3 => ?_
    rw [hsl] at e1 ⊢
    exact kk H' _ (hW.setG hA ha hc1 hB ho ⟨_, hcl, t_OB.to (V := updV (vp_V fs) f v) ⟨_, e1, q2, q3, t_set q4 hap hf _⟩ (fun j _ => vp_updV_set hl _ j)⟩ e2 e3) (hS.put e2 e3 hB)
/-- a call of a constructor -/
theorem x_runI {y : MethodName} {bytes : ByteArray} {maxL nL mc ms n n0 : Nat} {own : String} {As st0 : List Value} {a : Nat} (S : CallFix p m c cc nL s args UW own) {Qc : Array Value → State → Outcome → State → Prop} (hM : oM l y (wu y bytes maxL none) n mc ms D cA B0 ad d (.ref a :: As) Qc) (hcd : Cond.code y bytes maxL none ∈ UW) (hin : Cond.instanceMethod y ∈ UW) (hini : Cond.initialized y.cls ∈ UW) (hml : Cond.methodLink own index y ∈ UW) (hd : y.name = "<init>" ∧ y.cls ≠ "java/lang/invoke/MethodHandle" ∧ y.cls ≠ "java/lang/invoke/VarHandle" ∧ (parseMethodDescriptor y.desc).map (fun d => d.parameters.length) = some n0) (hn0 : As.length = n0) (hR : n + 1 ≤ R.frames ∧ 8 + (maxL + 11) + 100 * n ≤ R.locals)
    (hK : oK D cA s) (hW : oW D cA B0 ad d H) (hB : oG cA B0 s) (hS : va_S (oA B0) s.heap H locs) (hsz : ls.size = nL) (hst0 : st0 = As.reverse ++ .ref a :: rest) (hrm : 2 * (F0 m pc ls st0).monitorRoom + (rest.map fun v => v.category).sum ≤ 8) (hf : cells + mc ≤ R.cells ∧ slots + ms ≤ R.slots) (hdg : decode cc pc = .ok (.invokespecial index, 3)) :
    va_Run p l e R s m args below meth c H locs cells slots mc ms (F0 m pc ls st0) rest (Qc (Value.ref a :: As).toArray) (oA B0) :=
  va_runI S hM (cwI n0 S.2.2.2.2 (uw_gW (fun _ h => h) hcd) rfl rfl rfl (S.2.2.2.2 _ hini) (S.2.2.2.2 _ hml) (S.2.2.2.2 _ hin) hd.1 hd.2 hR) ⟨oPc_blind, fun U hU hWm => ⟨rfl, hK.warm hWm, by rw [hU]; exact hW, hB.go hS hU hWm.alike⟩⟩ rfl hn0 hsz hst0 hrm hdg hf
theorem o_callvA {mc ms : Nat} {st0 : List Value} {post : kA × kD → Prop} {av : Array Value} (hr : va_Run p l e R s m args below meth c H locs cells slots mc ms (F0 m pc ls st0) rest (oQvA D cA B0 post av) (oA B0)) (hS : va_S (oA B0) s.heap H locs) (kk : ∀ (u : kA × kD), post u → oGo p l e R s m args below meth c Q D cA B0 u.1 ls (cells + mc) (slots + ms) (pc + 3) rest u.2) : W p l e R s m args below meth c H locs cells slots Q (F0 m pc ls st0) :=
  va_callv hr hS (fun _ _ h => h) (fun _ h => h) (fun u t H1 locs1 ht _ hp hb _ _ hS1 => kk u hp H1 locs1 (by rw [← ht]; exact hb) hS1)
end XNW
