/-! the keyed world: data by (kind, number, place); what a cell holds is read off the data; no picture of the heap is seen above this part -/
abbrev kD : Type := (Nat → Nat → Nat → Int32) × (Nat → Nat → Nat → Int64) × (Nat → Nat → Nat → Nat)
/-- where each key's cell lies (0: nowhere), and the addresses that its reference fields hold (0: null) -/
abbrev kA : Type := (Nat → Nat → Nat) × (Nat → Nat → Nat → Nat)
def up3 {α : Type} (g : Nat → Nat → Nat → α) (k i f : Nat) (v : α) : Nat → Nat → Nat → α := fun k' i' => if k' = k ∧ i' = i then va_up (g k i) f v else g k' i'
abbrev dI (d : kD) : Nat → Nat → Nat → Int32 := d.1
abbrev dJ (d : kD) : Nat → Nat → Nat → Int64 := d.2.1
abbrev dN (d : kD) : Nat → Nat → Nat → Nat := d.2.2
def uI (d : kD) (k i f : Nat) (v : Int32) : kD := (up3 d.1 k i f v, d.2)
def uJ (d : kD) (k i f : Nat) (v : Int64) : kD := (d.1, up3 d.2.1 k i f v, d.2.2)
theorem up3_same {α : Type} (g : Nat → Nat → Nat → α) (k i f : Nat) (v : α) : up3 g k i f v k i = va_up (g k i) f v := by unfold up3; rw [if_pos ⟨rfl, rfl⟩]
theorem up3_ne {α : Type} (g : Nat → Nat → Nat → α) {k i k' i' : Nat} (f : Nat) (v : α) (h : ¬ (k' = k ∧ i' = i)) : up3 g k i f v k' i' = g k' i' := by unfold up3; rw [if_neg h]
/-- what the cell of a key holds: its own data, and addresses -/
abbrev kF (cA : Nat → ClassId) (a : (Nat → Nat → Nat) × (Nat → Nat → Nat → Nat)) (gI : Nat → Int32) (gJ : Nat → Int64) (gN : Nat → Nat) (k i : Nat) : Option va_E := if k < 40 then xF cA (a.2 k i) gI gJ k else mF cA a gI gJ gN k i
def kC (cA : Nat → ClassId) (ad : kA) (d : kD) (k i : Nat) : Option va_E := kF cA ad (d.1 k i) (d.2.1 k i) (d.2.2 k i) k i
def oT (cA : Nat → ClassId) : List (ClassId × FieldType) := [(cA 0, .int), (cA 1, .long), (cA 2, .boolean), (cA 3, .object "java/lang/Object"), (cA 4, .array .int)]
def oK (D : va_G) (cA : Nat → ClassId) (U : State) : Prop := va_K D vwCl (oT cA) U ∧ ∀ w ∈ nW, va_Nw w U
/-- a key whose address isn't 0 has a cell, which holds its data; two keys have two cells -/
def oW (D : va_G) (cA : Nat → ClassId) (B0 : Nat) (ad : kA) (d : kD) (H : Heap) : Prop := (∀ k i e, ad.1 k i ≠ 0 → kC cA ad d k i = some e → va_at D vwCl (ad.1 k i, e) H ∧ B0 ≤ ad.1 k i) ∧ (∀ k i k' i', ad.1 k i ≠ 0 → ad.1 k i = ad.1 k' i' → k = k' ∧ i = i') ∧ ∀ k i, ad.1 k i ≠ 0 → ad.1 k i < H.size
theorem oK.warm {D : va_G} {cA : Nat → ClassId} {u U : State} (hW : u.WarmedH U.vm) (h : oK D cA u) : oK D cA U := ⟨va_K.moved hW.alike h.1, fun w hw => by
  have h2 := h.2 w hw
  rcases nW_ok w hw with ⟨a, i, x, b, rfl⟩ | ⟨a, b, rfl⟩
  · exact va_Nw.warmM hW h2
  · exact va_Nw.warmC hW h2⟩
theorem oK.same {D : va_G} {cA : Nat → ClassId} {u U : State} (hv : u.vm = U.vm) (h : oK D cA u) : oK D cA U := ⟨va_K.moved (by rw [hv]; exact Vm.Alike.refl _) h.1, fun w hw => by
  have h2 := h.2 w hw
  rcases nW_ok w hw with ⟨a, i, x, b, rfl⟩ | ⟨a, b, rfl⟩
  · exact va_Nw.same rfl hv h2
  · exact va_Nw.same rfl hv h2⟩
theorem o_one {D : va_G} {cl : List vw_C} {a : Nat} {e : va_E} {H : Heap} (h : va_at D cl (a, e) H) : va_P D cl [(a, e)] H := by
  intro k q hq
  match k with
  | 0 => cases hq; exact h
  | k + 1 => simp at hq
theorem o_two {D : va_G} {cl : List vw_C} {a b : Nat} {e g : va_E} {H : Heap} (h : va_at D cl (a, e) H) (h2 : va_at D cl (b, g) H) : va_P D cl [(a, e), (b, g)] H := by
  intro k q hq
  match k with
  | 0 => cases hq; exact h
  | 1 => cases hq; exact h2
  | k + 2 => simp at hq
/-- one cell's content changes with its data -/
theorem oW.set {D : va_G} {cA : Nat → ClassId} {B0 : Nat} {ad : kA} {d d' : kD} {H H1 : Heap} (h : oW D cA B0 ad d H) {k i : Nat} (ha : ad.1 k i ≠ 0) {e' : va_E} (hc' : kC cA ad d' k i = some e') (hB : B0 ≤ ad.1 k i) (ho : ∀ k' i', ¬ (k' = k ∧ i' = i) → kC cA ad d' k' i' = kC cA ad d k' i') (h1 : va_at D vwCl (ad.1 k i, e') H1) (hz : H1.size = H.size) (hq : ∀ q : Nat, q ≠ ad.1 k i → H1[q]? = H[q]?) : oW D cA B0 ad d' H1 := by
  refine ⟨fun k' i' x ha' hx => ?_, h.2.1, fun k' i' h' => by rw [hz]; exact h.2.2 k' i' h'⟩
  by_cases hk : k' = k ∧ i' = i
  · obtain ⟨rfl, rfl⟩ := hk
    rw [hc'] at hx; cases hx
    exact ⟨h1, hB⟩
  · have hx2 := hx
    rw [ho k' i' hk] at hx2
    refine ⟨(h.1 _ _ _ ha' hx2).1.kept (hq _ (fun q => hk ?_)), (h.1 _ _ _ ha' hx2).2⟩
    exact h.2.1 _ _ _ _ ha' q
theorem uI_ne {cA : Nat → ClassId} {ad : kA} {d : kD} {k i f : Nat} {v : Int32} (k' i' : Nat) (h : ¬ (k' = k ∧ i' = i)) : kC cA ad (uI d k i f v) k' i' = kC cA ad d k' i' := by
  show kF cA ad (up3 d.1 k i f v k' i') _ _ k' i' = _
  rw [up3_ne _ _ _ h]; rfl
theorem uJ_ne {cA : Nat → ClassId} {ad : kA} {d : kD} {k i f : Nat} {v : Int64} (k' i' : Nat) (h : ¬ (k' = k ∧ i' = i)) : kC cA ad (uJ d k i f v) k' i' = kC cA ad d k' i' := by
  show kF cA ad _ (up3 d.2.1 k i f v k' i') _ k' i' = _
  rw [up3_ne _ _ _ h]; rfl
def oA (B0 : Nat) : Nat → Prop := fun q => B0 ≤ q
def oR (n mc ms : Nat) : Room := { frames := n, cells := mc, slots := ms, locals := 100 * n }
section OM
variable {p : Program} {l : Launch} {e : Env} {R : Room} {s : State} {m : MethodId} {args : Array Value} {below : List Frame} {meth : Method} {c : Code} {H : Heap} {locs : List Loc} {cells slots : Nat} {Q : State → Prop}
variable {cc : ByteArray} {pc : Nat} {ls : Array Slot} {rest : List Value} {D : va_G} {cA : Nat → ClassId} {B0 : Nat} {ad : kA} {d : kD} {H0 : Heap}
theorem o_get (hexec : p.tables.exec = Jvm.exec) (hb : c.code = cc) {own C : String} {T : u_T} {N ci index : Nat} {Ts : List Cond} (hts : ∀ w ∈ Ts, w.before args s = true) (hin : ∀ w ∈ u_ws C T N, w ∈ Ts) (hown : s.vm.findClass own = some m.cls) (hK : oK D cA s) (hW : oW D cA B0 ad d H) {k i : Nat} (ha : ad.1 k i ≠ 0) {fs : List Value} (hc : kC cA ad d k i = some (.inr (ci, fs))) (hcl : vwCl[ci]? = some (C, T, N)) (f : Nat) (hf : f < N) (hlink : (Cond.fieldLink own index (T f).1 (T f).2.1 (T f).2.2.1).before args s = true) {v : Value} (hv : fs[f]? = some v) (hdg : decode cc pc = .ok (.getfield index, 3))
    (kk : W p l e R s m args below meth c H locs cells slots Q (F0 m (pc + 3) ls (v :: rest))) : W p l e R s m args below meth c H locs cells slots Q (F0 m pc ls (.ref (ad.1 k i) :: rest)) :=
  va_get hexec hb hts hin hown hK.1 (o_one (hW.1 k i _ ha hc).1) 0 rfl hcl f hf hlink (fun _ h9 => h9) hv hdg kk
theorem o_D1 {a : Nat} {e : va_E} (h : B0 ≤ a) : va_D (oA B0) [(a, e)] := by
  refine ⟨fun i j x y hi hj _ => ?_, fun k q hq => ?_⟩
  · have h1 := (List.getElem?_eq_some_iff.mp hi).1
    have h2 := (List.getElem?_eq_some_iff.mp hj).1
    simp at h1 h2; omega
  · match k with
    | 0 => cases hq; exact h
    | k + 1 => simp at hq
theorem o_puti (hexec : p.tables.exec = Jvm.exec) (hb : c.code = cc) {own C : String} {T : u_T} {N ci index : Nat} {Ts : List Cond} (hts : ∀ w ∈ Ts, w.before args s = true) (hin : ∀ w ∈ u_ws C T N, w ∈ Ts) (ty0 : Nat → FieldType) (hty : ∀ k, k < N → parseFieldDescriptor (T k).2.2.1 = some (ty0 k)) (hnm : ∀ a, a < N → ∀ b, b < N → a ≠ b → (T a).2.1 ≠ (T b).2.1) (hown : s.vm.findClass own = some m.cls) (hK : oK D cA s) (hW : oW D cA B0 ad d H) (hS : va_S (oA B0) H0 H locs) {k i : Nat} (ha : ad.1 k i ≠ 0) {fs : (Nat → Int32) → List Value} (hc : ∀ g, kF cA ad g (d.2.1 k i) (d.2.2 k i) k i = some (.inr (ci, fs g))) (hcl : vwCl[ci]? = some (C, T, N)) (f : Nat) (hf : f < N) (hlink : (Cond.fieldLink own index (T f).1 (T f).2.1 (T f).2.2.1).before args s = true) (hfin : (T f).2.2.2 = false) {ty : FieldType} (hd : parseFieldDescriptor (T f).2.2.1 = some ty) {v : Int32} (hset : fs (va_up (d.1 k i) f v) = (fs (d.1 k i)).set f (.int v)) (hn : narrow ty (.int v) = .int v) (hfit : fits ty (.int v) = true) (hl : f < (fs (d.1 k i)).length) (hdg : decode cc pc = .ok (.putfield index, 3))
    (kk : ∀ (H1 : Heap) (locs1 : List Loc), oW D cA B0 ad (uI d k i f v) H1 → va_S (oA B0) H0 H1 locs1 → W p l e R s m args below meth c H1 locs1 cells slots Q (F0 m (pc + 3) ls rest)) : W p l e R s m args below meth c H locs cells slots Q (F0 m pc ls (.int v :: .ref (ad.1 k i) :: rest)) := by
  have hc0 : kC cA ad d k i = some (.inr (ci, fs (d.1 k i))) := hc _
  have hc1 : kC cA ad (uI d k i f v) k i = some (.inr (ci, (fs (d.1 k i)).set f (.int v))) := by
    show kF cA ad (up3 d.1 k i f v k i) _ _ k i = _
    rw [up3_same, ← hset]; exact hc _
  have hap := va_apart (own := own) hts hin ty0 hty hnm hK.1 hcl
  obtain ⟨⟨r, h1, cell, q1, q2, q3, q4⟩, hB⟩ := hW.1 k i _ ha hc0
  have hr : r = (C, T, N) := Option.some.inj (h1.symm.trans hcl)
  subst hr
  obtain ⟨hSl, hfc, kCl, hkC, hkind⟩ := hK.1.1 ci _ hcl
  obtain ⟨cf, kf, fi, fl, hi, hsl⟩ := hSl f hf
  have hlay := hts _ (hin _ (u_in_lay hf))
  unfold u_lay at hlay
  rw [if_neg (by rw [hfin]; decide)] at hlay
  have hst := (u_facts hfc hkC (u_lays hts hin hf) hi).1
  have h6 := u_store hfc hkC hkind hlay hi hd hn hfit
  refine W.putK hexec hb (f := fl) ⟨hown, hlink, ⟨_, _, _, hi⟩, hst⟩ (by rw [q2]; exact h6) q1 q3 (by rw [hsl]; exact k2_hasslot (q4 f hf)) rfl rfl hdg fun H' e1 e2 e3 => ?_
  rw [hsl] at e1 ⊢
  refine kk H' _ (hW.set ha hc1 hB (fun k' i' h => uI_ne k' i' h) ⟨_, hcl, t_OB.to (V := updV (vp_V (fs (d.1 k i))) f (.int v)) ⟨_, e1, q2, q3, t_set q4 hap hf _⟩ (fun j _ => vp_updV_set hl _ j)⟩ e2 e3) (hS.put e2 e3 hB)
theorem o_putl (hexec : p.tables.exec = Jvm.exec) (hb : c.code = cc) {own C : String} {T : u_T} {N ci index : Nat} {Ts : List Cond} (hts : ∀ w ∈ Ts, w.before args s = true) (hin : ∀ w ∈ u_ws C T N, w ∈ Ts) (ty0 : Nat → FieldType) (hty : ∀ k, k < N → parseFieldDescriptor (T k).2.2.1 = some (ty0 k)) (hnm : ∀ a, a < N → ∀ b, b < N → a ≠ b → (T a).2.1 ≠ (T b).2.1) (hown : s.vm.findClass own = some m.cls) (hK : oK D cA s) (hW : oW D cA B0 ad d H) (hS : va_S (oA B0) H0 H locs) {k i : Nat} (ha : ad.1 k i ≠ 0) {fs : (Nat → Int64) → List Value} (hc : ∀ g, kF cA ad (d.1 k i) g (d.2.2 k i) k i = some (.inr (ci, fs g))) (hcl : vwCl[ci]? = some (C, T, N)) (f : Nat) (hf : f < N) (hlink : (Cond.fieldLink own index (T f).1 (T f).2.1 (T f).2.2.1).before args s = true) (hfin : (T f).2.2.2 = false) (hd : parseFieldDescriptor (T f).2.2.1 = some .long) {v : Int64} (hset : fs (va_up (d.2.1 k i) f v) = (fs (d.2.1 k i)).set f (.long v)) (hl : f < (fs (d.2.1 k i)).length) (hdg : decode cc pc = .ok (.putfield index, 3))
    (kk : ∀ (H1 : Heap) (locs1 : List Loc), oW D cA B0 ad (uJ d k i f v) H1 → va_S (oA B0) H0 H1 locs1 → W p l e R s m args below meth c H1 locs1 cells slots Q (F0 m (pc + 3) ls rest)) : W p l e R s m args below meth c H locs cells slots Q (F0 m pc ls (.long v :: .ref (ad.1 k i) :: rest)) := by
  have hc0 : kC cA ad d k i = some (.inr (ci, fs (d.2.1 k i))) := hc _
  have hc1 : kC cA ad (uJ d k i f v) k i = some (.inr (ci, (fs (d.2.1 k i)).set f (.long v))) := by
    show kF cA ad _ (up3 d.2.1 k i f v k i) _ k i = _
    rw [up3_same, ← hset]; exact hc _
  have hap := va_apart (own := own) hts hin ty0 hty hnm hK.1 hcl
  obtain ⟨⟨r, h1, cell, q1, q2, q3, q4⟩, hB⟩ := hW.1 k i _ ha hc0
  have hr : r = (C, T, N) := Option.some.inj (h1.symm.trans hcl)
  subst hr
  obtain ⟨hSl, hfc, kCl, hkC, hkind⟩ := hK.1.1 ci _ hcl
  obtain ⟨cf, kf, fi, fl, hi, hsl⟩ := hSl f hf
  have hlay := hts _ (hin _ (u_in_lay hf))
  unfold u_lay at hlay
  rw [if_neg (by rw [hfin]; decide)] at hlay
  have hst := (u_facts hfc hkC (u_lays hts hin hf) hi).1
  have h6 := u_store hfc hkC hkind hlay hi hd (v := .long v) rfl rfl
  refine W.putK hexec hb (f := fl) ⟨hown, hlink, ⟨_, _, _, hi⟩, hst⟩ (by rw [q2]; exact h6) q1 q3 (by rw [hsl]; exact k2_hasslot (q4 f hf)) rfl rfl hdg fun H' e1 e2 e3 => ?_
  rw [hsl] at e1 ⊢
  refine kk H' _ (hW.set ha hc1 hB (fun k' i' h => uJ_ne k' i' h) ⟨_, hcl, t_OB.to (V := updV (vp_V (fs (d.2.1 k i))) f (.long v)) ⟨_, e1, q2, q3, t_set q4 hap hf _⟩ (fun j _ => vp_updV_set hl _ j)⟩ e2 e3) (hS.put e2 e3 hB)
theorem o_ild (hexec : p.tables.exec = Jvm.exec) (hb : c.code = cc) (hK : oK D cA s) (hW : oW D cA B0 ad d H) {k i n : Nat} (ha : ad.1 k i ≠ 0) (hc : kC cA ad d k i = some (.inl (cA 0, n, .inl (d.1 k i)))) {j : Int32} (hin : vp_in j n) (hdg : decode cc pc = .ok (.iaload, 1))
    (kk : W p l e R s m args below meth c H locs cells slots Q (F0 m (pc + 1) ls (.int (d.1 k i j.toNatClampNeg) :: rest))) : W p l e R s m args below meth c H locs cells slots Q (F0 m pc ls (.int j :: .ref (ad.1 k i) :: rest)) :=
  va_iald hexec hb hK.1 (o_one (hW.1 k i _ ha hc).1) 0 0 rfl rfl hin hdg kk
theorem o_zld (hexec : p.tables.exec = Jvm.exec) (hb : c.code = cc) (hK : oK D cA s) (hW : oW D cA B0 ad d H) {k i n : Nat} (ha : ad.1 k i ≠ 0) (hc : kC cA ad d k i = some (.inl (cA 2, n, .inl (d.1 k i)))) {j : Int32} (hin : vp_in j n) (hdg : decode cc pc = .ok (.baload, 1))
    (kk : W p l e R s m args below meth c H locs cells slots Q (F0 m (pc + 1) ls (.int (d.1 k i j.toNatClampNeg) :: rest))) : W p l e R s m args below meth c H locs cells slots Q (F0 m pc ls (.int j :: .ref (ad.1 k i) :: rest)) :=
  va_zald hexec hb hK.1 (o_one (hW.1 k i _ ha hc).1) 0 2 rfl rfl hin hdg kk
theorem o_lld (hexec : p.tables.exec = Jvm.exec) (hb : c.code = cc) (hK : oK D cA s) (hW : oW D cA B0 ad d H) {k i n : Nat} (ha : ad.1 k i ≠ 0) (hc : kC cA ad d k i = some (.inl (cA 1, n, .inr (.inl (d.2.1 k i))))) {j : Int32} (hin : vp_in j n) (hdg : decode cc pc = .ok (.laload, 1))
    (kk : W p l e R s m args below meth c H locs cells slots Q (F0 m (pc + 1) ls (.long (d.2.1 k i j.toNatClampNeg) :: rest))) : W p l e R s m args below meth c H locs cells slots Q (F0 m pc ls (.int j :: .ref (ad.1 k i) :: rest)) :=
  va_lald hexec hb hK.1 (o_one (hW.1 k i _ ha hc).1) 0 1 rfl rfl hin hdg kk
theorem o_ist (hexec : p.tables.exec = Jvm.exec) (hb : c.code = cc) (hK : oK D cA s) (hW : oW D cA B0 ad d H) (hS : va_S (oA B0) H0 H locs) {k i n : Nat} (ha : ad.1 k i ≠ 0) (hc : ∀ g, kF cA ad g (d.2.1 k i) (d.2.2 k i) k i = some (.inl (cA 0, n, .inl g))) {j x : Int32} (hin : vp_in j n) (hdg : decode cc pc = .ok (.iastore, 1))
    (kk : ∀ (H1 : Heap) (locs1 : List Loc), oW D cA B0 ad (uI d k i j.toNatClampNeg x) H1 → va_S (oA B0) H0 H1 locs1 → W p l e R s m args below meth c H1 locs1 cells slots Q (F0 m (pc + 1) ls rest)) : W p l e R s m args below meth c H locs cells slots Q (F0 m pc ls (.int x :: .int j :: .ref (ad.1 k i) :: rest)) := by
  have hc0 : kC cA ad d k i = some (.inl (cA 0, n, .inl (d.1 k i))) := hc _
  have hc1 : kC cA ad (uI d k i j.toNatClampNeg x) k i = some (.inl (cA 0, n, .inl (upd (d.1 k i) j.toNatClampNeg x))) := by
    show kF cA ad (up3 d.1 k i _ x k i) _ _ k i = _
    rw [up3_same]; exact hc _
  obtain ⟨hat, hB⟩ := hW.1 k i _ ha hc0
  refine W.iast hexec hb hat ((hK.1.2 0 _ rfl).1 n (fun j => .int (d.1 k i j))) (fun q => by cases q) (by show ¬ (j < 0 ∨ (arrV _ _ _).slots.size ≤ _); rw [arrV_size]; exact hin) rfl rfl hdg fun H1 e z oq => ?_
  refine kk H1 _ (hW.set ha hc1 hB (fun k' i' h => uI_ne k' i' h) ?_ z oq) (hS.put z oq hB)
  show H1[ad.1 k i]? = some (vp_cell _ _)
  rw [e]
  rw [vp_cell_i, vp_cell_i, arrV_store]
  congr 2
  funext q
  by_cases hq : q = j.toNatClampNeg
  · subst hq
    simp [updV, upd]
  · simp [updV, upd, hq]
theorem o_zst (hexec : p.tables.exec = Jvm.exec) (hb : c.code = cc) (hK : oK D cA s) (hW : oW D cA B0 ad d H) (hS : va_S (oA B0) H0 H locs) {k i n : Nat} (ha : ad.1 k i ≠ 0) (hc : ∀ g, kF cA ad g (d.2.1 k i) (d.2.2 k i) k i = some (.inl (cA 2, n, .inl g))) {j x : Int32} (hin : vp_in j n) (hx : vp_nar .boolean x = x) (hdg : decode cc pc = .ok (.bastore, 1))
    (kk : ∀ (H1 : Heap) (locs1 : List Loc), oW D cA B0 ad (uI d k i j.toNatClampNeg x) H1 → va_S (oA B0) H0 H1 locs1 → W p l e R s m args below meth c H1 locs1 cells slots Q (F0 m (pc + 1) ls rest)) : W p l e R s m args below meth c H locs cells slots Q (F0 m pc ls (.int x :: .int j :: .ref (ad.1 k i) :: rest)) := by
  have hc0 : kC cA ad d k i = some (.inl (cA 2, n, .inl (d.1 k i))) := hc _
  have hc1 : kC cA ad (uI d k i j.toNatClampNeg x) k i = some (.inl (cA 2, n, .inl (upd (d.1 k i) j.toNatClampNeg x))) := by
    show kF cA ad (up3 d.1 k i _ x k i) _ _ k i = _
    rw [up3_same]; exact hc _
  obtain ⟨hat, hB⟩ := hW.1 k i _ ha hc0
  refine W.zast hexec hb hat ((hK.1.2 2 _ rfl).1 n (fun j => .int (d.1 k i j))) (fun q => by cases q) (by show ¬ (j < 0 ∨ (arrV _ _ _).slots.size ≤ _); rw [arrV_size]; exact hin) rfl rfl hdg fun H1 e z oq => ?_
  refine kk H1 _ (hW.set ha hc1 hB (fun k' i' h => uI_ne k' i' h) ?_ z oq) (hS.put z oq hB)
  show H1[ad.1 k i]? = some (vp_cell _ _)
  rw [e]
  rw [vp_cell_i, vp_cell_i, arrV_store]
  congr 2
  funext q
  by_cases hq : q = j.toNatClampNeg
  · subst hq
    have hx2 := hx
    unfold vp_nar at hx2
    simp [updV, upd]
    simp only [narrow] at hx2 ⊢
    rw [hx2]
  · simp [updV, upd, hq]
theorem o_lst (hexec : p.tables.exec = Jvm.exec) (hb : c.code = cc) (hK : oK D cA s) (hW : oW D cA B0 ad d H) (hS : va_S (oA B0) H0 H locs) {k i n : Nat} (ha : ad.1 k i ≠ 0) (hc : ∀ g, kF cA ad (d.1 k i) g (d.2.2 k i) k i = some (.inl (cA 1, n, .inr (.inl g)))) {j : Int32} {x : Int64} (hin : vp_in j n) (hdg : decode cc pc = .ok (.lastore, 1))
    (kk : ∀ (H1 : Heap) (locs1 : List Loc), oW D cA B0 ad (uJ d k i j.toNatClampNeg x) H1 → va_S (oA B0) H0 H1 locs1 → W p l e R s m args below meth c H1 locs1 cells slots Q (F0 m (pc + 1) ls rest)) : W p l e R s m args below meth c H locs cells slots Q (F0 m pc ls (.long x :: .int j :: .ref (ad.1 k i) :: rest)) := by
  have hc0 : kC cA ad d k i = some (.inl (cA 1, n, .inr (.inl (d.2.1 k i)))) := hc _
  have hc1 : kC cA ad (uJ d k i j.toNatClampNeg x) k i = some (.inl (cA 1, n, .inr (.inl (vp_updL (d.2.1 k i) j.toNatClampNeg x)))) := by
    show kF cA ad _ (up3 d.2.1 k i _ x k i) _ k i = _
    rw [up3_same]; exact hc _
  obtain ⟨hat, hB⟩ := hW.1 k i _ ha hc0
  refine W.last hexec hb hat ((hK.1.2 1 _ rfl).1 n (fun j => .long (d.2.1 k i j))) (fun q => by cases q) (by show ¬ (j < 0 ∨ (arrV _ _ _).slots.size ≤ _); rw [arrV_size]; exact hin) rfl rfl hdg fun H1 e z oq => ?_
  refine kk H1 _ (hW.set ha hc1 hB (fun k' i' h => uJ_ne k' i' h) ?_ z oq) (hS.put z oq hB)
  show H1[ad.1 k i]? = some (vp_cell _ _)
  rw [e]
  rw [vp_cell_l, vp_cell_l, arrV_store]
  congr 2
  funext q
  by_cases hq : q = j.toNatClampNeg
  · subst hq
    simp [updV, vp_updL]
  · simp [updV, vp_updL, hq]
end OM
/-! contracts -/
/-- what lies outside the world: the list's own empty array (its address is kept as cA 100), and the static that holds it -/
def oG (cA : Nat → ClassId) (B0 : Nat) (U : State) : Prop := B0 ≤ U.heap.size ∧ va_Z "java/util/ArrayList" "DEFAULTCAPACITY_EMPTY_ELEMENTDATA" "[Ljava/lang/Object;" (.ref (cA 100)) (oA B0) U U.heap ∧ va_T (.object "java/lang/Object") (cA 100) 0 (fun _ => .null) (oA B0) U U.heap ∧ cA 100 < B0 ∧ va_AO "java/lang/Object" U ∧ va_Mi "[Ljava/lang/Object;" (cA 101) U ∧ va_Dc U
theorem oG.go {cA : Nat → ClassId} {B0 : Nat} {s U : State} {H : Heap} {locs : List Loc} (h : oG cA B0 s) (hS : va_S (oA B0) s.heap H locs) (hU : U.heap = H) (hv : s.vm.Alike U.vm) : oG cA B0 U := by
  obtain ⟨h1, h2, h3, h4, h5, h6, h7⟩ := h
  have hlt : cA 100 < s.heap.size := Nat.lt_of_lt_of_le h4 h1
  refine ⟨by rw [hU]; exact Nat.le_trans h1 hS.1, ?_, ?_, h4, h5.moved hv, h6.moved hv, h7.moved hv⟩
  · rw [hU]
    exact (va_Z.kept h2 (fun a ha hn => hS.2.1 a ha hn)).moved hv
  · rw [hU]
    exact (va_T.kept h3 (fun a ha hn => hS.2.1 a ha hn)).moved hv
def oPc (D : va_G) (cA : Nat → ClassId) (B0 : Nat) (ad : kA) (d : kD) (av : List Value) : Array Value → State → Prop := va_Pc av (fun U => oK D cA U ∧ oW D cA B0 ad d U.heap ∧ oG cA B0 U)
def oB (D : va_G) (cA : Nat → ClassId) (B0 : Nat) (ad : kA) (d : kD) (t : State) : Prop := oW D cA B0 ad d t.heap
def oQi (D : va_G) (cA : Nat → ClassId) (B0 : Nat) (ad : kA) (post : Int32 → kD → Prop) : Array Value → State → Outcome → State → Prop := va_Qi post (oB D cA B0 ad) (oA B0)
def oQl (D : va_G) (cA : Nat → ClassId) (B0 : Nat) (ad : kA) (post : Int64 → kD → Prop) : Array Value → State → Outcome → State → Prop := va_Ql post (oB D cA B0 ad) (oA B0)
def oQv (D : va_G) (cA : Nat → ClassId) (B0 : Nat) (ad : kA) (post : kD → Prop) : Array Value → State → Outcome → State → Prop := va_Qv post (oB D cA B0 ad) (oA B0)
def oQq (D : va_G) (cA : Nat → ClassId) (B0 : Nat) (ad : kA) (post : Option Nat → kD → Prop) : Array Value → State → Outcome → State → Prop := va_Qq post (oB D cA B0 ad) (oA B0)
def oM (l : Launch) (y : MethodName) (ws : List Cond) (n mc ms : Nat) (D : va_G) (cA : Nat → ClassId) (B0 : Nat) (ad : kA) (d : kD) (av : List Value) (Qc : Array Value → State → Outcome → State → Prop) : Prop := Met l y ws (oR n mc ms) (oPc D cA B0 ad d av) Qc mc ms (oA B0)
theorem oPc_blind {D : va_G} {cA : Nat → ClassId} {B0 : Nat} {ad : kA} {d : kD} {av : List Value} : FrameBlind (oPc D cA B0 ad d av) := fun _ U _ _ q => ⟨q.1, oK.same (u := U) rfl q.2.1, q.2.2.1, q.2.2.2.1, va_Z.moved (u := U) (Vm.Alike.refl _) q.2.2.2.2.1, va_T.moved (u := U) (Vm.Alike.refl _) q.2.2.2.2.2.1, q.2.2.2.2.2.2.1, va_AO.moved (u := U) (Vm.Alike.refl _) q.2.2.2.2.2.2.2.1, va_Mi.moved (u := U) (Vm.Alike.refl _) q.2.2.2.2.2.2.2.2.1, va_Dc.moved (u := U) (Vm.Alike.refl _) q.2.2.2.2.2.2.2.2.2⟩
theorem o_ofW {l : Launch} {y : MethodName} {ws ws' : List Cond} {n mc ms : Nat} {D : va_G} {cA : Nat → ClassId} {B0 : Nat} {ad : kA} {d : kD} {av : List Value} {Qc : Array Value → State → Outcome → State → Prop} {cc : ByteArray} {maxL : Nat} {ret : Option FieldType} (hy : plainName y.cls = true) (hw : ws = Cond.code y cc maxL ret :: ws') (hlen : (lg_sl av).length ≤ maxL)
    (body : ∀ (p : Program) (e : Env) (s : State) (m : MethodId) (below : List Frame) (meth : Method) (c : Code), p.tables.exec = Jvm.exec → c.code = cc → meth.sig.returnType = ret → c.maxLocals = maxL → (∀ w ∈ ws, w.before av.toArray s = true) → s.vm.findClass y.cls = some m.cls → meth.locks = false → meth.name = y.name → oK D cA s → oW D cA B0 ad d s.heap → oG cA B0 s → va_S (oA B0) s.heap s.heap [] → ∀ ls : Array Slot, lv_has ls maxL (lv_args 0 av) →
      W p l e (oR n mc ms) s m av.toArray below meth c s.heap [] 0 0 (MQ below Qc av.toArray s mc ms (oA B0)) (F0 m 0 ls [])) : oM l y ws n mc ms D cA B0 ad d av Qc := by
  refine Met.ofW (cc := cc) (maxL := maxL) (ret := ret) hy hw ?_
  intro p e s m args below meth c s₁ B hml hv
  obtain ⟨rfl, hK, hW, hB⟩ := hv
  have hl := lv_entry av (n := maxL) hlen
  rw [lg_entry_eq]
  exact body p e s m below meth c B.exec B.bytes B.returns hml (atoms_spec (ws := ws) B.pre) (findClass_of_methodNamed B.named) B.notSynchronized (name_of_methodNamed B.named B.method).1 hK hW hB va_S.rf _ hl
section OR
variable {p : Program} {l : Launch} {e : Env} {R : Room} {s : State} {m : MethodId} {args : Array Value} {below : List Frame} {meth : Method} {c : Code} {H : Heap} {locs : List Loc} {cells slots : Nat}
variable {cc : ByteArray} {pc : Nat} {ls : Array Slot} {D : va_G} {cA : Nat → ClassId} {B0 : Nat} {ad : kA} {d : kD}
theorem o_iret {post : Int32 → kD → Prop} {v : Int32} (hexec : p.tables.exec = Jvm.exec) (hb : c.code = cc) (hr : meth.sig.returnType = some .int) (hlocks : meth.locks = false) (hW : oW D cA B0 ad d H) (hS : va_S (oA B0) s.heap H locs) (hp : post v d) (hdg : decode cc pc = .ok (.ireturn, 1)) : W p l e R s m args below meth c H locs cells slots (MQ below (oQi D cA B0 ad post) args s cells slots (oA B0)) (F0 m pc ls [.int v]) :=
  W.iret hexec hb hr (fun t ht _ => ⟨⟨v, d, rfl, hp, by show oW D cA B0 ad d t.heap; rw [ht]; exact hW⟩, hS.F ht⟩) hS.2.2 hdg hlocks
theorem o_zret {post : Int32 → kD → Prop} {v : Int32} (hexec : p.tables.exec = Jvm.exec) (hb : c.code = cc) (hr : meth.sig.returnType = some .boolean) (hlocks : meth.locks = false) (hn : narrow .boolean (.int v) = .int v) (hW : oW D cA B0 ad d H) (hS : va_S (oA B0) s.heap H locs) (hp : post v d) (hdg : decode cc pc = .ok (.ireturn, 1)) : W p l e R s m args below meth c H locs cells slots (MQ below (oQi D cA B0 ad post) args s cells slots (oA B0)) (F0 m pc ls [.int v]) :=
  W.zret hexec hb hr hn (fun t ht _ => ⟨⟨v, d, rfl, hp, by show oW D cA B0 ad d t.heap; rw [ht]; exact hW⟩, hS.F ht⟩) hS.2.2 hdg hlocks
theorem o_lret {post : Int64 → kD → Prop} {v : Int64} (hexec : p.tables.exec = Jvm.exec) (hb : c.code = cc) (hr : meth.sig.returnType = some .long) (hlocks : meth.locks = false) (hW : oW D cA B0 ad d H) (hS : va_S (oA B0) s.heap H locs) (hp : post v d) (hdg : decode cc pc = .ok (.lreturn, 1)) : W p l e R s m args below meth c H locs cells slots (MQ below (oQl D cA B0 ad post) args s cells slots (oA B0)) (F0 m pc ls [.long v]) :=
  W.lret hexec hb hr (fun t ht _ => ⟨⟨v, d, rfl, hp, by show oW D cA B0 ad d t.heap; rw [ht]; exact hW⟩, hS.F ht⟩) hS.2.2 hdg hlocks
theorem o_vret {post : kD → Prop} (hexec : p.tables.exec = Jvm.exec) (hb : c.code = cc) (hr : meth.sig.returnType = none) (hlocks : meth.locks = false) (hW : oW D cA B0 ad d H) (hS : va_S (oA B0) s.heap H locs) (hp : post d) (hdg : decode cc pc = .ok (.return_, 1)) : W p l e R s m args below meth c H locs cells slots (MQ below (oQv D cA B0 ad post) args s cells slots (oA B0)) (F0 m pc ls []) :=
  W.vret hexec hb hr (fun t ht _ => ⟨⟨d, rfl, hp, by show oW D cA B0 ad d t.heap; rw [ht]; exact hW⟩, hS.F ht⟩) hS.2.2 hdg hlocks
end OR
section OC
variable {p : Program} {l : Launch} {e : Env} {R : Room} {s : State} {m : MethodId} {args : Array Value} {below : List Frame} {meth : Method} {c : Code} {H : Heap} {locs : List Loc} {cells slots : Nat} {Q : State → Prop}
variable {cc : ByteArray} {pc : Nat} {ls : Array Slot} {rest : List Value} {D : va_G} {cA : Nat → ClassId} {B0 : Nat} {ad : kA} {d : kD}
variable {y : MethodName} {bytes : ByteArray} {maxL nL mc ms n n0 index : Nat} {ret : Option FieldType} {ws ws' : List Cond} {Ts : List Cond} {own C : String} {As st0 : List Value} {a : Nat}
abbrev oGo (p : Program) (l : Launch) (e : Env) (R : Room) (s : State) (m : MethodId) (args : Array Value) (below : List Frame) (meth : Method) (c : Code) (Q : State → Prop) (D : va_G) (cA : Nat → ClassId) (B0 : Nat) (ad : kA) (ls : Array Slot) (cells slots pc : Nat) (st : List Value) (d : kD) : Prop := ∀ (H1 : Heap) (locs1 : List Loc), oW D cA B0 ad d H1 → va_S (oA B0) s.heap H1 locs1 → W p l e R s m args below meth c H1 locs1 cells slots Q (F0 m pc ls st)
theorem o_recv (hK : oK D cA s) (hW : oW D cA B0 ad d H) {k i ci : Nat} (ha : ad.1 k i ≠ 0) {fs : List Value} {q : vw_C} (hc : kC cA ad d k i = some (.inr (ci, fs))) (hcl : vwCl[ci]? = some q) : ∃ cell : Cell, H[ad.1 k i]? = some cell ∧ cell.vm.isStatics = false ∧ s.vm.findClass q.1 = some cell.cls := va_recv hK.1 (o_one (hW.1 k i _ ha hc).1) hcl (q0 := 0) rfl
theorem o_runV (S : CallFix p m c cc nL s args Ts own) {Qc : Array Value → State → Outcome → State → Prop} (hM : oM l y ws n mc ms D cA B0 ad d (.ref a :: As) Qc) (hG : GoodIn Ts (wsV own index C y ws)) (hw : ws = Cond.code y bytes maxL ret :: ws') (hd : y.cls = C ∧ y.cls ≠ "java/lang/invoke/MethodHandle" ∧ y.cls ≠ "java/lang/invoke/VarHandle" ∧ (parseMethodDescriptor y.desc).map (fun d => d.parameters.length) = some n0) (hn0 : As.length = n0) (hR : n + 1 ≤ R.frames ∧ 8 + (maxL + 11) + 100 * n ≤ R.locals)
    (hrc : ∃ cell : Cell, H[a]? = some cell ∧ cell.vm.isStatics = false ∧ s.vm.findClass C = some cell.cls) (hK : oK D cA s) (hW : oW D cA B0 ad d H) (hB : oG cA B0 s) (hS : va_S (oA B0) s.heap H locs) (hsz : ls.size = nL) (hst : st0 = As.reverse ++ .ref a :: rest) (hrm : 2 * (F0 m pc ls st0).monitorRoom + (rest.map fun v => v.category).sum ≤ 8) (hf : cells + mc ≤ R.cells ∧ slots + ms ≤ R.slots) (hdg : decode cc pc = .ok (.invokevirtual index, 3)) :
    va_Run p l e R s m args below meth c H locs cells slots mc ms (F0 m pc ls st0) rest (Qc (Value.ref a :: As).toArray) (oA B0) :=
  va_runV S hM (cwV n0 S.2.2.2.2 hG hw rfl rfl hd hR) ⟨oPc_blind, hrc, fun U hU hWm => ⟨rfl, hK.warm hWm, by rw [hU]; exact hW, hB.go hS hU hWm.alike⟩⟩ rfl hn0 hsz hst hrm hdg hf
theorem o_runS (S : CallFix p m c cc nL s args Ts own) {Qc : Array Value → State → Outcome → State → Prop} (hM : oM l y ws n mc ms D cA B0 ad d As Qc) (hG : GoodIn Ts (va_wsS own index y ws)) (hw : ws = Cond.code y bytes maxL ret :: ws') (hd : y.cls ≠ "java/lang/invoke/MethodHandle" ∧ y.cls ≠ "java/lang/invoke/VarHandle" ∧ (parseMethodDescriptor y.desc).map (fun d => d.parameters.length) = some n0) (hn0 : As.length = n0) (hR : n + 1 ≤ R.frames ∧ 8 + (maxL + 11) + 100 * n ≤ R.locals)
    (hK : oK D cA s) (hW : oW D cA B0 ad d H) (hB : oG cA B0 s) (hS : va_S (oA B0) s.heap H locs) (hsz : ls.size = nL) (hst : st0 = As.reverse ++ rest) (hrm : 2 * (F0 m pc ls st0).monitorRoom + (rest.map fun v => v.category).sum ≤ 8) (hf : cells + mc ≤ R.cells ∧ slots + ms ≤ R.slots) (hdg : decode cc pc = .ok (.invokestatic index, 3)) :
    va_Run p l e R s m args below meth c H locs cells slots mc ms (F0 m pc ls st0) rest (Qc As.toArray) (oA B0) :=
  va_runS S hM (va_cwS n0 S.2.2.2.2 hG hw rfl rfl hd hR) ⟨oPc_blind, fun U hU hWm => ⟨rfl, hK.warm hWm, by rw [hU]; exact hW, hB.go hS hU hWm.alike⟩⟩ rfl hn0 hsz hst hrm hdg hf
theorem o_calli {post : Int32 → kD → Prop} {av : Array Value} (hr : va_Run p l e R s m args below meth c H locs cells slots mc ms (F0 m pc ls st0) rest (oQi D cA B0 ad post av) (oA B0)) (hS : va_S (oA B0) s.heap H locs) (kk : ∀ (r : Int32) (d1 : kD), post r d1 → oGo p l e R s m args below meth c Q D cA B0 ad ls (cells + mc) (slots + ms) (pc + 3) (.int r :: rest) d1) : W p l e R s m args below meth c H locs cells slots Q (F0 m pc ls st0) :=
  va_calli hr hS (fun _ _ h => h) (fun _ h => h) (fun r u t H1 locs1 ht _ hp hb _ _ hS1 => kk r u hp H1 locs1 (by rw [← ht]; exact hb) hS1)
theorem o_calll {post : Int64 → kD → Prop} {av : Array Value} (hr : va_Run p l e R s m args below meth c H locs cells slots mc ms (F0 m pc ls st0) rest (oQl D cA B0 ad post av) (oA B0)) (hS : va_S (oA B0) s.heap H locs) (kk : ∀ (r : Int64) (d1 : kD), post r d1 → oGo p l e R s m args below meth c Q D cA B0 ad ls (cells + mc) (slots + ms) (pc + 3) (.long r :: rest) d1) : W p l e R s m args below meth c H locs cells slots Q (F0 m pc ls st0) :=
  va_calll hr hS (fun _ _ h => h) (fun _ h => h) (fun r u t H1 locs1 ht _ hp hb _ _ hS1 => kk r u hp H1 locs1 (by rw [← ht]; exact hb) hS1)
theorem o_callv {post : kD → Prop} {av : Array Value} (hr : va_Run p l e R s m args below meth c H locs cells slots mc ms (F0 m pc ls st0) rest (oQv D cA B0 ad post av) (oA B0)) (hS : va_S (oA B0) s.heap H locs) (kk : ∀ (d1 : kD), post d1 → oGo p l e R s m args below meth c Q D cA B0 ad ls (cells + mc) (slots + ms) (pc + 3) rest d1) : W p l e R s m args below meth c H locs cells slots Q (F0 m pc ls st0) :=
  va_callv hr hS (fun _ _ h => h) (fun _ h => h) (fun u t H1 locs1 ht _ hp hb _ _ hS1 => kk u hp H1 locs1 (by rw [← ht]; exact hb) hS1)
end OC
