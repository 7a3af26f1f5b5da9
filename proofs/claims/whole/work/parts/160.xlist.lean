/-! arrays of references: made, copied, stored into -/
def adR (ad : kA) (k i : Nat) (g : Nat → Nat) : kA := (ad.1, fun k' i' => if k' = k ∧ i' = i then g else ad.2 k' i')
theorem adR_s (ad : kA) (k i : Nat) (g : Nat → Nat) : (adR ad k i g).2 k i = g := if_pos ⟨rfl, rfl⟩
theorem adR_n (ad : kA) {k i k' i' : Nat} (g : Nat → Nat) (h : ¬ (k' = k ∧ i' = i)) : (adR ad k i g).2 k' i' = ad.2 k' i' := if_neg h
theorem kC_adR {cA : Nat → ClassId} {ad : kA} {d : kD} {k i : Nat} {g : Nat → Nat} (hk : k < 40) (k' i' : Nat) (h : ¬ (k' = k ∧ i' = i)) : kC cA (adR ad k i g) d k' i' = kC cA ad d k' i' :=
  kC_agree rfl rfl (adR_n ad g h) (adR_n ad g (by omega))
theorem kX_28 (cA : Nat → ClassId) (ad : kA) (d : kD) (i : Nat) : kC cA ad d 28 i = some (.inl (cA 3, ad.2 28 i 100, .inr (.inr (.inr (.inr (fun q => rf (ad.2 28 i q))))))) := rfl
theorem arrV_cg {c : ClassId} {n : Nat} {f g : Nat → Value} (h : ∀ j, j < n → f j = g j) : arrV c n f = arrV c n g := by
  unfold arrV
  congr 1
  apply Array.ext
  · simp
  · intro j h1 h2
    simp only [Array.getElem_ofFn]
    exact h j (by simpa using h1)
/-- every cell of the world, as a list -/
theorem o_list {D : va_G} {cA : Nat → ClassId} {B0 : Nat} {ad : kA} {d : kD} {H : Heap} (h : oW D cA B0 ad d H) : ∃ ws : va_W, va_P D vwCl ws H ∧ va_D (oA B0) ws ∧ ∀ k i e, ad.1 k i ≠ 0 → kC cA ad d k i = some e → ∃ n : Nat, ws[n]? = some (ad.1 k i, e) := by
  classical
  let P : Nat → va_E → Prop := fun q e => ∃ k i, ad.1 k i = q ∧ q ≠ 0 ∧ kC cA ad d k i = some e
  let g : Nat → Option (Nat × va_E) := fun q => if hq : ∃ e, P q e then some (q, Classical.choose hq) else none
  have hg : ∀ q x, g q = some x → x.1 = q ∧ P q x.2 := by
    intro q x hx
    by_cases hq : ∃ e, P q e
    · have e1 : g q = some (q, Classical.choose hq) := dif_pos hq
      rw [e1] at hx
      cases hx
      exact ⟨rfl, Classical.choose_spec hq⟩
    · have e1 : g q = none := dif_neg hq
      rw [e1] at hx; cases hx
  have hm : ∀ x ∈ (List.range H.size).filterMap g, P x.1 x.2 := by
    intro x hx
    obtain ⟨q, -, hq⟩ := List.mem_filterMap.mp hx
    obtain ⟨h1, h2⟩ := hg q x hq
    rw [h1]; exact h2
  refine ⟨(List.range H.size).filterMap g, fun n x hx => ?_, ⟨fun i j x y hi hj hxy => ?_, fun n x hx => ?_⟩, fun k i e ha hc => ?_⟩
  · obtain ⟨k, i, h1, h2, h3⟩ := hm x (List.mem_of_getElem? hx)
    have := (h.1 k i x.2 (by rw [h1]; exact h2) h3).1
    rw [h1] at this
    exact this
  · have hp : ((List.range H.size).filterMap g).Pairwise (fun a b => a.1 ≠ b.1) := by
      rw [List.pairwise_filterMap]
      refine List.Pairwise.imp ?_ List.nodup_range
      intro a b hab x hx y hy e
      exact hab (by rw [← (hg a x hx).1, ← (hg b y hy).1]; exact e)
    rw [List.pairwise_iff_getElem] at hp
    obtain ⟨hi1, hi2⟩ := List.getElem?_eq_some_iff.mp hi
    obtain ⟨hj1, hj2⟩ := List.getElem?_eq_some_iff.mp hj
    rcases Nat.lt_trichotomy i j with q | q | q
    · exact absurd (by rw [hi2, hj2]; exact hxy) (hp i j hi1 hj1 q)
    · exact q
    · exact absurd (by rw [hi2, hj2]; exact hxy.symm) (hp j i hj1 hi1 q)
  · obtain ⟨k, i, h1, h2, h3⟩ := hm x (List.mem_of_getElem? hx)
    have := (h.1 k i x.2 (by rw [h1]; exact h2) h3).2
    rw [h1] at this
    exact this
  · have hex : ∃ e', P (ad.1 k i) e' := ⟨e, k, i, rfl, ha, hc⟩
    have e1 : g (ad.1 k i) = some (ad.1 k i, Classical.choose hex) := dif_pos hex
    obtain ⟨k', i', g1, g2, g3⟩ := Classical.choose_spec hex
    obtain ⟨rfl, rfl⟩ := h.2.1 _ _ _ _ (by rw [g1]; exact ha) g1
    have e2 : Classical.choose hex = e := Option.some.inj (g3.symm.trans hc)
    rw [e2] at e1
    exact List.getElem?_of_mem (List.mem_filterMap.mpr ⟨_, List.mem_range.mpr (h.2.2 _ _ ha), e1⟩)
/-- one cell of the list is another now -/
theorem oW.ofSet {D : va_G} {cA : Nat → ClassId} {B0 : Nat} {ad ad' : kA} {d d' : kD} {H H1 : Heap} (h : oW D cA B0 ad d H) {ws : va_W} (hL : ∀ k i e, ad.1 k i ≠ 0 → kC cA ad d k i = some e → ∃ n : Nat, ws[n]? = some (ad.1 k i, e)) (hA : ad'.1 = ad.1) {k i n : Nat} (ha : ad.1 k i ≠ 0) {e0 e' : va_E} (hB : B0 ≤ ad.1 k i) (hn : ws[n]? = some (ad.1 k i, e0)) (hc' : kC cA ad' d' k i = some e') (ho : ∀ k' i', ¬ (k' = k ∧ i' = i) → kC cA ad' d' k' i' = kC cA ad d k' i') (hP : va_P D vwCl (ws.set n (ad.1 k i, e')) H1) (hz : H.size ≤ H1.size) : oW D cA B0 ad' d' H1 := by
  have hlt : n < ws.length := (List.getElem?_eq_some_iff.mp hn).1
  refine ⟨fun k' i' x ha' hx => ?_, fun k1 i1 k2 i2 => by rw [hA]; exact h.2.1 k1 i1 k2 i2, fun k' i' h' => by rw [hA] at h' ⊢; exact Nat.lt_of_lt_of_le (h.2.2 k' i' h') hz⟩
  rw [hA] at ha' ⊢
  by_cases hk : k' = k ∧ i' = i
  · obtain ⟨rfl, rfl⟩ := hk
    rw [hc'] at hx; cases hx
    exact ⟨hP n _ (by rw [List.getElem?_set, if_pos rfl, if_pos hlt]), hB⟩
  · rw [ho k' i' hk] at hx
    obtain ⟨n', hn'⟩ := hL k' i' x ha' hx
    have hne : n ≠ n' := by
      rintro rfl
      rw [hn] at hn'
      have e1 : ad.1 k i = ad.1 k' i' := congrArg Prod.fst (Option.some.inj hn')
      have := h.2.1 _ _ _ _ ha e1
      exact hk ⟨this.1.symm, this.2.symm⟩
    exact ⟨hP n' _ (by rw [List.getElem?_set, if_neg hne]; exact hn'), (h.1 _ _ _ ha' hx).2⟩
section XLS
variable {p : Program} {l : Launch} {e : Env} {R : Room} {s : State} {m : MethodId} {args : Array Value} {below : List Frame} {meth : Method} {c : Code} {H : Heap} {locs : List Loc} {cells slots : Nat} {Q : State → Prop}
variable {cc : ByteArray} {pc : Nat} {ls : Array Slot} {rest : List Value} {D : va_G} {cA : Nat → ClassId} {B0 : Nat} {ad : kA} {d : kD} {H0 : Heap} {index : Nat}
/-- a new array of references, at the key (28, 0) -/
theorem x_newq (hx : p.tables.exec = Jvm.exec) (hb : c.code = cc) (hu : ∀ w ∈ UW, w.before args s = true) {own : String} (hown : s.vm.findClass own = some m.cls) (hlink : Cond.classLink own index "java/lang/Object" ∈ UW) (hK : oK D cA s) (hW : oW D cA B0 ad d H) (hS : va_S (oA B0) s.heap H locs) (hB : oG cA B0 s) (hdead : ad.1 28 0 = 0) {n : Nat} (hn : n ≤ 100) (hf : cells + 1 ≤ R.cells ∧ slots + n ≤ R.slots) (hdg : decode cc pc = .ok (.anewarray index, 3))
    (kk : ∀ (q : Nat) (H1 : Heap), q ≠ 0 → oW D cA B0 (ad1 (adR ad 28 0 (fun f => if f = 100 then n else 0)) 28 0 q) d H1 → va_S (oA B0) s.heap H1 locs → W p l e R s m args below meth c H1 locs (cells + 1) (slots + n) Q (F0 m (pc + 3) ls (.ref q :: rest))) : W p l e R s m args below meth c H locs cells slots Q (F0 m pc ls (.int (nI n) :: rest)) := by
  have hn31 : n < 2 ^ 31 := by omega
  have hle : s.heap.size ≤ H.size := hS.1
  have hb1 := hB.1
  have hb2 : 0 < B0 := Nat.lt_of_le_of_lt (Nat.zero_le _) hB.2.2.2.1
  have hcl : (nI n).toNatClampNeg = n := nI_clamp hn31
  refine W.anew hx hb hown (hu _ hlink) (va_AO.use hB.2.2.2.2.1) rfl hdg rfl (nI_pos hn31) (by rw [hcl]; omega) hf.1 (by rw [hcl]; exact hf.2) fun cA' kA comp f1 f2 f3 f4 => ?_
  have hcA : cA' = cA 3 := by
    obtain ⟨_, _, -, -, -, h4⟩ := (hK.1.2 3 _ rfl).2
    exact Option.some.inj (f1.symm.trans h4)
  subst hcA
  rw [hcl]
  generalize hH1 : H.push _ = H1
  have z1 : H1.size = H.size + 1 := by rw [← hH1, Array.size_push]
  have o1 : ∀ q : Nat, q < H.size → H1[q]? = H[q]? := fun q hq => by rw [← hH1, Array.getElem?_push, if_neg (Nat.ne_of_lt hq)]
  refine kk H.size H1 (by omega) (hW.newG (ad' := adR ad 28 0 (fun f => if f = 100 then n else 0)) (d' := d) rfl (fun k' i' h => kC_adR (by decide) k' i' h) hdead (by omega) (by omega) (kX_28 _ _ _ _) ?_ z1 o1) ⟨by rw [z1]; omega, fun x h1 h2 => (o1 x (by omega)).trans (hS.2.1 x h1 h2), hS.2.2⟩
  show H1[H.size]? = some (vp_cell _ _)
  rw [adR_s, vp_cell_q, ← hH1, Array.getElem?_push_size, arrV_new]
  congr 1
  refine Eq.trans ?_ (rfl : arrV (cA 3) n (fun j => va_rf (rf (if j = 100 then n else 0))) = _)
  exact arrV_cg (fun j hj => by show Value.null = va_rf (rf (if j = 100 then n else 0)); rw [if_neg (by omega)]; rfl)
/-- a reference is stored into a list's array -/
theorem x_astq (hx : p.tables.exec = Jvm.exec) (hb : c.code = cc) (hK : oK D cA s) (hW : oW D cA B0 ad d H) (hS : va_S (oA B0) H0 H locs) {k i k2 i2 j ci N : Nat} (hk : k < 40) {C : String} {T : u_T} {fs : List Value} (ha : ad.1 k i ≠ 0) (hc : ∀ r gI gJ, xF cA r gI gJ k = some (.inl (cA 3, r 100, .inr (.inr (.inr (.inr (fun q => rf (r q)))))))) (ha2 : ad.1 k2 i2 ≠ 0) (hc2 : kC cA ad d k2 i2 = some (.inr (ci, fs))) (hcl : vwCl[ci]? = some (C, T, N)) (hca : Cond.castable C "java/lang/Object" ∈ nW) (hn : ad.2 k i 100 ≤ 100) (hj : j < ad.2 k i 100) (hdg : decode cc pc = .ok (.aastore, 1))
    (kk : ∀ (H1 : Heap) (locs1 : List Loc), oW D cA B0 (ad2 ad k i j (ad.1 k2 i2)) d H1 → va_S (oA B0) H0 H1 locs1 → W p l e R s m args below meth c H1 locs1 cells slots Q (F0 m (pc + 1) ls rest)) : W p l e R s m args below meth c H locs cells slots Q (F0 m pc ls (.ref (ad.1 k2 i2) :: .int (nI j) :: .ref (ad.1 k i) :: rest)) := by
  obtain ⟨ws, hP, hD, hL⟩ := o_list hW
  have hc0 : kC cA ad d k i = some (.inl (cA 3, ad.2 k i 100, .inr (.inr (.inr (.inr (fun q => rf (ad.2 k i q))))))) := by rw [kC_x hk]; exact hc _ _ _
  obtain ⟨n1, hn1⟩ := hL k i _ ha hc0
  obtain ⟨n2, hn2⟩ := hL k2 i2 _ ha2 hc2
  have hcl2 : (nI j).toNatClampNeg = j := nI_clamp (by omega)
  refine va_astqO hx hb hK.1 hP hD (⟨Nat.le_refl _, fun _ _ _ => rfl, hS.2.2⟩ : va_S (oA B0) H H locs) n1 3 n2 ci hn1 rfl (hK.2 _ hca) hn2 hcl (vp_in_nI hj (by omega)) hdg (fun H1 locs1 hP1 hD1 hS1 => ?_)
  refine kk H1 locs1 (hW.ofSet hL (ad' := ad2 ad k i j (ad.1 k2 i2)) rfl ha (hW.1 _ _ _ ha hc0).2 hn1 ?_ (fun k' i' h => kC_adX hk k' i' h) hP1 hS1.1) ⟨Nat.le_trans hS.1 hS1.1, fun x h1 h2 => (hS1.2.1 x (Nat.lt_of_lt_of_le h1 hS.1) h2).trans (hS.2.1 x h1 h2), hS1.2.2⟩
  rw [kC_x hk]
  show xF cA (up3 ad.2 k i j (ad.1 k2 i2) k i) _ _ k = _
  rw [up3_same, hc, hcl2]
  have e1 : va_up (ad.2 k i) j (ad.1 k2 i2) 100 = ad.2 k i 100 := by simp only [va_up]; rw [if_neg (by omega)]
  rw [e1]
  congr 8
  funext q
  by_cases hq : q = j
  · subst hq; simp only [va_up, if_true]; unfold rf; rw [if_neg ha2]
  · simp only [va_up, hq, if_false]
/-- references are copied from a list's array into the new one -/
theorem x_copyq (hx : p.tables.exec = Jvm.exec) (hb : c.code = cc) (hml : c.maxLocals = ls.size) (hu : ∀ w ∈ UW, w.before args s = true) {own : String} (hown : s.vm.findClass own = some m.cls) (hlink : Cond.methodLink own index arraycopyName ∈ UW) (hnat : Cond.native arraycopyName ∈ UW) (hstat : Cond.static arraycopyName ∈ UW) (hini : Cond.initialized "java/lang/System" ∈ UW) (hK : oK D cA s) (hW : oW D cA B0 ad d H) (hS : va_S (oA B0) H0 H locs) {j kd n ci N : Nat} {C : String} {T : u_T} {fs : Nat → List Value} (ha : ad.1 28 0 ≠ 0) (ha5 : ad.1 5 j ≠ 0) (hn5 : n ≤ ad.2 5 j 100) (hn28 : n ≤ ad.2 28 0 100) (hn : n ≤ 100) (hel : ∀ i, i < n → ad.2 5 j i = ad.1 kd i ∧ ad.1 kd i ≠ 0) (hce : ∀ i, kC cA ad d kd i = some (.inr (ci, fs i))) (hcl : vwCl[ci]? = some (C, T, N)) (hca : Cond.castable C "java/lang/Object" ∈ nW) (hR : 1 ≤ R.frames ∧ (rest.map fun v => v.category).sum + (nativeFrameWords "java/lang/System" "arraycopy" 5 + 11) ≤ R.locals) (hdg : decode cc pc = .ok (.invokestatic index, 3))
    (kk : ∀ (H1 : Heap) (locs1 : List Loc), oW D cA B0 (adR ad 28 0 (fun f => if f < n then ad.2 5 j f else ad.2 28 0 f)) d H1 → va_S (oA B0) H0 H1 locs1 → W p l e R s m args below meth c H1 locs1 cells slots Q (F0 m (pc + 3) ls rest)) : W p l e R s m args below meth c H locs cells slots Q (F0 m pc ls (.int (nI n) :: .int (nI 0) :: .ref (ad.1 28 0) :: .int (nI 0) :: .ref (ad.1 5 j) :: rest)) := by
  obtain ⟨ws, hP, hD, hL⟩ := o_list hW
  obtain ⟨n1, hn1⟩ := hL 28 0 _ ha (kX_28 _ _ _ _)
  obtain ⟨n2, hn2⟩ := hL 5 j _ ha5 (kX_5 _ _ _ _)
  have hcn : (nI n).toNatClampNeg = n := nI_clamp (by omega)
  have hc0 : (nI 0).toNatClampNeg = 0 := nI_clamp (by omega)
  refine va_copyq hx hb hml hown (hu _ hlink) (hu _ hnat) (hu _ hstat) (hu _ hini) hK.1 hP hD (⟨Nat.le_refl _, fun _ _ _ => rfl, hS.2.2⟩ : va_S (oA B0) H H locs) n2 n1 3 3 (C := C) hn2 hn1 rfl rfl (nI_pos (by omega)) (nI_pos (by omega)) (nI_pos (by omega)) (by rw [hcn, hc0]; omega) (by rw [hcn, hc0]; omega) (fun i hi y hy => ?_) (fun comp c0 h1 h2 => ?_) hR.1 hR.2 hdg (fun H1 locs1 hP1 hD1 hS1 => ?_)
  · rw [hcn] at hi
    rw [hc0, Nat.zero_add] at hy
    obtain ⟨e1, e2⟩ := hel i hi
    rw [e1] at hy
    unfold rf at hy
    rw [if_neg e2] at hy
    cases hy
    exact o_recv hK hW e2 (hce i) hcl
  · obtain ⟨c0', t1, f1, f2, f3⟩ := Cond.castable_spec (va_Nw.use (A := args) rfl (hK.2 _ hca))
    cases h2.symm.trans f1
    cases h1.symm.trans f2
    exact f3
  · refine kk H1 locs1 (hW.ofSet hL (ad' := adR ad 28 0 (fun f => if f < n then ad.2 5 j f else ad.2 28 0 f)) rfl ha (hW.1 _ _ _ ha (kX_28 _ _ _ _)).2 hn1 ?_ (fun k' i' h => kC_adR (by decide) k' i' h) hP1 hS1.1) ⟨Nat.le_trans hS.1 hS1.1, fun x h1 h2 => (hS1.2.1 x (Nat.lt_of_lt_of_le h1 hS.1) h2).trans (hS.2.1 x h1 h2), hS1.2.2⟩
    rw [kX_28, adR_s, hcn, hc0]
    have e1 : (if 100 < n then ad.2 5 j 100 else ad.2 28 0 100) = ad.2 28 0 100 := if_neg (by omega)
    rw [e1]
    congr 8
    funext q
    unfold va_cpy
    by_cases hq : q < n
    · rw [if_pos hq, if_pos ⟨Nat.zero_le _, by omega⟩]; simp
    · rw [if_neg hq, if_neg (by omega)]
def oQqA (D : va_G) (cA : Nat → ClassId) (B0 : Nat) (post : Option Nat → kA × kD → Prop) : Array Value → State → Outcome → State → Prop := va_Qq post (fun u t => oW D cA B0 u.1 u.2 t.heap) (oA B0)
def oQiA (D : va_G) (cA : Nat → ClassId) (B0 : Nat) (post : Int32 → kA × kD → Prop) : Array Value → State → Outcome → State → Prop := va_Qi post (fun u t => oW D cA B0 u.1 u.2 t.heap) (oA B0)
theorem o_qretA {post : Option Nat → kA × kD → Prop} {r : Option Nat} {rt : FieldType} {v : Value} (hv : v = va_rf r) (hexec : p.tables.exec = Jvm.exec) (hb : c.code = cc) (hr : meth.sig.returnType = some rt) (hlocks : meth.locks = false) (hn : (∃ n, rt = .object n) ∨ ∃ t, rt = .array t) (hW : oW D cA B0 ad d H) (hS : va_S (oA B0) s.heap H locs) (hp : post r (ad, d)) (hdg : decode cc pc = .ok (.areturn, 1)) : W p l e R s m args below meth c H locs cells slots (MQ below (oQqA D cA B0 post) args s cells slots (oA B0)) (F0 m pc ls [v]) :=
  W.aret hexec hb hr hn (va_rf_or r |>.elim (fun z => Or.inl (hv.trans z)) (fun z => Or.inr ⟨z.choose, hv.trans z.choose_spec⟩)) (fun t ht _ => ⟨⟨r, (ad, d), by rw [hv], hp, by show oW D cA B0 ad d t.heap; rw [ht]; exact hW⟩, hS.F ht⟩) hS.2.2 hdg hlocks
theorem o_callqA {mc ms : Nat} {st0 : List Value} {post : Option Nat → kA × kD → Prop} {av : Array Value} (hr : va_Run p l e R s m args below meth c H locs cells slots mc ms (F0 m pc ls st0) rest (oQqA D cA B0 post av) (oA B0)) (hS : va_S (oA B0) s.heap H locs) (kk : ∀ (r : Option Nat) (u : kA × kD), post r u → oGo p l e R s m args below meth c Q D cA B0 u.1 ls (cells + mc) (slots + ms) (pc + 3) (va_rf r :: rest) u.2) : W p l e R s m args below meth c H locs cells slots Q (F0 m pc ls st0) :=
  va_callq hr hS (fun _ _ h => h) (fun _ h => h) (fun r u t H1 locs1 ht _ hp hb _ _ hS1 => kk r u hp H1 locs1 (by rw [← ht]; exact hb) hS1)
theorem o_calliA {mc ms : Nat} {st0 : List Value} {post : Int32 → kA × kD → Prop} {av : Array Value} (hr : va_Run p l e R s m args below meth c H locs cells slots mc ms (F0 m pc ls st0) rest (oQiA D cA B0 post av) (oA B0)) (hS : va_S (oA B0) s.heap H locs) (kk : ∀ (r : Int32) (u : kA × kD), post r u → oGo p l e R s m args below meth c Q D cA B0 u.1 ls (cells + mc) (slots + ms) (pc + 3) (.int r :: rest) u.2) : W p l e R s m args below meth c H locs cells slots Q (F0 m pc ls st0) :=
  va_calli hr hS (fun _ _ h => h) (fun _ h => h) (fun r u t H1 locs1 ht _ hp hb _ _ hS1 => kk r u hp H1 locs1 (by rw [← ht]; exact hb) hS1)
end XLS
/-- a longer copy of a list's array stands at the key (28, 0) -/
def CpP (ad : kA) (j n q : Nat) (ad' : kA) : Prop := q ≠ 0 ∧ ad'.1 = (ad1 ad 28 0 q).1 ∧ (∀ k i, ¬ (k = 28 ∧ i = 0) → ad'.2 k i = ad.2 k i) ∧ ad'.2 28 0 100 = n ∧ ∀ f, f < ad.2 5 j 100 → ad'.2 28 0 f = ad.2 5 j f
theorem nl_big {a : Nat} (h : a ≤ 1000) : ¬ (2147483639 : Int32) < nI a := by
  intro h2
  have h3 := Int32.lt_iff_toInt_lt.mp h2
  have h4 : (nI a).toInt = (a : Int) := by
    have := nI_clamp (n := a) (by omega)
    have h0 := nI_pos (n := a) (by omega)
    have h5 : (0 : Int) ≤ (nI a).toInt := by simpa using Int32.le_iff_toInt_le.mp (Int32.not_lt.mp h0)
    have h6 : (nI a).toInt.toNat = a := this
    omega
  rw [h4] at h3
  have h7 : (2147483639 : Int32).toInt = 2147483639 := by decide
  omega
