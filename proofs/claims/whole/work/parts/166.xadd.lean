/-! a list is longer by one -/
def AdP (ad : kA) (j n q : Nat) (ad' : kA) : Prop := ad'.1 5 j ≠ 0 ∧ ad'.2 4 j 1 = ad'.1 5 j ∧ (n + 1 ≤ ad'.2 5 j 100 ∧ ad'.2 5 j 100 ≤ 60) ∧ (∀ i, i < n → ad'.2 5 j i = ad.2 5 j i) ∧ ad'.2 5 j n = q ∧ (∀ k i, ¬ (k = 5 ∧ i = j) → ad'.1 k i = ad.1 k i) ∧ (∀ k i, k ≠ 28 → ¬ (k = 5 ∧ i = j) → ¬ (k = 4 ∧ i = j) → ad'.2 k i = ad.2 k i) ∧ ∀ f, f ≠ 1 → ad'.2 4 j f = ad.2 4 j f
theorem GrP.add {ad ad' : kA} {j n q : Nat} (h : GrP ad j n ad') : AdP ad j n q (ad2 ad' 5 j n q) := by
  obtain ⟨h1, h2, h3, h4, h5, h6, h7⟩ := h
  have e5 : (ad2 ad' 5 j n q).2 5 j = va_up (ad'.2 5 j) n q := up3_same _ _ _ _ _
  have e : ∀ k i, ¬ (k = 5 ∧ i = j) → (ad2 ad' 5 j n q).2 k i = ad'.2 k i := fun k i h => up3_ne _ _ _ h
  have hcap : va_up (ad'.2 5 j) n q 100 = ad'.2 5 j 100 := by simp only [va_up]; rw [if_neg (by omega)]
  refine ⟨h1, by rw [e 4 j (by omega)]; exact h2, by rw [e5, hcap]; exact h3, fun i hi => ?_, by rw [e5]; simp [va_up], h5, fun k i g1 g2 g3 => by rw [e k i g2]; exact h6 k i g1 g2 g3, fun f hf => by rw [e 4 j (by omega)]; exact h7 f hf⟩
  rw [e5, ← h4 i hi]; simp only [va_up]; rw [if_neg (by omega)]
theorem uY_modCount : Cond.sameField RJx4a65c "java/util/AbstractList" "modCount" "I" ∈ UW := uw_at 117 (by decide +kernel)
section XU
variable {p : Program} {l : Launch} {e : Env} {R : Room} {s : State} {m : MethodId} {args : Array Value} {below : List Frame} {meth : Method} {c : Code} {H : Heap} {locs : List Loc} {cells slots : Nat} {Q : State → Prop}
variable {cc : ByteArray} {pc : Nat} {ls : Array Slot} {rest : List Value} {D : va_G} {cA : Nat → ClassId} {B0 : Nat} {ad : kA} {d : kD} {H0 : Heap} {index : Nat}
/-- an inherited field, read -/
theorem x_giU (hx : p.tables.exec = Jvm.exec) (hb : c.code = cc) (hu : ∀ w ∈ UW, w.before args s = true) {own C ref : String} {T : u_T} {N ci : Nat} (hin : ∀ w ∈ u_ws C T N, w ∈ UW) (hown : s.vm.findClass own = some m.cls) (hK : oK D cA s) (hW : oW D cA B0 ad d H) {k i : Nat} (ha : ad.1 k i ≠ 0) {r : Nat → Nat} {ts : List Nat} (hc : kC cA ad d k i = some (.inr (ci, xO r (d.1 k i) (d.2.1 k i) ts))) (hcl : vwCl[ci]? = some (C, T, N)) (f : Nat) (hf : (f < N ∧ f < ts.length) ∧ ts.getD f 0 = 0) (hlink : Cond.fieldLink own index ref (T f).2.1 (T f).2.2.1 ∈ UW) (hsame : Cond.sameField ref (T f).1 (T f).2.1 (T f).2.2.1 ∈ UW) (hdg : decode cc pc = .ok (.getfield index, 3))
    (kk : W p l e R s m args below meth c H locs cells slots Q (F0 m (pc + 3) ls (.int (d.1 k i f) :: rest))) : W p l e R s m args below meth c H locs cells slots Q (F0 m pc ls (.ref (ad.1 k i) :: rest)) :=
  va_get hx hb hu hin hown hK.1 (o_one (hW.1 k i _ ha hc).1) 0 rfl hcl f hf.1.1 (hu _ hlink) (fun x h9 => u_same (hu _ hsame) x h9) (xO_at _ _ _ _ hf.1.2) hdg (by rw [xV_i hf.2]; exact kk)
/-- an inherited field, put -/
theorem x_piU (hx : p.tables.exec = Jvm.exec) (hb : c.code = cc) (hu : ∀ w ∈ UW, w.before args s = true) {own C ref : String} {T : u_T} {N ci : Nat} (hin : ∀ w ∈ u_ws C T N, w ∈ UW) (ty0 : Nat → FieldType) (hty : ∀ k, k < N → parseFieldDescriptor (T k).2.2.1 = some (ty0 k)) (hnm : ∀ a, a < N → ∀ b, b < N → a ≠ b → (T a).2.1 ≠ (T b).2.1) (hown : s.vm.findClass own = some m.cls) (hK : oK D cA s) (hW : oW D cA B0 ad d H) (hS : va_S (oA B0) H0 H locs) {k i : Nat} (ha : ad.1 k i ≠ 0) {r : Nat → Nat} {ts : List Nat} (hc : ∀ g, kF cA ad g (d.2.1 k i) (d.2.2 k i) k i = some (.inr (ci, xO r g (d.2.1 k i) ts))) (hcl : vwCl[ci]? = some (C, T, N)) (f : Nat) {ty : FieldType} (hf : ((f < N ∧ f < ts.length) ∧ ts.getD f 0 = 0) ∧ (T f).2.2.2 = false ∧ parseFieldDescriptor (T f).2.2.1 = some ty) (hlink : Cond.fieldLink own index ref (T f).2.1 (T f).2.2.1 ∈ UW) (hsame : Cond.sameField ref (T f).1 (T f).2.1 (T f).2.2.1 ∈ UW) {v : Int32} (hn : narrow ty (.int v) = .int v ∧ fits ty (.int v) = true) (hdg : decode cc pc = .ok (.putfield index, 3))
    (kk : ∀ (H1 : Heap) (locs1 : List Loc), oW D cA B0 ad (uI d k i f v) H1 → va_S (oA B0) H0 H1 locs1 → W p l e R s m args below meth c H1 locs1 cells slots Q (F0 m (pc + 3) ls rest)) : W p l e R s m args below meth c H locs cells slots Q (F0 m pc ls (.int v :: .ref (ad.1 k i) :: rest)) := by
  have hc0 : kC cA ad d k i = some (.inr (ci, xO r (d.1 k i) (d.2.1 k i) ts)) := hc _
  have hc1 : kC cA ad (uI d k i f v) k i = some (.inr (ci, (xO r (d.1 k i) (d.2.1 k i) ts).set f (.int v))) := by
    show kF cA ad (up3 d.1 k i f v k i) _ _ k i = _
    rw [up3_same, ← xO_setI hf.1.2]; exact hc _
  have hap := va_apart (own := own) hu hin ty0 hty hnm hK.1 hcl
  obtain ⟨⟨r', h1, cell, q1, q2, q3, q4⟩, hB⟩ := hW.1 k i _ ha hc0
  have hr : r' = (C, T, N) := Option.some.inj (h1.symm.trans hcl)
  subst hr
  obtain ⟨hSl, hfc, kCl, hkC, hkind⟩ := hK.1.1 ci _ hcl
  obtain ⟨cf, kf, fi, fl, hi, hsl⟩ := hSl f hf.1.1.1
  have hlay := hu _ (hin _ (u_in_lay hf.1.1.1))
  unfold u_lay at hlay
  rw [if_neg (by rw [hf.2.1]; decide)] at hlay
  have hst := (u_facts hfc hkC (u_lays hu hin hf.1.1.1) hi).1
  have h6 := u_store hfc hkC hkind hlay hi hf.2.2 hn.1 hn.2
  have hi2 := u_same (hu _ hsame) _ hi
  have hl : f < (xO r (d.1 k i) (d.2.1 k i) ts).length := by rw [xO_len]; exact hf.1.1.2
  refine W.putK hx hb (f := fl) ⟨hown, hu _ hlink, ⟨_, _, _, hi2⟩, hst⟩ (by rw [q2]; exact h6) q1 q3 (by rw [hsl]; exact k2_hasslot (q4 f hf.1.1.1)) rfl rfl hdg fun H' e1 e2 e3 => ?_
  rw [hsl] at e1 ⊢
  exact kk H' _ (hW.set ha hc1 hB (fun k' i' h => uI_ne k' i' h) ⟨_, hcl, t_OB.to (V := updV (vp_V (xO r (d.1 k i) (d.2.1 k i) ts)) f (.int v)) ⟨_, e1, q2, q3, t_set q4 hap hf.1.1.1 _⟩ (fun j _ => vp_updV_set hl _ j)⟩ e2 e3) (hS.put e2 e3 hB)
end XU
set_option maxHeartbeats 1000000 in
set_option maxRecDepth 100000 in
theorem c_Jx4a65c_add_72be8 (l : Launch) (D : va_G) (cA : Nat → ClassId) (B0 : Nat) (ad : kA) (hal : mAl ad) (d0 : kD) (j n kd ci N : Nat) {C : String} {T : u_T} {fs : Nat → List Value} (h4 : ad.1 4 j ≠ 0) (hdead : ad.1 28 0 = 0) (hls : (n = 0 ∧ ad.2 4 j 1 = 0) ∨ (ad.1 5 j ≠ 0 ∧ ad.2 4 j 1 = ad.1 5 j ∧ n ≤ ad.2 5 j 100 ∧ ad.2 5 j 100 ≤ 60 ∧ 1 ≤ ad.2 5 j 100)) (hn : n ≤ 39) (hel : ∀ i, i < n → ad.2 5 j i = ad.1 kd i ∧ ad.1 kd i ≠ 0) (hq : ad.1 kd n ≠ 0) (hkd : 5 < kd ∧ kd < 28) (hce : ∀ (a : kA) (d : kD), a.2 kd = ad.2 kd → d.1 kd = d0.1 kd → d.2.1 kd = d0.2.1 kd → ∀ i, kC cA a d kd i = some (.inr (ci, fs i))) (hcl : vwCl[ci]? = some (C, T, N)) (hca : Cond.castable C "java/lang/Object" ∈ nW) (hsz : d0.1 4 j 2 = nI n) : oM l yJx4a65c_add_72be8 wJx4a65c_add_72be8 6 1 60 D cA B0 ad d0 ([.ref (ad.1 4 j), .ref (ad.1 kd n), .ref (if ad.2 4 j 1 = 0 then cA 100 else ad.2 4 j 1), .int (nI n)] : List Value) (oQvA D cA B0 (fun u => AdP ad j n (ad.1 kd n) u.1 ∧ u.2 = uI d0 4 j 2 (nI (n + 1)))) := by
  refine o_ofW (cc := cJx4a65c_add_72be8) (maxL := 4) (ret := none) (by decide) rfl (Nat.le_of_ble_eq_true rfl) ?_
  intro p e s m below meth c hx hb hr hml hts hown hlocks hnm hK hW hB hS ls hl
  have hu : ∀ w ∈ UW, w.before _ s = true := fun w h => hts w (uw_c w h)
  have hl : lv_has ls 4 [(0, .ref (ad.1 4 j)), (1, .ref (ad.1 kd n)), (2, .ref (if ad.2 4 j 1 = 0 then cA 100 else ad.2 4 j 1)), (3, .int (nI n))] := hl
  have tail : ∀ (ad' : kA) (H : Heap) (locs : List Loc) (ls : Array Slot), GrP ad j n ad' → oW D cA B0 ad' d0 H → va_S (oA B0) s.heap H locs → lv_has ls 4 [(2, .ref (ad'.1 5 j)), (0, .ref (ad.1 4 j)), (1, .ref (ad.1 kd n)), (3, .int (nI n))] → W p l e (oR 6 1 60) s m ([.ref (ad.1 4 j), .ref (ad.1 kd n), .ref (if ad.2 4 j 1 = 0 then cA 100 else ad.2 4 j 1), .int (nI n)] : List Value).toArray below meth c H locs 1 60 (MQ below (oQvA D cA B0 (fun u => AdP ad j n (ad.1 kd n) u.1 ∧ u.2 = uI d0 4 j 2 (nI (n + 1)))) ([.ref (ad.1 4 j), .ref (ad.1 kd n), .ref (if ad.2 4 j 1 = 0 then cA 100 else ad.2 4 j 1), .int (nI n)] : List Value).toArray s 1 60 (oA B0)) (F0 m 11 ls []) := by
    intro ad' H locs ls hg hW hS hl
    have g5 := hg.2.2.2.2.1
    have g6 := hg.2.2.2.2.2.1
    have g3 := hg.2.2.1
    have ekd : ad'.1 kd n = ad.1 kd n := g5 kd n (by omega)
    have e4 : ad'.1 4 j = ad.1 4 j := g5 4 j (by omega)
    refine lv_aload_n hx hb dJx4a65c_add_72be8_11 rfl (lv_at hl 0 rfl) ?_
    refine lv_iload_n hx hb dJx4a65c_add_72be8_12 rfl (lv_at hl 3 rfl) ?_
    refine lv_aload_n hx hb dJx4a65c_add_72be8_13 rfl (lv_at hl 2 rfl) ?_
    refine W.eq (g2 := F0 m 14 ls [.ref (ad'.1 kd n), .int (nI n), .ref (ad'.1 5 j)]) (by rw [ekd]) ?_
    refine x_astq hx hb hK hW hS (k := 5) (i := j) (by decide) hg.1 (fun _ _ _ => rfl) (by rw [ekd]; exact hq) (hce ad' d0 (by funext i; exact g6 kd i (by omega) (by omega) (by omega)) rfl rfl n) hcl hca (by omega) (by omega) dJx4a65c_add_72be8_14 (fun H locs hW hS => ?_)
    refine lv_aload_n hx hb dJx4a65c_add_72be8_15 rfl (lv_at hl 1 rfl) ?_
    refine lv_iload_n hx hb dJx4a65c_add_72be8_16 rfl (lv_at hl 3 rfl) ?_
    refine n_iconst (v := 1) hx hb dJx4a65c_add_72be8_17 (by decide) ?_
    refine n_iadd hx hb dJx4a65c_add_72be8_18 ?_
    refine W.eq (g2 := F0 m 19 ls [.int (nI (n + 1)), .ref ((ad2 ad' 5 j n (ad'.1 kd n)).1 4 j)]) (by show F0 m 19 ls [.int (nI (n + 1)), .ref (ad.1 4 j)] = F0 m 19 ls [.int (nI (n + 1)), .ref (ad'.1 4 j)]; rw [e4]) ?_
    refine x_pi hx hb hu in_Jx4a65c tyJx4a65c tyJx4a65c_ok nmJx4a65c hown hK hW hS (k := 4) (i := j) (by show ad'.1 4 j ≠ 0; rw [e4]; exact h4) (kI_4 _ _ _ _) rfl 2 (ty := .int) (by decide +kernel) uF_Jx4a65c_48 ⟨rfl, rfl⟩ dJx4a65c_add_72be8_19 (fun H locs hW hS => ?_)
    exact W.vret hx hb hr (fun t ht _ => ⟨⟨(ad2 ad' 5 j n (ad'.1 kd n), uI d0 4 j 2 (nI (n + 1))), rfl, ⟨by rw [ekd]; exact hg.add, rfl⟩, by show oW D cA B0 _ _ t.heap; rw [ht]; exact hW⟩, hS.F ht⟩) hS.2.2 dJx4a65c_add_72be8_22
  refine lv_iload_n hx hb dJx4a65c_add_72be8_0 rfl (lv_at hl 3 rfl) ?_
  refine lv_aload_n hx hb dJx4a65c_add_72be8_1 rfl (lv_at hl 2 rfl) ?_
  have go : ∀ (ls : Array Slot), lv_has ls 4 [(0, .ref (ad.1 4 j)), (1, .ref (ad.1 kd n)), (2, .ref (if ad.2 4 j 1 = 0 then cA 100 else ad.2 4 j 1)), (3, .int (nI n))] → ((n = 0 ∧ ad.2 4 j 1 = 0) ∨ (1 ≤ n ∧ ad.1 5 j ≠ 0 ∧ ad.2 4 j 1 = ad.1 5 j ∧ ad.2 5 j 100 = n)) → W p l e (oR 6 1 60) s m ([.ref (ad.1 4 j), .ref (ad.1 kd n), .ref (if ad.2 4 j 1 = 0 then cA 100 else ad.2 4 j 1), .int (nI n)] : List Value).toArray below meth c s.heap [] 0 0 (MQ below (oQvA D cA B0 (fun u => AdP ad j n (ad.1 kd n) u.1 ∧ u.2 = uI d0 4 j 2 (nI (n + 1)))) ([.ref (ad.1 4 j), .ref (ad.1 kd n), .ref (if ad.2 4 j 1 = 0 then cA 100 else ad.2 4 j 1), .int (nI n)] : List Value).toArray s 1 60 (oA B0)) (F0 m 6 ls []) := by
    intro ls hl hfull
    refine lv_aload_n hx hb dJx4a65c_add_72be8_6 rfl (lv_at hl 0 rfl) ?_
    refine o_callqA (o_runV (As := []) (rest := []) ⟨hx, hb, hml, hown, hu⟩ (c_Jx4a65c_grow_d5877 l D cA B0 ad hal d0 j n kd ci N h4 hdead hfull hn hel hkd.2 (fun a ha => hce a d0 ha rfl rfl) hcl hca hsz) (gV_Jx4a65c_129 (fun _ h => h)) (n0 := 0) rfl (by decide +kernel) rfl ⟨Nat.le_of_ble_eq_true rfl, Nat.le_of_ble_eq_true rfl⟩ (o_recv hK hW h4 (kX_4 _ _ _ _) rfl) hK hW hB hS hl.1 rfl (lv_room (Nat.le_of_ble_eq_true rfl)) ⟨Nat.le_of_ble_eq_true rfl, Nat.le_of_ble_eq_true rfl⟩ dJx4a65c_add_72be8_7) hS (fun r u hp H1 locs1 hW1 hS1 => ?_)
    obtain ⟨ad', d'⟩ := u
    obtain ⟨rfl, hg, c5⟩ := hp
    have c5 : d' = d0 := c5
    subst c5
    refine W.eq (g2 := F0 m 10 ls [.ref (ad'.1 5 j)]) rfl ?_
    refine lv_astore_n (lv' := [(2, .ref (ad'.1 5 j)), (0, .ref (ad.1 4 j)), (1, .ref (ad.1 kd n)), (3, .int (nI n))]) hx hb dJx4a65c_add_72be8_10 rfl hl (by decide) rfl (fun ls hl => ?_)
    exact tail ad' H1 locs1 ls hg hW1 hS1 hl
  rcases hls with ⟨hn0, h0⟩ | ⟨h5, h45, hle, h60, h1⟩
  · refine W.eq (g2 := F0 m 2 ls [.ref (cA 100), .int (nI n)]) (by rw [if_pos h0]) ?_
    refine va_tlen hx hb hB.2.2.1 hS (v := nI 0) rfl dJx4a65c_add_72be8_2 ?_
    refine n_icmp_ne (a := n) (b := 0) (tgt := 11) hx hb (by omega) (by omega) dJx4a65c_add_72be8_3 (by decide) (fun h => absurd hn0 h) (fun _ => ?_)
    exact go ls hl (Or.inl ⟨hn0, h0⟩)
  · have hz : (if ad.2 4 j 1 = 0 then cA 100 else ad.2 4 j 1) = ad.1 5 j := by rw [if_neg (by rw [h45]; exact h5), h45]
    refine W.eq (g2 := F0 m 2 ls [.ref (ad.1 5 j), .int (nI n)]) (by rw [hz]) ?_
    refine x_len hx hb hK hW h5 3 (kX_5 _ _ _ _) rfl dJx4a65c_add_72be8_2 ?_
    refine W.eq (g2 := F0 m 3 ls [.int (nI (ad.2 5 j 100)), .int (nI n)]) rfl ?_
    refine n_icmp_ne (a := n) (b := ad.2 5 j 100) (tgt := 11) hx hb (by omega) (by omega) dJx4a65c_add_72be8_3 (by decide) (fun h => ?_) (fun h => ?_)
    · refine W.widen (k := 1) (n := 60) (by decide) (by decide) ?_
      have hl2 := lv_sub hl [2, 0, 1, 3] rfl
      rw [hz] at hl2
      exact tail ad s.heap [] ls ⟨h5, h45, ⟨by omega, h60⟩, fun _ _ => rfl, fun _ _ _ => rfl, fun _ _ _ _ _ => rfl, fun _ _ => rfl⟩ hW hS hl2
    · exact go ls hl (Or.inr ⟨by omega, h5, h45, h.symm⟩)
set_option maxHeartbeats 1000000 in
set_option maxRecDepth 100000 in
theorem c_Jx4a65c_add_9ea2d (l : Launch) (D : va_G) (cA : Nat → ClassId) (B0 : Nat) (ad : kA) (hal : mAl ad) (d0 : kD) (j n kd ci N : Nat) {C : String} {T : u_T} {fs : Nat → List Value} (h4 : ad.1 4 j ≠ 0) (hdead : ad.1 28 0 = 0) (hls : (n = 0 ∧ ad.2 4 j 1 = 0) ∨ (ad.1 5 j ≠ 0 ∧ ad.2 4 j 1 = ad.1 5 j ∧ n ≤ ad.2 5 j 100 ∧ ad.2 5 j 100 ≤ 60 ∧ 1 ≤ ad.2 5 j 100)) (hn : n ≤ 39) (hel : ∀ i, i < n → ad.2 5 j i = ad.1 kd i ∧ ad.1 kd i ≠ 0) (hq : ad.1 kd n ≠ 0) (hkd : 5 < kd ∧ kd < 28) (hce : ∀ (a : kA) (d : kD), a.2 kd = ad.2 kd → d.1 kd = d0.1 kd → d.2.1 kd = d0.2.1 kd → ∀ i, kC cA a d kd i = some (.inr (ci, fs i))) (hcl : vwCl[ci]? = some (C, T, N)) (hca : Cond.castable C "java/lang/Object" ∈ nW) (hsz : d0.1 4 j 2 = nI n) : oM l yJx4a65c_add_9ea2d wJx4a65c_add_9ea2d 7 1 60 D cA B0 ad d0 ([.ref (ad.1 4 j), .ref (ad.1 kd n)] : List Value) (oQiA D cA B0 (fun r u => r = nI 1 ∧ AdP ad j n (ad.1 kd n) u.1 ∧ u.2 = uI (uI d0 4 j 0 (d0.1 4 j 0 + nI 1)) 4 j 2 (nI (n + 1)))) := by
  refine o_ofW (cc := cJx4a65c_add_9ea2d) (maxL := 2) (ret := some .boolean) (by decide) rfl (Nat.le_of_ble_eq_true rfl) ?_
  intro p e s m below meth c hx hb hr hml hts hown hlocks hnm hK hW hB hS ls hl
  have hu : ∀ w ∈ UW, w.before _ s = true := fun w h => hts w (uw_c w h)
  have hl : lv_has ls 2 [(0, .ref (ad.1 4 j)), (1, .ref (ad.1 kd n))] := hl
  refine lv_aload_n hx hb dJx4a65c_add_9ea2d_0 rfl (lv_at hl 0 rfl) ?_
  refine lv_dup hx hb dJx4a65c_add_9ea2d_1 rfl ?_
  refine x_giU hx hb hu in_Jx4a65c hown hK hW h4 (kX_4 _ _ _ _) rfl 0 (by decide) uF_Jx4a65c_63 uY_modCount dJx4a65c_add_9ea2d_2 ?_
  refine n_iconst (v := 1) hx hb dJx4a65c_add_9ea2d_5 (by decide) ?_
  refine lv_iadd hx hb dJx4a65c_add_9ea2d_6 ?_
  refine x_piU hx hb hu in_Jx4a65c tyJx4a65c tyJx4a65c_ok nmJx4a65c hown hK hW hS (k := 4) (i := j) h4 (kI_4 _ _ _ _) rfl 0 (ty := .int) (by decide +kernel) uF_Jx4a65c_63 uY_modCount ⟨rfl, rfl⟩ dJx4a65c_add_9ea2d_7 (fun H locs hW hS => ?_)
  generalize hd1 : uI d0 4 j 0 (d0.1 4 j 0 + nI 1) = d1 at hW
  have e4 : d1.1 4 j 2 = nI n := by rw [← hd1, uI_f _ _ _ _ (by decide)]; exact hsz
  have ek : d1.1 kd = d0.1 kd := by rw [← hd1, uI_k _ _ _ _ (by omega)]
  have eJ : d1.2.1 kd = d0.2.1 kd := by rw [← hd1]; rfl
  refine lv_aload_n hx hb dJx4a65c_add_9ea2d_10 rfl (lv_at hl 0 rfl) ?_
  refine lv_aload_n hx hb dJx4a65c_add_9ea2d_11 rfl (lv_at hl 1 rfl) ?_
  refine lv_aload_n hx hb dJx4a65c_add_9ea2d_12 rfl (lv_at hl 0 rfl) ?_
  refine x_gv hx hb hu in_Jx4a65c hown hK hW h4 (kX_4 _ _ _ _) rfl 1 (by decide) uF_Jx4a65c_9 dJx4a65c_add_9ea2d_13 ?_
  refine W.eq (g2 := F0 m 16 ls [.ref (if ad.2 4 j 1 = 0 then cA 100 else ad.2 4 j 1), .ref (ad.1 kd n), .ref (ad.1 4 j)]) (by show F0 m 16 ls [xV _ _ _ 3 1, _, _] = _; rw [xV_z rfl]) ?_
  refine lv_aload_n hx hb dJx4a65c_add_9ea2d_16 rfl (lv_at hl 0 rfl) ?_
  refine x_gi hx hb hu in_Jx4a65c hown hK hW h4 (kX_4 _ _ _ _) rfl 2 (by decide) uF_Jx4a65c_48 dJx4a65c_add_9ea2d_17 ?_
  refine n_topi (y := nI n) e4 ?_
  refine o_callvA (o_runV (As := [.ref (ad.1 kd n), .ref (if ad.2 4 j 1 = 0 then cA 100 else ad.2 4 j 1), .int (nI n)]) (rest := []) ⟨hx, hb, hml, hown, hu⟩ (c_Jx4a65c_add_72be8 l D cA B0 ad hal d1 j n kd ci N h4 hdead hls hn hel hq hkd (fun a d ha h1 h2 => hce a d ha (h1.trans ek) (h2.trans eJ)) hcl hca e4) (gV_Jx4a65c_131 (fun _ h => h)) (n0 := 3) rfl (by decide +kernel) rfl ⟨Nat.le_of_ble_eq_true rfl, Nat.le_of_ble_eq_true rfl⟩ (o_recv hK hW h4 (kX_4 _ _ _ _) rfl) hK hW hB hS hl.1 rfl (lv_room (Nat.le_of_ble_eq_true rfl)) ⟨Nat.le_of_ble_eq_true rfl, Nat.le_of_ble_eq_true rfl⟩ dJx4a65c_add_9ea2d_20) hS (fun u hp H1 locs1 hW1 hS1 => ?_)
  refine n_iconst (v := 1) hx hb dJx4a65c_add_9ea2d_23 (by decide) ?_
  refine W.widen (k := 1) (n := 60) (by decide) (by decide) ?_
  exact W.zret hx hb hr rfl (fun t ht _ => ⟨⟨nI 1, u, rfl, ⟨rfl, hp.1, hp.2⟩, by show oW D cA B0 u.1 u.2 t.heap; rw [ht]; exact hW1⟩, hS1.F ht⟩) hS1.2.2 dJx4a65c_add_9ea2d_24 hlocks
