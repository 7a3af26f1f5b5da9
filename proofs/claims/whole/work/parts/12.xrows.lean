/-! rows for the cells of the kinds below 40 -/
theorem rf_ne {q : Nat} (h : q ≠ 0) : va_rf (rf q) = .ref q := by unfold rf; rw [if_neg h]; rfl
theorem rf_0 : va_rf (rf 0) = .null := rfl
theorem xO_len (r : Nat → Nat) (gI : Nat → Int32) (gJ : Nat → Int64) (ts : List Nat) : (xO r gI gJ ts).length = ts.length := by simp [xO]
theorem xO_at (r : Nat → Nat) (gI : Nat → Int32) (gJ : Nat → Int64) (ts : List Nat) {f : Nat} (hf : f < ts.length) : (xO r gI gJ ts)[f]? = some (xV r gI gJ (ts.getD f 0) f) := by
  unfold xO
  rw [List.getElem?_map, List.getElem?_range hf]; rfl
theorem xO_set {r r' : Nat → Nat} {gI gI' : Nat → Int32} {gJ gJ' : Nat → Int64} {ts : List Nat} {f : Nat} {v : Value} (hv : xV r' gI' gJ' (ts.getD f 0) f = v) (ho : ∀ j, j ≠ f → xV r' gI' gJ' (ts.getD j 0) j = xV r gI gJ (ts.getD j 0) j) : xO r' gI' gJ' ts = (xO r gI gJ ts).set f v := by
  apply List.ext_getElem?
  intro j
  rw [List.getElem?_set, xO_len]
  by_cases hj : j < ts.length
  · rw [xO_at _ _ _ _ hj, xO_at _ _ _ _ hj]
    by_cases hfj : f = j
    · subst hfj
      rw [if_pos rfl, if_pos hj, hv]
    · rw [if_neg hfj, ho j (Ne.symm hfj)]
  · rw [List.getElem?_eq_none (by rw [xO_len]; omega), List.getElem?_eq_none (by rw [xO_len]; omega)]
    by_cases hfj : f = j
    · subst hfj
      rw [if_pos rfl, if_neg hj]
    · rw [if_neg hfj]
theorem xO_setI {r : Nat → Nat} {gI : Nat → Int32} {gJ : Nat → Int64} {ts : List Nat} {f : Nat} {v : Int32} (ht : ts.getD f 0 = 0) : xO r (va_up gI f v) gJ ts = (xO r gI gJ ts).set f (.int v) :=
  xO_set (by unfold xV; rw [if_pos ht]; simp [va_up]) (fun j hj => by unfold xV; simp [va_up, hj])
theorem xO_setJ {r : Nat → Nat} {gI : Nat → Int32} {gJ : Nat → Int64} {ts : List Nat} {f : Nat} {v : Int64} (ht : ts.getD f 0 = 1) : xO r gI (va_up gJ f v) ts = (xO r gI gJ ts).set f (.long v) :=
  xO_set (by unfold xV; rw [if_neg (by rw [ht]; decide), if_pos ht]; simp [va_up]) (fun j hj => by unfold xV; simp [va_up, hj])
theorem xO_setR {r : Nat → Nat} {gI : Nat → Int32} {gJ : Nat → Int64} {ts : List Nat} {f q : Nat} (ht : ts.getD f 0 = 2) : xO (va_up r f q) gI gJ ts = (xO r gI gJ ts).set f (va_rf (rf q)) :=
  xO_set (by unfold xV; rw [if_neg (by rw [ht]; decide), if_neg (by rw [ht]; decide), if_neg (by rw [ht]; decide)]; simp [va_up]) (fun j hj => by unfold xV; simp [va_up, hj])
theorem xV_i {r : Nat → Nat} {gI : Nat → Int32} {gJ : Nat → Int64} {t f : Nat} (h : t = 0) : xV r gI gJ t f = .int (gI f) := if_pos h
theorem xV_l {r : Nat → Nat} {gI : Nat → Int32} {gJ : Nat → Int64} {t f : Nat} (h : t = 1) : xV r gI gJ t f = .long (gJ f) := by unfold xV; rw [if_neg (by omega), if_pos h]
theorem xV_r {r : Nat → Nat} {gI : Nat → Int32} {gJ : Nat → Int64} {t f : Nat} (h : t = 2) : xV r gI gJ t f = va_rf (rf (r f)) := by unfold xV; rw [if_neg (by omega), if_neg (by omega), if_neg (by omega)]
theorem xV_z {r : Nat → Nat} {gI : Nat → Int32} {gJ : Nat → Int64} {t f : Nat} (h : t = 3) : xV r gI gJ t f = .ref (r f) := by unfold xV; rw [if_neg (by omega), if_neg (by omega), if_pos h]
theorem kC_x {cA : Nat → ClassId} {ad : kA} {d : kD} {k i : Nat} (hk : k < 40) : kC cA ad d k i = xF cA (ad.2 k i) (d.1 k i) (d.2.1 k i) k := if_pos hk
/-- the layout of one key reaches its own cell alone -/
theorem kC_adX {cA : Nat → ClassId} {ad : kA} {d : kD} {k i f q : Nat} (hk : k < 40) (k' i' : Nat) (h : ¬ (k' = k ∧ i' = i)) : kC cA (ad2 ad k i f q) d k' i' = kC cA ad d k' i' := by
  unfold kC kF
  by_cases hk' : k' < 40
  · rw [if_pos hk', if_pos hk']
    show xF cA (up3 ad.2 k i f q k' i') _ _ _ = _
    rw [up3_ne _ _ _ h]
  · rw [if_neg hk', if_neg hk']
    have e : (ad2 ad k i f q).2 40 0 = ad.2 40 0 := up3_ne _ _ _ (by omega)
    unfold mF mO mV
    rw [e]
section XR
variable {p : Program} {l : Launch} {e : Env} {R : Room} {s : State} {m : MethodId} {args : Array Value} {below : List Frame} {meth : Method} {c : Code} {H : Heap} {locs : List Loc} {cells slots : Nat} {Q : State → Prop}
variable {cc : ByteArray} {pc : Nat} {ls : Array Slot} {rest : List Value} {D : va_G} {cA : Nat → ClassId} {B0 : Nat} {ad : kA} {d : kD} {H0 : Heap} {index : Nat}
theorem x_gv (hx : p.tables.exec = Jvm.exec) (hb : c.code = cc) (hu : ∀ w ∈ UW, w.before args s = true) {own C : String} {T : u_T} {N ci : Nat} (hin : ∀ w ∈ u_ws C T N, w ∈ UW) (hown : s.vm.findClass own = some m.cls) (hK : oK D cA s) (hW : oW D cA B0 ad d H) {k i : Nat} (ha : ad.1 k i ≠ 0) {r : Nat → Nat} {ts : List Nat} (hc : kC cA ad d k i = some (.inr (ci, xO r (d.1 k i) (d.2.1 k i) ts))) (hcl : vwCl[ci]? = some (C, T, N)) (f : Nat) (hf : f < N ∧ f < ts.length) (hlink : Cond.fieldLink own index (T f).1 (T f).2.1 (T f).2.2.1 ∈ UW) (hdg : decode cc pc = .ok (.getfield index, 3))
    (kk : W p l e R s m args below meth c H locs cells slots Q (F0 m (pc + 3) ls (xV r (d.1 k i) (d.2.1 k i) (ts.getD f 0) f :: rest))) : W p l e R s m args below meth c H locs cells slots Q (F0 m pc ls (.ref (ad.1 k i) :: rest)) :=
  o_get hx hb hu hin hown hK hW ha hc hcl f hf.1 (hu _ hlink) (xO_at _ _ _ _ hf.2) hdg kk
theorem x_gi (hx : p.tables.exec = Jvm.exec) (hb : c.code = cc) (hu : ∀ w ∈ UW, w.before args s = true) {own C : String} {T : u_T} {N ci : Nat} (hin : ∀ w ∈ u_ws C T N, w ∈ UW) (hown : s.vm.findClass own = some m.cls) (hK : oK D cA s) (hW : oW D cA B0 ad d H) {k i : Nat} (ha : ad.1 k i ≠ 0) {r : Nat → Nat} {ts : List Nat} (hc : kC cA ad d k i = some (.inr (ci, xO r (d.1 k i) (d.2.1 k i) ts))) (hcl : vwCl[ci]? = some (C, T, N)) (f : Nat) (hf : (f < N ∧ f < ts.length) ∧ ts.getD f 0 = 0) (hlink : Cond.fieldLink own index (T f).1 (T f).2.1 (T f).2.2.1 ∈ UW) (hdg : decode cc pc = .ok (.getfield index, 3))
    (kk : W p l e R s m args below meth c H locs cells slots Q (F0 m (pc + 3) ls (.int (d.1 k i f) :: rest))) : W p l e R s m args below meth c H locs cells slots Q (F0 m pc ls (.ref (ad.1 k i) :: rest)) :=
  x_gv hx hb hu hin hown hK hW ha hc hcl f hf.1 hlink hdg (by rw [xV_i hf.2]; exact kk)
theorem x_gl (hx : p.tables.exec = Jvm.exec) (hb : c.code = cc) (hu : ∀ w ∈ UW, w.before args s = true) {own C : String} {T : u_T} {N ci : Nat} (hin : ∀ w ∈ u_ws C T N, w ∈ UW) (hown : s.vm.findClass own = some m.cls) (hK : oK D cA s) (hW : oW D cA B0 ad d H) {k i : Nat} (ha : ad.1 k i ≠ 0) {r : Nat → Nat} {ts : List Nat} (hc : kC cA ad d k i = some (.inr (ci, xO r (d.1 k i) (d.2.1 k i) ts))) (hcl : vwCl[ci]? = some (C, T, N)) (f : Nat) (hf : (f < N ∧ f < ts.length) ∧ ts.getD f 0 = 1) (hlink : Cond.fieldLink own index (T f).1 (T f).2.1 (T f).2.2.1 ∈ UW) (hdg : decode cc pc = .ok (.getfield index, 3))
    (kk : W p l e R s m args below meth c H locs cells slots Q (F0 m (pc + 3) ls (.long (d.2.1 k i f) :: rest))) : W p l e R s m args below meth c H locs cells slots Q (F0 m pc ls (.ref (ad.1 k i) :: rest)) :=
  x_gv hx hb hu hin hown hK hW ha hc hcl f hf.1 hlink hdg (by rw [xV_l hf.2]; exact kk)
theorem x_gr (hx : p.tables.exec = Jvm.exec) (hb : c.code = cc) (hu : ∀ w ∈ UW, w.before args s = true) {own C : String} {T : u_T} {N ci : Nat} (hin : ∀ w ∈ u_ws C T N, w ∈ UW) (hown : s.vm.findClass own = some m.cls) (hK : oK D cA s) (hW : oW D cA B0 ad d H) {k i : Nat} (ha : ad.1 k i ≠ 0) {ts : List Nat} (hc : kC cA ad d k i = some (.inr (ci, xO (ad.2 k i) (d.1 k i) (d.2.1 k i) ts))) (hcl : vwCl[ci]? = some (C, T, N)) (f : Nat) (hf : (f < N ∧ f < ts.length) ∧ ts.getD f 0 = 2) (hlink : Cond.fieldLink own index (T f).1 (T f).2.1 (T f).2.2.1 ∈ UW) {q : Nat} (hq : ad.2 k i f = q ∧ q ≠ 0) (hdg : decode cc pc = .ok (.getfield index, 3))
    (kk : W p l e R s m args below meth c H locs cells slots Q (F0 m (pc + 3) ls (.ref q :: rest))) : W p l e R s m args below meth c H locs cells slots Q (F0 m pc ls (.ref (ad.1 k i) :: rest)) :=
  x_gv hx hb hu hin hown hK hW ha hc hcl f hf.1 hlink hdg (by rw [xV_r hf.2, hq.1, rf_ne hq.2]; exact kk)
theorem x_gz (hx : p.tables.exec = Jvm.exec) (hb : c.code = cc) (hu : ∀ w ∈ UW, w.before args s = true) {own C : String} {T : u_T} {N ci : Nat} (hin : ∀ w ∈ u_ws C T N, w ∈ UW) (hown : s.vm.findClass own = some m.cls) (hK : oK D cA s) (hW : oW D cA B0 ad d H) {k i : Nat} (ha : ad.1 k i ≠ 0) {z : Nat} {ts : List Nat} (hc : kC cA ad d k i = some (.inr (ci, xO (fun f => if ad.2 k i f = 0 then z else ad.2 k i f) (d.1 k i) (d.2.1 k i) ts))) (hcl : vwCl[ci]? = some (C, T, N)) (f : Nat) (hf : (f < N ∧ f < ts.length) ∧ ts.getD f 0 = 3) (hlink : Cond.fieldLink own index (T f).1 (T f).2.1 (T f).2.2.1 ∈ UW) {q : Nat} (hq : ad.2 k i f = q ∧ q ≠ 0) (hdg : decode cc pc = .ok (.getfield index, 3))
    (kk : W p l e R s m args below meth c H locs cells slots Q (F0 m (pc + 3) ls (.ref q :: rest))) : W p l e R s m args below meth c H locs cells slots Q (F0 m pc ls (.ref (ad.1 k i) :: rest)) :=
  x_gv hx hb hu hin hown hK hW ha hc hcl f hf.1 hlink hdg (by rw [xV_z hf.2]; show W p l e R s m args below meth c H locs cells slots Q (F0 m (pc + 3) ls (.ref (if ad.2 k i f = 0 then z else ad.2 k i f) :: rest)); rw [if_neg (by rw [hq.1]; exact hq.2), hq.1]; exact kk)
theorem x_gq (hx : p.tables.exec = Jvm.exec) (hb : c.code = cc) (hu : ∀ w ∈ UW, w.before args s = true) {own C : String} {T : u_T} {N ci : Nat} (hin : ∀ w ∈ u_ws C T N, w ∈ UW) (hown : s.vm.findClass own = some m.cls) (hK : oK D cA s) (hW : oW D cA B0 ad d H) {k i : Nat} (ha : ad.1 k i ≠ 0) {ts : List Nat} (hc : kC cA ad d k i = some (.inr (ci, xO (ad.2 k i) (d.1 k i) (d.2.1 k i) ts))) (hcl : vwCl[ci]? = some (C, T, N)) (f : Nat) (hf : (f < N ∧ f < ts.length) ∧ ts.getD f 0 = 2) (hlink : Cond.fieldLink own index (T f).1 (T f).2.1 (T f).2.2.1 ∈ UW) (hdg : decode cc pc = .ok (.getfield index, 3))
    (kk : W p l e R s m args below meth c H locs cells slots Q (F0 m (pc + 3) ls (va_rf (rf (ad.2 k i f)) :: rest))) : W p l e R s m args below meth c H locs cells slots Q (F0 m pc ls (.ref (ad.1 k i) :: rest)) :=
  x_gv hx hb hu hin hown hK hW ha hc hcl f hf.1 hlink hdg (by rw [xV_r hf.2]; exact kk)
theorem x_pi (hx : p.tables.exec = Jvm.exec) (hb : c.code = cc) (hu : ∀ w ∈ UW, w.before args s = true) {own C : String} {T : u_T} {N ci : Nat} (hin : ∀ w ∈ u_ws C T N, w ∈ UW) (ty0 : Nat → FieldType) (hty : ∀ k, k < N → parseFieldDescriptor (T k).2.2.1 = some (ty0 k)) (hnm : ∀ a, a < N → ∀ b, b < N → a ≠ b → (T a).2.1 ≠ (T b).2.1) (hown : s.vm.findClass own = some m.cls) (hK : oK D cA s) (hW : oW D cA B0 ad d H) (hS : va_S (oA B0) H0 H locs) {k i : Nat} (ha : ad.1 k i ≠ 0) {r : Nat → Nat} {ts : List Nat} (hc : ∀ g, kF cA ad g (d.2.1 k i) (d.2.2 k i) k i = some (.inr (ci, xO r g (d.2.1 k i) ts))) (hcl : vwCl[ci]? = some (C, T, N)) (f : Nat) {ty : FieldType} (hf : ((f < N ∧ f < ts.length) ∧ ts.getD f 0 = 0) ∧ (T f).2.2.2 = false ∧ parseFieldDescriptor (T f).2.2.1 = some ty) (hlink : Cond.fieldLink own index (T f).1 (T f).2.1 (T f).2.2.1 ∈ UW) {v : Int32} (hn : narrow ty (.int v) = .int v ∧ fits ty (.int v) = true) (hdg : decode cc pc = .ok (.putfield index, 3))
    (kk : ∀ (H1 : Heap) (locs1 : List Loc), oW D cA B0 ad (uI d k i f v) H1 → va_S (oA B0) H0 H1 locs1 → W p l e R s m args below meth c H1 locs1 cells slots Q (F0 m (pc + 3) ls rest)) : W p l e R s m args below meth c H locs cells slots Q (F0 m pc ls (.int v :: .ref (ad.1 k i) :: rest)) :=
  o_puti hx hb hu hin ty0 hty hnm hown hK hW hS ha hc hcl f hf.1.1.1 (hu _ hlink) hf.2.1 (ty := ty) hf.2.2 (xO_setI hf.1.2) hn.1 hn.2 (by rw [xO_len]; exact hf.1.1.2) hdg kk
theorem x_pl (hx : p.tables.exec = Jvm.exec) (hb : c.code = cc) (hu : ∀ w ∈ UW, w.before args s = true) {own C : String} {T : u_T} {N ci : Nat} (hin : ∀ w ∈ u_ws C T N, w ∈ UW) (ty0 : Nat → FieldType) (hty : ∀ k, k < N → parseFieldDescriptor (T k).2.2.1 = some (ty0 k)) (hnm : ∀ a, a < N → ∀ b, b < N → a ≠ b → (T a).2.1 ≠ (T b).2.1) (hown : s.vm.findClass own = some m.cls) (hK : oK D cA s) (hW : oW D cA B0 ad d H) (hS : va_S (oA B0) H0 H locs) {k i : Nat} (ha : ad.1 k i ≠ 0) {r : Nat → Nat} {ts : List Nat} (hc : ∀ g, kF cA ad (d.1 k i) g (d.2.2 k i) k i = some (.inr (ci, xO r (d.1 k i) g ts))) (hcl : vwCl[ci]? = some (C, T, N)) (f : Nat) (hf : ((f < N ∧ f < ts.length) ∧ ts.getD f 0 = 1) ∧ (T f).2.2.2 = false ∧ parseFieldDescriptor (T f).2.2.1 = some .long) (hlink : Cond.fieldLink own index (T f).1 (T f).2.1 (T f).2.2.1 ∈ UW) {v : Int64} (hdg : decode cc pc = .ok (.putfield index, 3))
    (kk : ∀ (H1 : Heap) (locs1 : List Loc), oW D cA B0 ad (uJ d k i f v) H1 → va_S (oA B0) H0 H1 locs1 → W p l e R s m args below meth c H1 locs1 cells slots Q (F0 m (pc + 3) ls rest)) : W p l e R s m args below meth c H locs cells slots Q (F0 m pc ls (.long v :: .ref (ad.1 k i) :: rest)) :=
  o_putl hx hb hu hin ty0 hty hnm hown hK hW hS ha hc hcl f hf.1.1.1 (hu _ hlink) hf.2.1 hf.2.2 (xO_setJ hf.1.2) (by rw [xO_len]; exact hf.1.1.2) hdg kk
theorem x_il (hx : p.tables.exec = Jvm.exec) (hb : c.code = cc) (hK : oK D cA s) (hW : oW D cA B0 ad d H) {k i n j : Nat} (ha : ad.1 k i ≠ 0) (hc : kC cA ad d k i = some (.inl (cA 0, n, .inl (d.1 k i)))) (hn : n < 2 ^ 31) (hj : j < n) (hdg : decode cc pc = .ok (.iaload, 1))
    (kk : W p l e R s m args below meth c H locs cells slots Q (F0 m (pc + 1) ls (.int (d.1 k i j) :: rest))) : W p l e R s m args below meth c H locs cells slots Q (F0 m pc ls (.int (nI j) :: .ref (ad.1 k i) :: rest)) := by
  refine o_ild hx hb hK hW ha hc (vp_in_nI hj hn) hdg ?_
  rw [nI_clamp (by omega)]
  exact kk
theorem x_ll (hx : p.tables.exec = Jvm.exec) (hb : c.code = cc) (hK : oK D cA s) (hW : oW D cA B0 ad d H) {k i n j : Nat} (ha : ad.1 k i ≠ 0) (hc : kC cA ad d k i = some (.inl (cA 1, n, .inr (.inl (d.2.1 k i))))) (hn : n < 2 ^ 31) (hj : j < n) (hdg : decode cc pc = .ok (.laload, 1))
    (kk : W p l e R s m args below meth c H locs cells slots Q (F0 m (pc + 1) ls (.long (d.2.1 k i j) :: rest))) : W p l e R s m args below meth c H locs cells slots Q (F0 m pc ls (.int (nI j) :: .ref (ad.1 k i) :: rest)) := by
  refine o_lld hx hb hK hW ha hc (vp_in_nI hj hn) hdg ?_
  rw [nI_clamp (by omega)]
  exact kk
theorem x_is (hx : p.tables.exec = Jvm.exec) (hb : c.code = cc) (hK : oK D cA s) (hW : oW D cA B0 ad d H) (hS : va_S (oA B0) H0 H locs) {k i n j : Nat} {x : Int32} (ha : ad.1 k i ≠ 0) (hc : ∀ g, kF cA ad g (d.2.1 k i) (d.2.2 k i) k i = some (.inl (cA 0, n, .inl g))) (hn : n < 2 ^ 31) (hj : j < n) (hdg : decode cc pc = .ok (.iastore, 1))
    (kk : ∀ (H1 : Heap) (locs1 : List Loc), oW D cA B0 ad (uI d k i j x) H1 → va_S (oA B0) H0 H1 locs1 → W p l e R s m args below meth c H1 locs1 cells slots Q (F0 m (pc + 1) ls rest)) : W p l e R s m args below meth c H locs cells slots Q (F0 m pc ls (.int x :: .int (nI j) :: .ref (ad.1 k i) :: rest)) := by
  refine o_ist hx hb hK hW hS ha hc (vp_in_nI hj hn) hdg ?_
  rw [nI_clamp (by omega)]
  exact kk
theorem x_ls (hx : p.tables.exec = Jvm.exec) (hb : c.code = cc) (hK : oK D cA s) (hW : oW D cA B0 ad d H) (hS : va_S (oA B0) H0 H locs) {k i n j : Nat} {x : Int64} (ha : ad.1 k i ≠ 0) (hc : ∀ g, kF cA ad (d.1 k i) g (d.2.2 k i) k i = some (.inl (cA 1, n, .inr (.inl g)))) (hn : n < 2 ^ 31) (hj : j < n) (hdg : decode cc pc = .ok (.lastore, 1))
    (kk : ∀ (H1 : Heap) (locs1 : List Loc), oW D cA B0 ad (uJ d k i j x) H1 → va_S (oA B0) H0 H1 locs1 → W p l e R s m args below meth c H1 locs1 cells slots Q (F0 m (pc + 1) ls rest)) : W p l e R s m args below meth c H locs cells slots Q (F0 m pc ls (.long x :: .int (nI j) :: .ref (ad.1 k i) :: rest)) := by
  refine o_lst hx hb hK hW hS ha hc (vp_in_nI hj hn) hdg ?_
  rw [nI_clamp (by omega)]
  exact kk
theorem x_len (hx : p.tables.exec = Jvm.exec) (hb : c.code = cc) (hK : oK D cA s) (hW : oW D cA B0 ad d H) {k i : Nat} {x : vp_A} (ha : ad.1 k i ≠ 0) (t : Nat) {ty : FieldType} (hc : kC cA ad d k i = some (.inl (cA t, x))) (ht : (oT cA)[t]? = some (cA t, ty)) (hdg : decode cc pc = .ok (.arraylength, 1))
    (kk : W p l e R s m args below meth c H locs cells slots Q (F0 m (pc + 1) ls (.int (nI x.1) :: rest))) : W p l e R s m args below meth c H locs cells slots Q (F0 m pc ls (.ref (ad.1 k i) :: rest)) :=
  va_alen hx hb hK.1 (o_one (hW.1 k i _ ha hc).1) 0 t rfl ht rfl hdg kk
/-- a place of an array of references -/
theorem x_al (hx : p.tables.exec = Jvm.exec) (hb : c.code = cc) (hK : oK D cA s) (hW : oW D cA B0 ad d H) {k i n j q : Nat} (ha : ad.1 k i ≠ 0) {C : String} (t : Nat) (hc : kC cA ad d k i = some (.inl (cA t, n, .inr (.inr (.inr (.inr (fun q => rf (ad.2 k i q)))))))) (ht : (oT cA)[t]? = some (cA t, .object C)) (hn : n < 2 ^ 31) (hj : j < n) (hq : ad.2 k i j = q ∧ q ≠ 0) (hdg : decode cc pc = .ok (.aaload, 1))
    (kk : W p l e R s m args below meth c H locs cells slots Q (F0 m (pc + 1) ls (.ref q :: rest))) : W p l e R s m args below meth c H locs cells slots Q (F0 m pc ls (.int (nI j) :: .ref (ad.1 k i) :: rest)) := by
  refine va_aldq hx hb hK.1 (o_one (hW.1 k i _ ha hc).1) 0 t rfl ht (vp_in_nI hj hn) hdg ?_
  rw [nI_clamp (by omega), hq.1, rf_ne hq.2]
  exact kk
theorem x_cast (hx : p.tables.exec = Jvm.exec) (hb : c.code = cc) (hu : ∀ w ∈ UW, w.before args s = true) {own nm : String} (hown : s.vm.findClass own = some m.cls) (hlink : Cond.classLink own index nm ∈ UW) (hK : oK D cA s) (hW : oW D cA B0 ad d H) {k i ci N : Nat} {T : u_T} (ha : ad.1 k i ≠ 0) {fs : List Value} (hc : kC cA ad d k i = some (.inr (ci, fs))) (hcl : vwCl[ci]? = some (nm, T, N)) (hdg : decode cc pc = .ok (.checkcast index, 3))
    (kk : W p l e R s m args below meth c H locs cells slots Q (F0 m (pc + 3) ls (.ref (ad.1 k i) :: rest))) : W p l e R s m args below meth c H locs cells slots Q (F0 m pc ls (.ref (ad.1 k i) :: rest)) :=
  va_castS hx hb hown (hu _ hlink) (hK.1.1 ci _ hcl).2 (o_recv hK hW ha hc hcl) hdg kk
/-- a nest mate's static method -/
theorem o_runSN {y : MethodName} {bytes : ByteArray} {maxL nL mc ms n n0 : Nat} {ret : Option FieldType} {own host : String} {As st0 : List Value} (S : CallFix p m c cc nL s args UW own) {Qc : Array Value → State → Outcome → State → Prop} (hM : oM l y (wu y bytes maxL ret) n mc ms D cA B0 ad d As Qc) (hcd : Cond.code y bytes maxL ret ∈ UW) (hst : Cond.static y ∈ UW) (hini : Cond.initialized y.cls ∈ UW) (hnl : Cond.methodLinkNest own index y host ∈ nW) (hd : y.cls ≠ "java/lang/invoke/MethodHandle" ∧ y.cls ≠ "java/lang/invoke/VarHandle" ∧ (parseMethodDescriptor y.desc).map (fun d => d.parameters.length) = some n0) (hn0 : As.length = n0) (hR : n + 1 ≤ R.frames ∧ 8 + (maxL + 11) + 100 * n ≤ R.locals)
    (hK : oK D cA s) (hW : oW D cA B0 ad d H) (hB : oG cA B0 s) (hS : va_S (oA B0) s.heap H locs) (hsz : ls.size = nL) (hst0 : st0 = As.reverse ++ rest) (hrm : 2 * (F0 m pc ls st0).monitorRoom + (rest.map fun v => v.category).sum ≤ 8) (hf : cells + mc ≤ R.cells ∧ slots + ms ≤ R.slots) (hdg : decode cc pc = .ok (.invokestatic index, 3)) :
    va_Run p l e R s m args below meth c H locs cells slots mc ms (F0 m pc ls st0) rest (Qc As.toArray) (oA B0) :=
  va_runSN S hM ⟨va_cnB n0 S.2.2.2.2 (uw_gW (fun _ h => h) hcd) rfl rfl rfl (hK.2 _ hnl) (S.2.2.2.2 _ hini) hd hR, S.2.2.2.2 _ hst, trivial⟩ ⟨oPc_blind, fun U hU hWm => ⟨rfl, hK.warm hWm, by rw [hU]; exact hW, hB.go hS hU hWm.alike⟩⟩ rfl hn0 hsz hst0 hrm hdg hf
theorem o_callq {mc ms : Nat} {st0 : List Value} {post : Option Nat → kD → Prop} {av : Array Value} (hr : va_Run p l e R s m args below meth c H locs cells slots mc ms (F0 m pc ls st0) rest (oQq D cA B0 ad post av) (oA B0)) (hS : va_S (oA B0) s.heap H locs) (kk : ∀ (r : Option Nat) (d1 : kD), post r d1 → oGo p l e R s m args below meth c Q D cA B0 ad ls (cells + mc) (slots + ms) (pc + 3) (va_rf r :: rest) d1) : W p l e R s m args below meth c H locs cells slots Q (F0 m pc ls st0) :=
  va_callq hr hS (fun _ _ h => h) (fun _ h => h) (fun r u t H1 locs1 ht _ hp hb _ _ hS1 => kk r u hp H1 locs1 (by rw [← ht]; exact hb) hS1)
end XR
theorem kX_0 (cA : Nat → ClassId) (ad : kA) (d : kD) (i : Nat) : kC cA ad d 0 i = some (.inr (10, xO (ad.2 0 i) (d.1 0 i) (d.2.1 0 i) [2, 2, 2, 2, 2, 2, 2, 2, 2, 2, 2, 2, 2, 0, 0, 0])) := rfl
theorem kI_0 (cA : Nat → ClassId) (ad : kA) (d : kD) (i : Nat) : ∀ g, kF cA ad g (d.2.1 0 i) (d.2.2 0 i) 0 i = some (.inr (10, xO (ad.2 0 i) g (d.2.1 0 i) [2, 2, 2, 2, 2, 2, 2, 2, 2, 2, 2, 2, 2, 0, 0, 0])) := fun _ => rfl
theorem kJ_0 (cA : Nat → ClassId) (ad : kA) (d : kD) (i : Nat) : ∀ g, kF cA ad (d.1 0 i) g (d.2.2 0 i) 0 i = some (.inr (10, xO (ad.2 0 i) (d.1 0 i) g [2, 2, 2, 2, 2, 2, 2, 2, 2, 2, 2, 2, 2, 0, 0, 0])) := fun _ => rfl
theorem kX_4 (cA : Nat → ClassId) (ad : kA) (d : kD) (i : Nat) : kC cA ad d 4 i = some (.inr (0, xO (fun f => if ad.2 4 i f = 0 then cA 100 else ad.2 4 i f) (d.1 4 i) (d.2.1 4 i) [0, 3, 0])) := rfl
theorem kI_4 (cA : Nat → ClassId) (ad : kA) (d : kD) (i : Nat) : ∀ g, kF cA ad g (d.2.1 4 i) (d.2.2 4 i) 4 i = some (.inr (0, xO (fun f => if ad.2 4 i f = 0 then cA 100 else ad.2 4 i f) g (d.2.1 4 i) [0, 3, 0])) := fun _ => rfl
theorem kJ_4 (cA : Nat → ClassId) (ad : kA) (d : kD) (i : Nat) : ∀ g, kF cA ad (d.1 4 i) g (d.2.2 4 i) 4 i = some (.inr (0, xO (fun f => if ad.2 4 i f = 0 then cA 100 else ad.2 4 i f) (d.1 4 i) g [0, 3, 0])) := fun _ => rfl
theorem kX_6 (cA : Nat → ClassId) (ad : kA) (d : kD) (i : Nat) : kC cA ad d 6 i = some (.inr (6, xO (ad.2 6 i) (d.1 6 i) (d.2.1 6 i) [0, 0, 0, 0, 0, 2, 2, 0, 0, 2, 0, 1, 1])) := rfl
theorem kI_6 (cA : Nat → ClassId) (ad : kA) (d : kD) (i : Nat) : ∀ g, kF cA ad g (d.2.1 6 i) (d.2.2 6 i) 6 i = some (.inr (6, xO (ad.2 6 i) g (d.2.1 6 i) [0, 0, 0, 0, 0, 2, 2, 0, 0, 2, 0, 1, 1])) := fun _ => rfl
theorem kJ_6 (cA : Nat → ClassId) (ad : kA) (d : kD) (i : Nat) : ∀ g, kF cA ad (d.1 6 i) g (d.2.2 6 i) 6 i = some (.inr (6, xO (ad.2 6 i) (d.1 6 i) g [0, 0, 0, 0, 0, 2, 2, 0, 0, 2, 0, 1, 1])) := fun _ => rfl
theorem kX_7 (cA : Nat → ClassId) (ad : kA) (d : kD) (i : Nat) : kC cA ad d 7 i = some (.inr (8, xO (ad.2 7 i) (d.1 7 i) (d.2.1 7 i) [0, 0, 2])) := rfl
theorem kI_7 (cA : Nat → ClassId) (ad : kA) (d : kD) (i : Nat) : ∀ g, kF cA ad g (d.2.1 7 i) (d.2.2 7 i) 7 i = some (.inr (8, xO (ad.2 7 i) g (d.2.1 7 i) [0, 0, 2])) := fun _ => rfl
theorem kJ_7 (cA : Nat → ClassId) (ad : kA) (d : kD) (i : Nat) : ∀ g, kF cA ad (d.1 7 i) g (d.2.2 7 i) 7 i = some (.inr (8, xO (ad.2 7 i) (d.1 7 i) g [0, 0, 2])) := fun _ => rfl
theorem kX_8 (cA : Nat → ClassId) (ad : kA) (d : kD) (i : Nat) : kC cA ad d 8 i = some (.inr (3, xO (ad.2 8 i) (d.1 8 i) (d.2.1 8 i) [2, 0, 0, 0, 0, 0, 0, 1])) := rfl
theorem kI_8 (cA : Nat → ClassId) (ad : kA) (d : kD) (i : Nat) : ∀ g, kF cA ad g (d.2.1 8 i) (d.2.2 8 i) 8 i = some (.inr (3, xO (ad.2 8 i) g (d.2.1 8 i) [2, 0, 0, 0, 0, 0, 0, 1])) := fun _ => rfl
theorem kJ_8 (cA : Nat → ClassId) (ad : kA) (d : kD) (i : Nat) : ∀ g, kF cA ad (d.1 8 i) g (d.2.2 8 i) 8 i = some (.inr (3, xO (ad.2 8 i) (d.1 8 i) g [2, 0, 0, 0, 0, 0, 0, 1])) := fun _ => rfl
theorem kX_9 (cA : Nat → ClassId) (ad : kA) (d : kD) (i : Nat) : kC cA ad d 9 i = some (.inr (2, xO (ad.2 9 i) (d.1 9 i) (d.2.1 9 i) [0, 0])) := rfl
theorem kI_9 (cA : Nat → ClassId) (ad : kA) (d : kD) (i : Nat) : ∀ g, kF cA ad g (d.2.1 9 i) (d.2.2 9 i) 9 i = some (.inr (2, xO (ad.2 9 i) g (d.2.1 9 i) [0, 0])) := fun _ => rfl
theorem kJ_9 (cA : Nat → ClassId) (ad : kA) (d : kD) (i : Nat) : ∀ g, kF cA ad (d.1 9 i) g (d.2.2 9 i) 9 i = some (.inr (2, xO (ad.2 9 i) (d.1 9 i) g [0, 0])) := fun _ => rfl
theorem kX_10 (cA : Nat → ClassId) (ad : kA) (d : kD) (i : Nat) : kC cA ad d 10 i = some (.inr (5, xO (ad.2 10 i) (d.1 10 i) (d.2.1 10 i) [0, 0, 0])) := rfl
theorem kI_10 (cA : Nat → ClassId) (ad : kA) (d : kD) (i : Nat) : ∀ g, kF cA ad g (d.2.1 10 i) (d.2.2 10 i) 10 i = some (.inr (5, xO (ad.2 10 i) g (d.2.1 10 i) [0, 0, 0])) := fun _ => rfl
theorem kJ_10 (cA : Nat → ClassId) (ad : kA) (d : kD) (i : Nat) : ∀ g, kF cA ad (d.1 10 i) g (d.2.2 10 i) 10 i = some (.inr (5, xO (ad.2 10 i) (d.1 10 i) g [0, 0, 0])) := fun _ => rfl
theorem kX_11 (cA : Nat → ClassId) (ad : kA) (d : kD) (i : Nat) : kC cA ad d 11 i = some (.inr (4, xO (ad.2 11 i) (d.1 11 i) (d.2.1 11 i) [2, 0])) := rfl
theorem kI_11 (cA : Nat → ClassId) (ad : kA) (d : kD) (i : Nat) : ∀ g, kF cA ad g (d.2.1 11 i) (d.2.2 11 i) 11 i = some (.inr (4, xO (ad.2 11 i) g (d.2.1 11 i) [2, 0])) := fun _ => rfl
theorem kJ_11 (cA : Nat → ClassId) (ad : kA) (d : kD) (i : Nat) : ∀ g, kF cA ad (d.1 11 i) g (d.2.2 11 i) 11 i = some (.inr (4, xO (ad.2 11 i) (d.1 11 i) g [2, 0])) := fun _ => rfl
theorem kX_13 (cA : Nat → ClassId) (ad : kA) (d : kD) (i : Nat) : kC cA ad d 13 i = some (.inr (7, xO (ad.2 13 i) (d.1 13 i) (d.2.1 13 i) [2, 2, 0])) := rfl
theorem kI_13 (cA : Nat → ClassId) (ad : kA) (d : kD) (i : Nat) : ∀ g, kF cA ad g (d.2.1 13 i) (d.2.2 13 i) 13 i = some (.inr (7, xO (ad.2 13 i) g (d.2.1 13 i) [2, 2, 0])) := fun _ => rfl
theorem kJ_13 (cA : Nat → ClassId) (ad : kA) (d : kD) (i : Nat) : ∀ g, kF cA ad (d.1 13 i) g (d.2.2 13 i) 13 i = some (.inr (7, xO (ad.2 13 i) (d.1 13 i) g [2, 2, 0])) := fun _ => rfl
theorem kX_16 (cA : Nat → ClassId) (ad : kA) (d : kD) (i : Nat) : kC cA ad d 16 i = some (.inr (1, xO (ad.2 16 i) (d.1 16 i) (d.2.1 16 i) [2, 2, 2, 2, 2, 0, 0])) := rfl
theorem kI_16 (cA : Nat → ClassId) (ad : kA) (d : kD) (i : Nat) : ∀ g, kF cA ad g (d.2.1 16 i) (d.2.2 16 i) 16 i = some (.inr (1, xO (ad.2 16 i) g (d.2.1 16 i) [2, 2, 2, 2, 2, 0, 0])) := fun _ => rfl
theorem kJ_16 (cA : Nat → ClassId) (ad : kA) (d : kD) (i : Nat) : ∀ g, kF cA ad (d.1 16 i) g (d.2.2 16 i) 16 i = some (.inr (1, xO (ad.2 16 i) (d.1 16 i) g [2, 2, 2, 2, 2, 0, 0])) := fun _ => rfl
theorem kX_22 (cA : Nat → ClassId) (ad : kA) (d : kD) (i : Nat) : kC cA ad d 22 i = some (.inr (9, xO (ad.2 22 i) (d.1 22 i) (d.2.1 22 i) [2, 2, 0])) := rfl
theorem kI_22 (cA : Nat → ClassId) (ad : kA) (d : kD) (i : Nat) : ∀ g, kF cA ad g (d.2.1 22 i) (d.2.2 22 i) 22 i = some (.inr (9, xO (ad.2 22 i) g (d.2.1 22 i) [2, 2, 0])) := fun _ => rfl
theorem kJ_22 (cA : Nat → ClassId) (ad : kA) (d : kD) (i : Nat) : ∀ g, kF cA ad (d.1 22 i) g (d.2.2 22 i) 22 i = some (.inr (9, xO (ad.2 22 i) (d.1 22 i) g [2, 2, 0])) := fun _ => rfl
theorem kX_1 (cA : Nat → ClassId) (ad : kA) (d : kD) (i : Nat) : kC cA ad d 1 i = some (.inl (cA 0, 400, .inl (d.1 1 i))) := rfl
theorem kI_1 (cA : Nat → ClassId) (ad : kA) (d : kD) (i : Nat) : ∀ g, kF cA ad g (d.2.1 1 i) (d.2.2 1 i) 1 i = some (.inl (cA 0, 400, .inl g)) := fun _ => rfl
theorem kX_3 (cA : Nat → ClassId) (ad : kA) (d : kD) (i : Nat) : kC cA ad d 3 i = some (.inl (cA 0, 704, .inl (d.1 3 i))) := rfl
theorem kI_3 (cA : Nat → ClassId) (ad : kA) (d : kD) (i : Nat) : ∀ g, kF cA ad g (d.2.1 3 i) (d.2.2 3 i) 3 i = some (.inl (cA 0, 704, .inl g)) := fun _ => rfl
theorem kX_12 (cA : Nat → ClassId) (ad : kA) (d : kD) (i : Nat) : kC cA ad d 12 i = some (.inl (cA 0, 64, .inl (d.1 12 i))) := rfl
theorem kI_12 (cA : Nat → ClassId) (ad : kA) (d : kD) (i : Nat) : ∀ g, kF cA ad g (d.2.1 12 i) (d.2.2 12 i) 12 i = some (.inl (cA 0, 64, .inl g)) := fun _ => rfl
theorem kX_14 (cA : Nat → ClassId) (ad : kA) (d : kD) (i : Nat) : kC cA ad d 14 i = some (.inl (cA 0, 64, .inl (d.1 14 i))) := rfl
theorem kI_14 (cA : Nat → ClassId) (ad : kA) (d : kD) (i : Nat) : ∀ g, kF cA ad g (d.2.1 14 i) (d.2.2 14 i) 14 i = some (.inl (cA 0, 64, .inl g)) := fun _ => rfl
theorem kX_15 (cA : Nat → ClassId) (ad : kA) (d : kD) (i : Nat) : kC cA ad d 15 i = some (.inl (cA 0, 64, .inl (d.1 15 i))) := rfl
theorem kI_15 (cA : Nat → ClassId) (ad : kA) (d : kD) (i : Nat) : ∀ g, kF cA ad g (d.2.1 15 i) (d.2.2 15 i) 15 i = some (.inl (cA 0, 64, .inl g)) := fun _ => rfl
theorem kX_17 (cA : Nat → ClassId) (ad : kA) (d : kD) (i : Nat) : kC cA ad d 17 i = some (.inl (cA 1, 384, .inr (.inl (d.2.1 17 i)))) := rfl
theorem kJ_17 (cA : Nat → ClassId) (ad : kA) (d : kD) (i : Nat) : ∀ g, kF cA ad (d.1 17 i) g (d.2.2 17 i) 17 i = some (.inl (cA 1, 384, .inr (.inl g))) := fun _ => rfl
theorem kX_18 (cA : Nat → ClassId) (ad : kA) (d : kD) (i : Nat) : kC cA ad d 18 i = some (.inl (cA 1, 384, .inr (.inl (d.2.1 18 i)))) := rfl
theorem kJ_18 (cA : Nat → ClassId) (ad : kA) (d : kD) (i : Nat) : ∀ g, kF cA ad (d.1 18 i) g (d.2.2 18 i) 18 i = some (.inl (cA 1, 384, .inr (.inl g))) := fun _ => rfl
theorem kX_19 (cA : Nat → ClassId) (ad : kA) (d : kD) (i : Nat) : kC cA ad d 19 i = some (.inl (cA 0, 6, .inl (d.1 19 i))) := rfl
theorem kI_19 (cA : Nat → ClassId) (ad : kA) (d : kD) (i : Nat) : ∀ g, kF cA ad g (d.2.1 19 i) (d.2.2 19 i) 19 i = some (.inl (cA 0, 6, .inl g)) := fun _ => rfl
theorem kX_20 (cA : Nat → ClassId) (ad : kA) (d : kD) (i : Nat) : kC cA ad d 20 i = some (.inl (cA 1, 201, .inr (.inl (d.2.1 20 i)))) := rfl
theorem kJ_20 (cA : Nat → ClassId) (ad : kA) (d : kD) (i : Nat) : ∀ g, kF cA ad (d.1 20 i) g (d.2.2 20 i) 20 i = some (.inl (cA 1, 201, .inr (.inl g))) := fun _ => rfl
theorem kX_21 (cA : Nat → ClassId) (ad : kA) (d : kD) (i : Nat) : kC cA ad d 21 i = some (.inl (cA 1, 202, .inr (.inl (d.2.1 21 i)))) := rfl
theorem kJ_21 (cA : Nat → ClassId) (ad : kA) (d : kD) (i : Nat) : ∀ g, kF cA ad (d.1 21 i) g (d.2.2 21 i) 21 i = some (.inl (cA 1, 202, .inr (.inl g))) := fun _ => rfl
theorem kX_23 (cA : Nat → ClassId) (ad : kA) (d : kD) (i : Nat) : kC cA ad d 23 i = some (.inl (cA 0, 60, .inl (d.1 23 i))) := rfl
theorem kI_23 (cA : Nat → ClassId) (ad : kA) (d : kD) (i : Nat) : ∀ g, kF cA ad g (d.2.1 23 i) (d.2.2 23 i) 23 i = some (.inl (cA 0, 60, .inl g)) := fun _ => rfl
theorem kX_24 (cA : Nat → ClassId) (ad : kA) (d : kD) (i : Nat) : kC cA ad d 24 i = some (.inl (cA 0, 60, .inl (d.1 24 i))) := rfl
theorem kI_24 (cA : Nat → ClassId) (ad : kA) (d : kD) (i : Nat) : ∀ g, kF cA ad g (d.2.1 24 i) (d.2.2 24 i) 24 i = some (.inl (cA 0, 60, .inl g)) := fun _ => rfl
theorem kX_25 (cA : Nat → ClassId) (ad : kA) (d : kD) (i : Nat) : kC cA ad d 25 i = some (.inl (cA 0, 4, .inl (d.1 25 i))) := rfl
theorem kI_25 (cA : Nat → ClassId) (ad : kA) (d : kD) (i : Nat) : ∀ g, kF cA ad g (d.2.1 25 i) (d.2.2 25 i) 25 i = some (.inl (cA 0, 4, .inl g)) := fun _ => rfl
theorem kX_26 (cA : Nat → ClassId) (ad : kA) (d : kD) (i : Nat) : kC cA ad d 26 i = some (.inl (cA 0, 8, .inl (d.1 26 i))) := rfl
theorem kI_26 (cA : Nat → ClassId) (ad : kA) (d : kD) (i : Nat) : ∀ g, kF cA ad g (d.2.1 26 i) (d.2.2 26 i) 26 i = some (.inl (cA 0, 8, .inl g)) := fun _ => rfl
theorem kX_27 (cA : Nat → ClassId) (ad : kA) (d : kD) (i : Nat) : kC cA ad d 27 i = some (.inl (cA 0, 8, .inl (d.1 27 i))) := rfl
theorem kI_27 (cA : Nat → ClassId) (ad : kA) (d : kD) (i : Nat) : ∀ g, kF cA ad g (d.2.1 27 i) (d.2.2 27 i) 27 i = some (.inl (cA 0, 8, .inl g)) := fun _ => rfl
theorem kX_30 (cA : Nat → ClassId) (ad : kA) (d : kD) (i : Nat) : kC cA ad d 30 i = some (.inl (cA 1, 1, .inr (.inl (d.2.1 30 i)))) := rfl
theorem kJ_30 (cA : Nat → ClassId) (ad : kA) (d : kD) (i : Nat) : ∀ g, kF cA ad (d.1 30 i) g (d.2.2 30 i) 30 i = some (.inl (cA 1, 1, .inr (.inl g))) := fun _ => rfl
