/-! making: all data are as at birth but two numbers -/
def Zd (d : kD) : Prop := (∀ k i f, ¬ (k = 16 ∧ f = 6) → ¬ (k = 0 ∧ f = 15) → d.1 k i f = 0) ∧ (∀ k i f, d.2.1 k i f = 0) ∧ d.2.2 = fun _ _ _ => 0
theorem Zd.z {d : kD} (h : Zd d) (k i : Nat) : Zd (zD d k i) := by
  refine ⟨fun k' i' f h1 h2 => ?_, fun k' i' f => ?_, h.2.2⟩
  · by_cases q : k' = k ∧ i' = i
    · obtain ⟨rfl, rfl⟩ := q; rw [zD_s1]
    · rw [zD_n1 d q]; exact h.1 k' i' f h1 h2
  · by_cases q : k' = k ∧ i' = i
    · obtain ⟨rfl, rfl⟩ := q; rw [zD_s2]
    · rw [zD_n2 d q]; exact h.2.1 k' i' f
theorem Zd.u {d : kD} (h : Zd d) (k i f : Nat) {v : Int32} (hv : v = 0 ∨ (k = 16 ∧ f = 6) ∨ (k = 0 ∧ f = 15)) : Zd (uI d k i f v) := by
  refine ⟨fun k' i' f' h1 h2 => ?_, h.2.1, h.2.2⟩
  by_cases q : k' = k ∧ i' = i ∧ f' = f
  · obtain ⟨rfl, rfl, rfl⟩ := q
    rw [uI_s]
    rcases hv with hv | hv | hv
    · exact hv
    · exact absurd hv h1
    · exact absurd hv h2
  · rw [uI_n _ _ q]; exact h.1 k' i' f' h1 h2
theorem Zd.row {d : kD} (h : Zd d) {k : Nat} (hk : k ≠ 16 ∧ k ≠ 0) (i : Nat) : d.1 k i = fun _ => 0 := by funext f; exact h.1 k i f (by omega) (by omega)
theorem Zd.rowJ {d : kD} (h : Zd d) (k i : Nat) : d.2.1 k i = fun _ => 0 := by funext f; exact h.2.1 k i f
/-- an object's rows are made: field f leads to (lo + f, 0), for the fields below n -/
def Nw (ko lo n : Nat) (ad0 ad : kA) : Prop := (∀ f, f < n → ad.1 (lo + f) 0 ≠ 0 ∧ ad.2 ko 0 f = ad.1 (lo + f) 0) ∧ (∀ k i, ¬ (lo ≤ k ∧ k < lo + n ∧ i = 0) → ad.1 k i = ad0.1 k i) ∧ ∀ k i, ¬ (k = ko ∧ i = 0) → ad.2 k i = ad0.2 k i
theorem Nw.start (ko lo : Nat) (ad : kA) : Nw ko lo 0 ad ad := ⟨fun _ h => absurd h (Nat.not_lt_zero _), fun _ _ _ => rfl, fun _ _ _ => rfl⟩
theorem Nw.put {ko lo n q : Nat} {ad0 ad : kA} (h : Nw ko lo n ad0 ad) (hq : q ≠ 0) : Nw ko lo (n + 1) ad0 (ad2 (ad1 ad (lo + n) 0 q) ko 0 n q) := by
  obtain ⟨h1, h2, h3⟩ := h
  refine ⟨fun f hf => ?_, fun k i hk => ?_, fun k i hk => ?_⟩
  · show (ad1 ad (lo + n) 0 q).1 (lo + f) 0 ≠ 0 ∧ up3 ad.2 ko 0 n q ko 0 f = (ad1 ad (lo + n) 0 q).1 (lo + f) 0
    rw [up3_same]
    by_cases e : f = n
    · subst e; rw [ad1_s]; exact ⟨hq, by simp [va_up]⟩
    · rw [ad1_n _ _ (by omega)]
      have := h1 f (by omega)
      exact ⟨this.1, by simp only [va_up, e, if_false]; exact this.2⟩
  · show (ad1 ad (lo + n) 0 q).1 k i = _
    rw [ad1_n _ _ (by omega)]; exact h2 k i (by omega)
  · show up3 ad.2 ko 0 n q k i = _
    rw [up3_ne _ _ _ hk]; exact h3 k i hk
section XMK
variable {p : Program} {l : Launch} {e : Env} {R : Room} {s : State} {m : MethodId} {args : Array Value} {below : List Frame} {meth : Method} {c : Code} {H : Heap} {locs : List Loc} {cells slots : Nat} {Q : State → Prop}
variable {cc : ByteArray} {pc : Nat} {ls : Array Slot} {rest : List Value} {D : va_G} {cA : Nat → ClassId} {B0 : Nat} {ad ad0 : kA} {d : kD} {index : Nat}
/-- a row is made and put into a field -/
theorem x_mk (hx : p.tables.exec = Jvm.exec) (hb : c.code = cc) (hu : ∀ w ∈ UW, w.before args s = true) {own C : String} {T : u_T} {N ci : Nat} (hin : ∀ w ∈ u_ws C T N, w ∈ UW) (ty0 : Nat → FieldType) (hty : ∀ k, k < N → parseFieldDescriptor (T k).2.2.1 = some (ty0 k)) (hnm : ∀ a, a < N → ∀ b, b < N → a ≠ b → (T a).2.1 ≠ (T b).2.1) (hown : s.vm.findClass own = some m.cls) (hK : oK D cA s) (hW : oW D cA B0 ad d H) (hS : va_S (oA B0) s.heap H locs) (hB : B0 ≤ s.heap.size) (h0 : 0 < B0)
    {ko ka : Nat} (hko : ko < 40) (hka : ka < 40) (hne : ko ≠ ka) (hlive : ad.1 ko 0 ≠ 0) (hdead : ad.1 ka 0 = 0) {ts : List Nat} (hcx : ∀ r gI gJ, xF cA r gI gJ ko = some (.inr (ci, xO r gI gJ ts))) (hcl : vwCl[ci]? = some (C, T, N))
    {atype : ArrayType} {ty : FieldType} (t : Nat) {n : Nat} {a0 : vp_A} (hty2 : newarray.typeOf atype = ty) (harr : Cond.arrayClass ty ∈ UW) (hRA : ∀ x, va_RA s x ty = (s.vm.findClass ("[" ++ ty.toString) = some x)) (hoT : (oT cA)[t]? = some (cA t, ty)) (hn : n < 2 ^ 31) (ha : vp_cell (cA t) a0 = arrV (cA t) n (fun _ => defaultValue ty)) (hc : kC cA ad d ka 0 = some (.inl (cA t, a0))) (hbytes : n * componentBytes ty ≤ 536870912) (hf : cells + 1 ≤ R.cells ∧ slots + n ≤ R.slots)
    (f : Nat) (hfN : (f < N ∧ f < ts.length) ∧ ts.getD f 0 = 2) (hfin : (T f).2.2.2 = false ∨ ((T f).2.2.2 = true ∧ meth.name = "<init>" ∧ (T f).1 = own)) (hpd : parseFieldDescriptor (T f).2.2.1 = some (.array ty)) (hlink : Cond.fieldLink own index (T f).1 (T f).2.1 (T f).2.2.1 ∈ UW) (hdg : decode cc pc = .ok (.newarray atype, 2)) (hdg2 : decode cc (pc + 2) = .ok (.putfield index, 3))
    (kk : ∀ (q : Nat) (H1 : Heap) (locs1 : List Loc), q ≠ 0 → oW D cA B0 (ad2 (ad1 ad ka 0 q) ko 0 f q) d H1 → va_S (oA B0) s.heap H1 locs1 → W p l e R s m args below meth c H1 locs1 (cells + 1) (slots + n) Q (F0 m (pc + 5) ls rest)) : W p l e R s m args below meth c H locs cells slots Q (F0 m pc ls (.int (nI n) :: .ref (ad.1 ko 0) :: rest)) := by
  refine o_newa hx hb hu hty2 harr t hRA hoT hK hW hS hB h0 (k := ka) (i := 0) hdead hn ha (fun q => by rw [kC_ad1]; exact hc) (fun q k' i' => kC_ad1 k' i') hbytes hf.1 hf.2 hdg (fun q H1 hq hW1 hS1 => ?_)
  have e1 : ad.1 ko 0 = (ad1 ad ka 0 q).1 ko 0 := (ad1_n _ _ (fun z => hne z.1)).symm
  have hc0 : kC cA (ad1 ad ka 0 q) d ko 0 = some (.inr (ci, xO (ad.2 ko 0) (d.1 ko 0) (d.2.1 ko 0) ts)) := by rw [kC_x hko]; exact hcx _ _ _
  have hc1 : kC cA (ad2 (ad1 ad ka 0 q) ko 0 f q) d ko 0 = some (.inr (ci, (xO (ad.2 ko 0) (d.1 ko 0) (d.2.1 ko 0) ts).set f (.ref q))) := by
    rw [kC_x hko, hcx]
    show some (Sum.inr (ci, xO (up3 ad.2 ko 0 f q ko 0) (d.1 ko 0) (d.2.1 ko 0) ts)) = _
    rw [up3_same, xO_setR hfN.2, rf_ne hq]
  rw [e1]
  exact x_putF hx hb hu hin ty0 hty hnm hown hK hW1 hS1 (ad' := ad2 (ad1 ad ka 0 q) ko 0 f q) (d' := d) rfl (k := ko) (i := 0) (by rw [← e1]; exact hlive) hcl f hc0 hc1 (fun k1 i1 h1 => kC_adX hko k1 i1 h1) hfN.1.1 hlink hfin hpd rfl rfl (by rw [xO_len]; exact hfN.1.2) hdg2 (fun H2 locs2 hW2 hS2 => kk q H2 locs2 hq hW2 hS2)
end XMK
set_option maxHeartbeats 1000000 in
set_option maxRecDepth 100000 in
theorem c_X3_init (l : Launch) (D : va_G) (cA : Nat → ClassId) (B0 : Nat) (ad0 : kA) (d0 : kD) (hko : ad0.1 11 0 ≠ 0) (hz : ∀ f, f < 1 → ad0.1 (12 + f) 0 = 0) (hZ : Zd d0) (h0 : 0 < B0) : oM l yX3_init wX3_init 1 1 64 D cA B0 ad0 d0 ([.ref (ad0.1 11 0)] : List Value) (oQvA D cA B0 (fun u => Nw 11 12 1 ad0 u.1 ∧ Zd u.2)) := by
  refine o_ofW (cc := cX3_init) (maxL := 1) (ret := none) (by decide) rfl (Nat.le_of_ble_eq_true rfl) ?_
  intro p e s m below meth c hx hb hr hml hts hown hlocks hnm hK hW hB hS ls hl
  have hu : ∀ w ∈ UW, w.before _ s = true := fun w h => hts w (uw_c w h)
  have hl : lv_has ls 1 [(0, .ref (ad0.1 11 0))] := hl
  have hN : Nw 11 12 0 ad0 ad0 := Nw.start 11 12 ad0
  refine lv_aload_n hx hb dX3_init_0 rfl (lv_at hl 0 rfl) ?_
  refine W.objInit hx hb hown (hu _ uM_X3_3) (hu _ uN_java_lang_Object__init___V) (hu _ uC_java_lang_Object__init___V) rfl (by rw [hml]; exact hl.1) rfl dX3_init_1 (Nat.le_of_ble_eq_true rfl) (Nat.le_of_ble_eq_true rfl) ?_
  refine W.eq (g2 := F0 m 4 ls []) rfl ?_
  refine lv_aload_n hx hb dX3_init_4 rfl (lv_at hl 0 rfl) ?_
  refine n_bipush (v := 64) hx hb dX3_init_5 (by decide) ?_
  refine W.eq (g2 := F0 m 7 ls [.int (nI 64), .ref (ad0.1 11 0)]) (by rw [hN.2.1 11 0 (by omega)]) ?_
  refine x_mk hx hb hu in_X3 tyX3 tyX3_ok nmX3 hown hK hW hS hB.1 h0 (ko := 11) (ka := 12 + 0) (by decide) (by decide) (by decide) (by rw [hN.2.1 11 0 (by omega)]; exact hko) (by rw [hN.2.1 (12 + 0) 0 (by omega)]; exact hz 0 (by decide)) (fun _ _ _ => rfl) rfl (ty := .int) 0 (n := 64) (a0 := (64, .inl (fun _ => 0))) rfl uA_int (fun _ => rfl) rfl (by decide) (by rw [vp_cell_i]; rfl) ((kX_12 _ _ _ _).trans (by rw [hZ.row (by decide)])) (by decide) ⟨Nat.le_of_ble_eq_true rfl, Nat.le_of_ble_eq_true rfl⟩ 0 (by decide) (Or.inr ⟨by decide +kernel, hnm, by decide +kernel⟩) (by decide +kernel) uF_X3_9 dX3_init_7 dX3_init_9 (fun q H locs hq hW hS => ?_)
  have hN := hN.put hq
  generalize had0 : ad2 (ad1 ad0 (12 + 0) 0 q) 11 0 0 q = a0 at hW hN
  refine lv_aload_n hx hb dX3_init_12 rfl (lv_at hl 0 rfl) ?_
  refine n_iconst (v := 0) hx hb dX3_init_13 (by decide) ?_
  refine W.eq (g2 := F0 m 14 ls [.int (nI 0), .ref (a0.1 11 0)]) (by rw [hN.2.1 11 0 (by omega)]) ?_
  refine x_pi hx hb hu in_X3 tyX3 tyX3_ok nmX3 hown hK hW hS (k := 11) (i := 0) (by rw [hN.2.1 11 0 (by omega)]; exact hko) (kI_11 _ _ _ _) rfl 1 (ty := .int) (by decide +kernel) uF_X3_15 ⟨rfl, rfl⟩ dX3_init_14 (fun H locs hW hS => ?_)
  have hZ := hZ.u 11 0 1 (v := (nI 0)) (by decide)
  refine W.widen (k := 1) (n := 64) (by decide) (by decide) ?_
  exact W.vret hx hb hr (fun t ht _ => ⟨⟨(a0, (uI d0 11 0 1 (nI 0))), rfl, ⟨hN, hZ⟩, by show oW D cA B0 a0 (uI d0 11 0 1 (nI 0)) t.heap; rw [ht]; exact hW⟩, hS.F ht⟩) hS.2.2 dX3_init_17
set_option maxHeartbeats 1000000 in
set_option maxRecDepth 100000 in
theorem c_X6_init (l : Launch) (D : va_G) (cA : Nat → ClassId) (B0 : Nat) (ad0 : kA) (d0 : kD) (hko : ad0.1 13 0 ≠ 0) (hz : ∀ f, f < 2 → ad0.1 (14 + f) 0 = 0) (hZ : Zd d0) (h0 : 0 < B0) : oM l yX6_init wX6_init 1 2 128 D cA B0 ad0 d0 ([.ref (ad0.1 13 0)] : List Value) (oQvA D cA B0 (fun u => Nw 13 14 2 ad0 u.1 ∧ Zd u.2)) := by
  refine o_ofW (cc := cX6_init) (maxL := 1) (ret := none) (by decide) rfl (Nat.le_of_ble_eq_true rfl) ?_
  intro p e s m below meth c hx hb hr hml hts hown hlocks hnm hK hW hB hS ls hl
  have hu : ∀ w ∈ UW, w.before _ s = true := fun w h => hts w (uw_c w h)
  have hl : lv_has ls 1 [(0, .ref (ad0.1 13 0))] := hl
  have hN : Nw 13 14 0 ad0 ad0 := Nw.start 13 14 ad0
  refine lv_aload_n hx hb dX6_init_0 rfl (lv_at hl 0 rfl) ?_
  refine W.objInit hx hb hown (hu _ uM_X6_3) (hu _ uN_java_lang_Object__init___V) (hu _ uC_java_lang_Object__init___V) rfl (by rw [hml]; exact hl.1) rfl dX6_init_1 (Nat.le_of_ble_eq_true rfl) (Nat.le_of_ble_eq_true rfl) ?_
  refine W.eq (g2 := F0 m 4 ls []) rfl ?_
  refine lv_aload_n hx hb dX6_init_4 rfl (lv_at hl 0 rfl) ?_
  refine n_bipush (v := 64) hx hb dX6_init_5 (by decide) ?_
  refine W.eq (g2 := F0 m 7 ls [.int (nI 64), .ref (ad0.1 13 0)]) (by rw [hN.2.1 13 0 (by omega)]) ?_
  refine x_mk hx hb hu in_X6 tyX6 tyX6_ok nmX6 hown hK hW hS hB.1 h0 (ko := 13) (ka := 14 + 0) (by decide) (by decide) (by decide) (by rw [hN.2.1 13 0 (by omega)]; exact hko) (by rw [hN.2.1 (14 + 0) 0 (by omega)]; exact hz 0 (by decide)) (fun _ _ _ => rfl) rfl (ty := .int) 0 (n := 64) (a0 := (64, .inl (fun _ => 0))) rfl uA_int (fun _ => rfl) rfl (by decide) (by rw [vp_cell_i]; rfl) ((kX_14 _ _ _ _).trans (by rw [hZ.row (by decide)])) (by decide) ⟨Nat.le_of_ble_eq_true rfl, Nat.le_of_ble_eq_true rfl⟩ 0 (by decide) (Or.inr ⟨by decide +kernel, hnm, by decide +kernel⟩) (by decide +kernel) uF_X6_9 dX6_init_7 dX6_init_9 (fun q H locs hq hW hS => ?_)
  have hN := hN.put hq
  generalize had0 : ad2 (ad1 ad0 (14 + 0) 0 q) 13 0 0 q = a0 at hW hN
  refine lv_aload_n hx hb dX6_init_12 rfl (lv_at hl 0 rfl) ?_
  refine n_bipush (v := 64) hx hb dX6_init_13 (by decide) ?_
  refine W.eq (g2 := F0 m 15 ls [.int (nI 64), .ref (a0.1 13 0)]) (by rw [hN.2.1 13 0 (by omega)]) ?_
  refine x_mk hx hb hu in_X6 tyX6 tyX6_ok nmX6 hown hK hW hS hB.1 h0 (ko := 13) (ka := 14 + 1) (by decide) (by decide) (by decide) (by rw [hN.2.1 13 0 (by omega)]; exact hko) (by rw [hN.2.1 (14 + 1) 0 (by omega)]; exact hz 1 (by decide)) (fun _ _ _ => rfl) rfl (ty := .int) 0 (n := 64) (a0 := (64, .inl (fun _ => 0))) rfl uA_int (fun _ => rfl) rfl (by decide) (by rw [vp_cell_i]; rfl) ((kX_15 _ _ _ _).trans (by rw [hZ.row (by decide)])) (by decide) ⟨Nat.le_of_ble_eq_true rfl, Nat.le_of_ble_eq_true rfl⟩ 1 (by decide) (Or.inr ⟨by decide +kernel, hnm, by decide +kernel⟩) (by decide +kernel) uF_X6_15 dX6_init_15 dX6_init_17 (fun q H locs hq hW hS => ?_)
  have hN := hN.put hq
  generalize had1 : ad2 (ad1 a0 (14 + 1) 0 q) 13 0 1 q = a1 at hW hN
  refine lv_aload_n hx hb dX6_init_20 rfl (lv_at hl 0 rfl) ?_
  refine n_iconst (v := 0) hx hb dX6_init_21 (by decide) ?_
  refine W.eq (g2 := F0 m 22 ls [.int (nI 0), .ref (a1.1 13 0)]) (by rw [hN.2.1 13 0 (by omega)]) ?_
  refine x_pi hx hb hu in_X6 tyX6 tyX6_ok nmX6 hown hK hW hS (k := 13) (i := 0) (by rw [hN.2.1 13 0 (by omega)]; exact hko) (kI_13 _ _ _ _) rfl 2 (ty := .int) (by decide +kernel) uF_X6_18 ⟨rfl, rfl⟩ dX6_init_22 (fun H locs hW hS => ?_)
  have hZ := hZ.u 13 0 2 (v := (nI 0)) (by decide)
  refine W.widen (k := 2) (n := 128) (by decide) (by decide) ?_
  exact W.vret hx hb hr (fun t ht _ => ⟨⟨(a1, (uI d0 13 0 2 (nI 0))), rfl, ⟨hN, hZ⟩, by show oW D cA B0 a1 (uI d0 13 0 2 (nI 0)) t.heap; rw [ht]; exact hW⟩, hS.F ht⟩) hS.2.2 dX6_init_25
set_option maxHeartbeats 1000000 in
set_option maxRecDepth 100000 in
theorem c_X0_init (l : Launch) (D : va_G) (cA : Nat → ClassId) (B0 : Nat) (ad0 : kA) (d0 : kD) (hko : ad0.1 16 0 ≠ 0) (hz : ∀ f, f < 5 → ad0.1 (17 + f) 0 = 0) (hZ : Zd d0) (h0 : 0 < B0) : oM l yX0_init wX0_init 1 5 1177 D cA B0 ad0 d0 ([.ref (ad0.1 16 0)] : List Value) (oQvA D cA B0 (fun u => Nw 16 17 5 ad0 u.1 ∧ Zd u.2)) := by
  refine o_ofW (cc := cX0_init) (maxL := 1) (ret := none) (by decide) rfl (Nat.le_of_ble_eq_true rfl) ?_
  intro p e s m below meth c hx hb hr hml hts hown hlocks hnm hK hW hB hS ls hl
  have hu : ∀ w ∈ UW, w.before _ s = true := fun w h => hts w (uw_c w h)
  have hl : lv_has ls 1 [(0, .ref (ad0.1 16 0))] := hl
  have hN : Nw 16 17 0 ad0 ad0 := Nw.start 16 17 ad0
  refine lv_aload_n hx hb dX0_init_0 rfl (lv_at hl 0 rfl) ?_
  refine W.objInit hx hb hown (hu _ uM_X0_3) (hu _ uN_java_lang_Object__init___V) (hu _ uC_java_lang_Object__init___V) rfl (by rw [hml]; exact hl.1) rfl dX0_init_1 (Nat.le_of_ble_eq_true rfl) (Nat.le_of_ble_eq_true rfl) ?_
  refine W.eq (g2 := F0 m 4 ls []) rfl ?_
  refine lv_aload_n hx hb dX0_init_4 rfl (lv_at hl 0 rfl) ?_
  refine n_sipush (v := 384) hx hb dX0_init_5 (by decide) ?_
  refine W.eq (g2 := F0 m 8 ls [.int (nI 384), .ref (ad0.1 16 0)]) (by rw [hN.2.1 16 0 (by omega)]) ?_
  refine x_mk hx hb hu in_X0 tyX0 tyX0_ok nmX0 hown hK hW hS hB.1 h0 (ko := 16) (ka := 17 + 0) (by decide) (by decide) (by decide) (by rw [hN.2.1 16 0 (by omega)]; exact hko) (by rw [hN.2.1 (17 + 0) 0 (by omega)]; exact hz 0 (by decide)) (fun _ _ _ => rfl) rfl (ty := .long) 1 (n := 384) (a0 := (384, .inr (.inl (fun _ => 0)))) rfl uA_long (fun _ => rfl) rfl (by decide) (by rw [vp_cell_l]; rfl) ((kX_17 _ _ _ _).trans (by rw [hZ.rowJ])) (by decide) ⟨Nat.le_of_ble_eq_true rfl, Nat.le_of_ble_eq_true rfl⟩ 0 (by decide) (Or.inr ⟨by decide +kernel, hnm, by decide +kernel⟩) (by decide +kernel) uF_X0_9 dX0_init_8 dX0_init_10 (fun q H locs hq hW hS => ?_)
  have hN := hN.put hq
  generalize had0 : ad2 (ad1 ad0 (17 + 0) 0 q) 16 0 0 q = a0 at hW hN
  refine lv_aload_n hx hb dX0_init_13 rfl (lv_at hl 0 rfl) ?_
  refine n_sipush (v := 384) hx hb dX0_init_14 (by decide) ?_
  refine W.eq (g2 := F0 m 17 ls [.int (nI 384), .ref (a0.1 16 0)]) (by rw [hN.2.1 16 0 (by omega)]) ?_
  refine x_mk hx hb hu in_X0 tyX0 tyX0_ok nmX0 hown hK hW hS hB.1 h0 (ko := 16) (ka := 17 + 1) (by decide) (by decide) (by decide) (by rw [hN.2.1 16 0 (by omega)]; exact hko) (by rw [hN.2.1 (17 + 1) 0 (by omega)]; exact hz 1 (by decide)) (fun _ _ _ => rfl) rfl (ty := .long) 1 (n := 384) (a0 := (384, .inr (.inl (fun _ => 0)))) rfl uA_long (fun _ => rfl) rfl (by decide) (by rw [vp_cell_l]; rfl) ((kX_18 _ _ _ _).trans (by rw [hZ.rowJ])) (by decide) ⟨Nat.le_of_ble_eq_true rfl, Nat.le_of_ble_eq_true rfl⟩ 1 (by decide) (Or.inr ⟨by decide +kernel, hnm, by decide +kernel⟩) (by decide +kernel) uF_X0_15 dX0_init_17 dX0_init_19 (fun q H locs hq hW hS => ?_)
  have hN := hN.put hq
  generalize had1 : ad2 (ad1 a0 (17 + 1) 0 q) 16 0 1 q = a1 at hW hN
  refine lv_aload_n hx hb dX0_init_22 rfl (lv_at hl 0 rfl) ?_
  refine n_bipush (v := 6) hx hb dX0_init_23 (by decide) ?_
  refine W.eq (g2 := F0 m 25 ls [.int (nI 6), .ref (a1.1 16 0)]) (by rw [hN.2.1 16 0 (by omega)]) ?_
  refine x_mk hx hb hu in_X0 tyX0 tyX0_ok nmX0 hown hK hW hS hB.1 h0 (ko := 16) (ka := 17 + 2) (by decide) (by decide) (by decide) (by rw [hN.2.1 16 0 (by omega)]; exact hko) (by rw [hN.2.1 (17 + 2) 0 (by omega)]; exact hz 2 (by decide)) (fun _ _ _ => rfl) rfl (ty := .int) 0 (n := 6) (a0 := (6, .inl (fun _ => 0))) rfl uA_int (fun _ => rfl) rfl (by decide) (by rw [vp_cell_i]; rfl) ((kX_19 _ _ _ _).trans (by rw [hZ.row (by decide)])) (by decide) ⟨Nat.le_of_ble_eq_true rfl, Nat.le_of_ble_eq_true rfl⟩ 2 (by decide) (Or.inr ⟨by decide +kernel, hnm, by decide +kernel⟩) (by decide +kernel) uF_X0_18 dX0_init_25 dX0_init_27 (fun q H locs hq hW hS => ?_)
  have hN := hN.put hq
  generalize had2 : ad2 (ad1 a1 (17 + 2) 0 q) 16 0 2 q = a2 at hW hN
  refine lv_aload_n hx hb dX0_init_30 rfl (lv_at hl 0 rfl) ?_
  refine n_sipush (v := 201) hx hb dX0_init_31 (by decide) ?_
  refine W.eq (g2 := F0 m 34 ls [.int (nI 201), .ref (a2.1 16 0)]) (by rw [hN.2.1 16 0 (by omega)]) ?_
  refine x_mk hx hb hu in_X0 tyX0 tyX0_ok nmX0 hown hK hW hS hB.1 h0 (ko := 16) (ka := 17 + 3) (by decide) (by decide) (by decide) (by rw [hN.2.1 16 0 (by omega)]; exact hko) (by rw [hN.2.1 (17 + 3) 0 (by omega)]; exact hz 3 (by decide)) (fun _ _ _ => rfl) rfl (ty := .long) 1 (n := 201) (a0 := (201, .inr (.inl (fun _ => 0)))) rfl uA_long (fun _ => rfl) rfl (by decide) (by rw [vp_cell_l]; rfl) ((kX_20 _ _ _ _).trans (by rw [hZ.rowJ])) (by decide) ⟨Nat.le_of_ble_eq_true rfl, Nat.le_of_ble_eq_true rfl⟩ 3 (by decide) (Or.inr ⟨by decide +kernel, hnm, by decide +kernel⟩) (by decide +kernel) uF_X0_22 dX0_init_34 dX0_init_36 (fun q H locs hq hW hS => ?_)
  have hN := hN.put hq
  generalize had3 : ad2 (ad1 a2 (17 + 3) 0 q) 16 0 3 q = a3 at hW hN
  refine lv_aload_n hx hb dX0_init_39 rfl (lv_at hl 0 rfl) ?_
  refine n_sipush (v := 202) hx hb dX0_init_40 (by decide) ?_
  refine W.eq (g2 := F0 m 43 ls [.int (nI 202), .ref (a3.1 16 0)]) (by rw [hN.2.1 16 0 (by omega)]) ?_
  refine x_mk hx hb hu in_X0 tyX0 tyX0_ok nmX0 hown hK hW hS hB.1 h0 (ko := 16) (ka := 17 + 4) (by decide) (by decide) (by decide) (by rw [hN.2.1 16 0 (by omega)]; exact hko) (by rw [hN.2.1 (17 + 4) 0 (by omega)]; exact hz 4 (by decide)) (fun _ _ _ => rfl) rfl (ty := .long) 1 (n := 202) (a0 := (202, .inr (.inl (fun _ => 0)))) rfl uA_long (fun _ => rfl) rfl (by decide) (by rw [vp_cell_l]; rfl) ((kX_21 _ _ _ _).trans (by rw [hZ.rowJ])) (by decide) ⟨Nat.le_of_ble_eq_true rfl, Nat.le_of_ble_eq_true rfl⟩ 4 (by decide) (Or.inr ⟨by decide +kernel, hnm, by decide +kernel⟩) (by decide +kernel) uF_X0_25 dX0_init_43 dX0_init_45 (fun q H locs hq hW hS => ?_)
  have hN := hN.put hq
  generalize had4 : ad2 (ad1 a3 (17 + 4) 0 q) 16 0 4 q = a4 at hW hN
  refine lv_aload_n hx hb dX0_init_48 rfl (lv_at hl 0 rfl) ?_
  refine n_iconst (v := 0) hx hb dX0_init_49 (by decide) ?_
  refine W.eq (g2 := F0 m 50 ls [.int (nI 0), .ref (a4.1 16 0)]) (by rw [hN.2.1 16 0 (by omega)]) ?_
  refine x_pi hx hb hu in_X0 tyX0 tyX0_ok nmX0 hown hK hW hS (k := 16) (i := 0) (by rw [hN.2.1 16 0 (by omega)]; exact hko) (kI_16 _ _ _ _) rfl 5 (ty := .int) (by decide +kernel) uF_X0_28 ⟨rfl, rfl⟩ dX0_init_50 (fun H locs hW hS => ?_)
  have hZ := hZ.u 16 0 5 (v := (nI 0)) (by decide)
  refine lv_aload_n hx hb dX0_init_53 rfl (lv_at hl 0 rfl) ?_
  refine lv_iconst (v := -1) hx hb dX0_init_54 (by decide) ?_
  refine W.eq (g2 := F0 m 55 ls [.int (-1), .ref (a4.1 16 0)]) (by rw [hN.2.1 16 0 (by omega)]) ?_
  refine x_pi hx hb hu in_X0 tyX0 tyX0_ok nmX0 hown hK hW hS (k := 16) (i := 0) (by rw [hN.2.1 16 0 (by omega)]; exact hko) (kI_16 _ _ _ _) rfl 6 (ty := .int) (by decide +kernel) uF_X0_32 ⟨rfl, rfl⟩ dX0_init_55 (fun H locs hW hS => ?_)
  have hZ := hZ.u 16 0 6 (v := (-1)) (by decide)
  refine W.widen (k := 5) (n := 1177) (by decide) (by decide) ?_
  exact W.vret hx hb hr (fun t ht _ => ⟨⟨(a4, (uI (uI d0 16 0 5 (nI 0)) 16 0 6 (-1))), rfl, ⟨hN, hZ⟩, by show oW D cA B0 a4 (uI (uI d0 16 0 5 (nI 0)) 16 0 6 (-1)) t.heap; rw [ht]; exact hW⟩, hS.F ht⟩) hS.2.2 dX0_init_58
set_option maxHeartbeats 1000000 in
set_option maxRecDepth 100000 in
theorem c_X8_init (l : Launch) (D : va_G) (cA : Nat → ClassId) (B0 : Nat) (ad0 : kA) (d0 : kD) (hko : ad0.1 22 0 ≠ 0) (hz : ∀ f, f < 2 → ad0.1 (23 + f) 0 = 0) (hZ : Zd d0) (h0 : 0 < B0) : oM l yX8_init wX8_init 1 2 120 D cA B0 ad0 d0 ([.ref (ad0.1 22 0)] : List Value) (oQvA D cA B0 (fun u => Nw 22 23 2 ad0 u.1 ∧ Zd u.2)) := by
  refine o_ofW (cc := cX8_init) (maxL := 1) (ret := none) (by decide) rfl (Nat.le_of_ble_eq_true rfl) ?_
  intro p e s m below meth c hx hb hr hml hts hown hlocks hnm hK hW hB hS ls hl
  have hu : ∀ w ∈ UW, w.before _ s = true := fun w h => hts w (uw_c w h)
  have hl : lv_has ls 1 [(0, .ref (ad0.1 22 0))] := hl
  have hN : Nw 22 23 0 ad0 ad0 := Nw.start 22 23 ad0
  refine lv_aload_n hx hb dX8_init_0 rfl (lv_at hl 0 rfl) ?_
  refine W.objInit hx hb hown (hu _ uM_X8_3) (hu _ uN_java_lang_Object__init___V) (hu _ uC_java_lang_Object__init___V) rfl (by rw [hml]; exact hl.1) rfl dX8_init_1 (Nat.le_of_ble_eq_true rfl) (Nat.le_of_ble_eq_true rfl) ?_
  refine W.eq (g2 := F0 m 4 ls []) rfl ?_
  refine lv_aload_n hx hb dX8_init_4 rfl (lv_at hl 0 rfl) ?_
  refine n_bipush (v := 60) hx hb dX8_init_5 (by decide) ?_
  refine W.eq (g2 := F0 m 7 ls [.int (nI 60), .ref (ad0.1 22 0)]) (by rw [hN.2.1 22 0 (by omega)]) ?_
  refine x_mk hx hb hu in_X8 tyX8 tyX8_ok nmX8 hown hK hW hS hB.1 h0 (ko := 22) (ka := 23 + 0) (by decide) (by decide) (by decide) (by rw [hN.2.1 22 0 (by omega)]; exact hko) (by rw [hN.2.1 (23 + 0) 0 (by omega)]; exact hz 0 (by decide)) (fun _ _ _ => rfl) rfl (ty := .int) 0 (n := 60) (a0 := (60, .inl (fun _ => 0))) rfl uA_int (fun _ => rfl) rfl (by decide) (by rw [vp_cell_i]; rfl) ((kX_23 _ _ _ _).trans (by rw [hZ.row (by decide)])) (by decide) ⟨Nat.le_of_ble_eq_true rfl, Nat.le_of_ble_eq_true rfl⟩ 0 (by decide) (Or.inr ⟨by decide +kernel, hnm, by decide +kernel⟩) (by decide +kernel) uF_X8_9 dX8_init_7 dX8_init_9 (fun q H locs hq hW hS => ?_)
  have hN := hN.put hq
  generalize had0 : ad2 (ad1 ad0 (23 + 0) 0 q) 22 0 0 q = a0 at hW hN
  refine lv_aload_n hx hb dX8_init_12 rfl (lv_at hl 0 rfl) ?_
  refine n_bipush (v := 60) hx hb dX8_init_13 (by decide) ?_
  refine W.eq (g2 := F0 m 15 ls [.int (nI 60), .ref (a0.1 22 0)]) (by rw [hN.2.1 22 0 (by omega)]) ?_
  refine x_mk hx hb hu in_X8 tyX8 tyX8_ok nmX8 hown hK hW hS hB.1 h0 (ko := 22) (ka := 23 + 1) (by decide) (by decide) (by decide) (by rw [hN.2.1 22 0 (by omega)]; exact hko) (by rw [hN.2.1 (23 + 1) 0 (by omega)]; exact hz 1 (by decide)) (fun _ _ _ => rfl) rfl (ty := .int) 0 (n := 60) (a0 := (60, .inl (fun _ => 0))) rfl uA_int (fun _ => rfl) rfl (by decide) (by rw [vp_cell_i]; rfl) ((kX_24 _ _ _ _).trans (by rw [hZ.row (by decide)])) (by decide) ⟨Nat.le_of_ble_eq_true rfl, Nat.le_of_ble_eq_true rfl⟩ 1 (by decide) (Or.inr ⟨by decide +kernel, hnm, by decide +kernel⟩) (by decide +kernel) uF_X8_15 dX8_init_15 dX8_init_17 (fun q H locs hq hW hS => ?_)
  have hN := hN.put hq
  generalize had1 : ad2 (ad1 a0 (23 + 1) 0 q) 22 0 1 q = a1 at hW hN
  refine lv_aload_n hx hb dX8_init_20 rfl (lv_at hl 0 rfl) ?_
  refine n_iconst (v := 0) hx hb dX8_init_21 (by decide) ?_
  refine W.eq (g2 := F0 m 22 ls [.int (nI 0), .ref (a1.1 22 0)]) (by rw [hN.2.1 22 0 (by omega)]) ?_
  refine x_pi hx hb hu in_X8 tyX8 tyX8_ok nmX8 hown hK hW hS (k := 22) (i := 0) (by rw [hN.2.1 22 0 (by omega)]; exact hko) (kI_22 _ _ _ _) rfl 2 (ty := .int) (by decide +kernel) uF_X8_18 ⟨rfl, rfl⟩ dX8_init_22 (fun H locs hW hS => ?_)
  have hZ := hZ.u 22 0 2 (v := (nI 0)) (by decide)
  refine W.widen (k := 2) (n := 120) (by decide) (by decide) ?_
  exact W.vret hx hb hr (fun t ht _ => ⟨⟨(a1, (uI d0 22 0 2 (nI 0))), rfl, ⟨hN, hZ⟩, by show oW D cA B0 a1 (uI d0 22 0 2 (nI 0)) t.heap; rw [ht]; exact hW⟩, hS.F ht⟩) hS.2.2 dX8_init_25
/-! a list is made: at the key (29, 0) until its array is there, then at (4, j) -/
theorem kX_29 (cA : Nat → ClassId) (ad : kA) (d : kD) (i : Nat) : kC cA ad d 29 i = some (.inr (0, xO (ad.2 29 i) (d.1 29 i) (d.2.1 29 i) [0, 2, 0])) := rfl
theorem kI_29 (cA : Nat → ClassId) (ad : kA) (d : kD) (i : Nat) : ∀ g, kF cA ad g (d.2.1 29 i) (d.2.2 29 i) 29 i = some (.inr (0, xO (ad.2 29 i) g (d.2.1 29 i) [0, 2, 0])) := fun _ => rfl
def mvK (ad : kA) (j : Nat) : kA := (fun k i => if k = 29 ∧ i = 0 then 0 else if k = 4 ∧ i = j then ad.1 29 0 else ad.1 k i, fun k i => if k = 4 ∧ i = j then fun _ => 0 else ad.2 k i)
theorem mvK_1 (ad : kA) (j : Nat) : (mvK ad j).1 4 j = ad.1 29 0 := by
  show (if (4 : Nat) = 29 ∧ j = 0 then 0 else if 4 = 4 ∧ j = j then ad.1 29 0 else ad.1 4 j) = _
  rw [if_neg (by omega), if_pos ⟨rfl, rfl⟩]
theorem mvK_0 (ad : kA) (j : Nat) : (mvK ad j).1 29 0 = 0 := by
  show (if (29 : Nat) = 29 ∧ (0 : Nat) = 0 then 0 else if 29 = 4 ∧ 0 = j then ad.1 29 0 else ad.1 29 0) = 0
  rw [if_pos ⟨rfl, rfl⟩]
theorem mvK_n (ad : kA) (j : Nat) {k i : Nat} (h1 : ¬ (k = 29 ∧ i = 0)) (h2 : ¬ (k = 4 ∧ i = j)) : (mvK ad j).1 k i = ad.1 k i := by
  show (if k = 29 ∧ i = 0 then 0 else if k = 4 ∧ i = j then ad.1 29 0 else ad.1 k i) = _
  rw [if_neg h1, if_neg h2]
theorem mvK_2 (ad : kA) (j : Nat) {k i : Nat} (h2 : ¬ (k = 4 ∧ i = j)) : (mvK ad j).2 k i = ad.2 k i := if_neg h2
theorem mvK_z (ad : kA) (j : Nat) : (mvK ad j).2 4 j = fun _ => 0 := if_pos ⟨rfl, rfl⟩
/-- a cell is written and has another key then -/
theorem oW.setK {D : va_G} {cA : Nat → ClassId} {B0 : Nat} {ad ad' : kA} {d d' : kD} {H H1 : Heap} (h : oW D cA B0 ad d H) {k i k2 i2 : Nat} (ha : ad.1 k i ≠ 0) (h1 : ad'.1 k2 i2 = ad.1 k i) (h2 : ad'.1 k i = 0) (h3 : ∀ k' i', ¬ (k' = k ∧ i' = i) → ¬ (k' = k2 ∧ i' = i2) → ad'.1 k' i' = ad.1 k' i') {e' : va_E} (hc' : kC cA ad' d' k2 i2 = some e') (hB : B0 ≤ ad.1 k i) (ho : ∀ k' i', ¬ (k' = k ∧ i' = i) → ¬ (k' = k2 ∧ i' = i2) → kC cA ad' d' k' i' = kC cA ad d k' i') (hat : va_at D vwCl (ad.1 k i, e') H1) (hz : H1.size = H.size) (hq : ∀ q : Nat, q ≠ ad.1 k i → H1[q]? = H[q]?) : oW D cA B0 ad' d' H1 := by
  have key : ∀ k' i', ad'.1 k' i' ≠ 0 → (k' = k2 ∧ i' = i2) ∨ (¬ (k' = k ∧ i' = i) ∧ ¬ (k' = k2 ∧ i' = i2) ∧ ad'.1 k' i' = ad.1 k' i') := by
    intro k' i' hne
    by_cases e2 : k' = k2 ∧ i' = i2
    · exact Or.inl e2
    · have e1 : ¬ (k' = k ∧ i' = i) := by rintro ⟨rfl, rfl⟩; exact hne h2
      exact Or.inr ⟨e1, e2, h3 k' i' e1 e2⟩
  refine ⟨fun k' i' x hx0 hx => ?_, fun k1 i1 k3 i3 hx0 he => ?_, fun k' i' hx0 => ?_⟩
  · rcases key k' i' hx0 with ⟨rfl, rfl⟩ | ⟨e1, e2, e3⟩
    · rw [hc'] at hx; cases hx
      rw [h1]; exact ⟨hat, hB⟩
    · rw [ho k' i' e1 e2] at hx
      rw [e3] at hx0 ⊢
      refine ⟨(h.1 k' i' x hx0 hx).1.kept (hq _ (fun q => e1 ?_)), (h.1 k' i' x hx0 hx).2⟩
      exact h.2.1 _ _ _ _ hx0 q
  · have hb : ad'.1 k3 i3 ≠ 0 := by rw [← he]; exact hx0
    rcases key k1 i1 hx0 with ⟨rfl, rfl⟩ | ⟨e1, e2, e3⟩
    · rcases key k3 i3 hb with ⟨rfl, rfl⟩ | ⟨f1, f2, f3⟩
      · exact ⟨rfl, rfl⟩
      · rw [h1] at hx0; rw [h1, f3] at he
        have := h.2.1 _ _ _ _ hx0 he
        exact absurd ⟨this.1.symm, this.2.symm⟩ f1
    · rcases key k3 i3 hb with ⟨rfl, rfl⟩ | ⟨f1, f2, f3⟩
      · rw [e3] at hx0; rw [e3, h1] at he
        have := h.2.1 _ _ _ _ hx0 he
        exact absurd this e1
      · rw [e3] at hx0; rw [e3, f3] at he
        exact h.2.1 _ _ _ _ hx0 he
  · rw [hz]
    rcases key k' i' hx0 with ⟨rfl, rfl⟩ | ⟨e1, e2, e3⟩
    · rw [h1] at hx0 ⊢; exact h.2.2 _ _ hx0
    · rw [e3] at hx0 ⊢; exact h.2.2 _ _ hx0
section XPK
variable {p : Program} {l : Launch} {e : Env} {R : Room} {s : State} {m : MethodId} {args : Array Value} {below : List Frame} {meth : Method} {c : Code} {H : Heap} {locs : List Loc} {cells slots : Nat} {Q : State → Prop}
variable {cc : ByteArray} {pc : Nat} {ls : Array Slot} {rest : List Value} {D : va_G} {cA : Nat → ClassId} {B0 : Nat} {ad : kA} {d : kD} {H0 : Heap} {index : Nat}
theorem x_putK (hx : p.tables.exec = Jvm.exec) (hb : c.code = cc) (hu : ∀ w ∈ UW, w.before args s = true) {own C : String} {T : u_T} {N ci : Nat} (hin : ∀ w ∈ u_ws C T N, w ∈ UW) (ty0 : Nat → FieldType) (hty : ∀ k, k < N → parseFieldDescriptor (T k).2.2.1 = some (ty0 k)) (hnm : ∀ a, a < N → ∀ b, b < N → a ≠ b → (T a).2.1 ≠ (T b).2.1) (hown : s.vm.findClass own = some m.cls) (hK : oK D cA s) (hW : oW D cA B0 ad d H) (hS : va_S (oA B0) H0 H locs) {ad' : kA} {d' : kD} {k i k2 i2 : Nat} (ha : ad.1 k i ≠ 0) (h1 : ad'.1 k2 i2 = ad.1 k i) (h2 : ad'.1 k i = 0) (h3 : ∀ k' i', ¬ (k' = k ∧ i' = i) → ¬ (k' = k2 ∧ i' = i2) → ad'.1 k' i' = ad.1 k' i') {fs : List Value} (hcl : vwCl[ci]? = some (C, T, N)) (f : Nat) {v : Value} (hc0 : kC cA ad d k i = some (.inr (ci, fs))) (hc1 : kC cA ad' d' k2 i2 = some (.inr (ci, fs.set f v))) (ho : ∀ k' i', ¬ (k' = k ∧ i' = i) → ¬ (k' = k2 ∧ i' = i2) → kC cA ad' d' k' i' = kC cA ad d k' i') (hf : f < N) (hlink : Cond.fieldLink own index (T f).1 (T f).2.1 (T f).2.2.1 ∈ UW) (hfin : (T f).2.2.2 = false) {ty : FieldType} (hd : parseFieldDescriptor (T f).2.2.1 = some ty) (hn : narrow ty v = v) (hfit : fits ty v = true) (hl : f < fs.length) (hdg : decode cc pc = .ok (.putfield index, 3))
    (kk : ∀ (H1 : Heap) (locs1 : List Loc), oW D cA B0 ad' d' H1 → va_S (oA B0) H0 H1 locs1 → W p l e R s m args below meth c H1 locs1 cells slots Q (F0 m (pc + 3) ls rest)) : W p l e R s m args below meth c H locs cells slots Q (F0 m pc ls (v :: .ref (ad.1 k i) :: rest)) := by
  have hap := va_apart (own := own) hu hin ty0 hty hnm hK.1 hcl
  obtain ⟨⟨r, g1, cell, q1, q2, q3, q4⟩, hB⟩ := hW.1 k i _ ha hc0
  have hr : r = (C, T, N) := Option.some.inj (g1.symm.trans hcl)
  subst hr
  obtain ⟨hSl, hfc, kCl, hkC, hkind⟩ := hK.1.1 ci _ hcl
  obtain ⟨cf, kf, fi, fl, hi, hsl⟩ := hSl f hf
  have hlay := hu _ (hin _ (u_in_lay hf))
  unfold u_lay at hlay
  have hst := (u_facts hfc hkC (u_lays hu hin hf) hi).1
  rw [if_neg (by rw [hfin]; decide)] at hlay
  have h6 := u_store hfc hkC hkind hlay hi hd hn hfit
  refine W.putK hx hb (f := fl) ⟨hown, hu _ hlink, ⟨_, _, _, hi⟩, hst⟩ (by rw [q2]; exact h6) q1 q3 (by rw [hsl]; exact k2_hasslot (q4 f hf)) rfl rfl hdg fun H' e1 e2 e3 => ?_
  rw [hsl] at e1 ⊢
  exact kk H' _ (hW.setK ha h1 h2 h3 hc1 hB ho ⟨_, hcl, t_OB.to (V := updV (vp_V fs) f v) ⟨_, e1, q2, q3, t_set q4 hap hf _⟩ (fun j _ => vp_updV_set hl _ j)⟩ e2 e3) (hS.put e2 e3 hB)
end XPK
set_option maxHeartbeats 1000000 in
set_option maxRecDepth 100000 in
theorem c_Jxa1e45_init_da8c8 (l : Launch) (D : va_G) (cA : Nat → ClassId) (B0 : Nat) (ad0 : kA) (d0 : kD) (ha : ad0.1 29 0 ≠ 0)  : oM l yJxa1e45_init_da8c8 wJxa1e45_init_da8c8 1 0 0 D cA B0 ad0 d0 ([.ref (ad0.1 29 0)] : List Value) (oQvA D cA B0 (fun u => u = (ad0, d0))) := by
  refine o_ofW (cc := cJxa1e45_init_da8c8) (maxL := 1) (ret := none) (by decide) rfl (Nat.le_of_ble_eq_true rfl) ?_
  intro p e s m below meth c hx hb hr hml hts hown hlocks hnm hK hW hB hS ls hl
  have hu : ∀ w ∈ UW, w.before _ s = true := fun w h => hts w (uw_c w h)
  have hl : lv_has ls 1 [(0, .ref (ad0.1 29 0))] := hl
  refine lv_aload_n hx hb dJxa1e45_init_da8c8_0 rfl (lv_at hl 0 rfl) ?_
  refine W.objInit hx hb hown (hu _ uM_Jxa1e45_1) (hu _ uN_java_lang_Object__init___V) (hu _ uC_java_lang_Object__init___V) rfl (by rw [hml]; exact hl.1) rfl dJxa1e45_init_da8c8_1 (Nat.le_of_ble_eq_true rfl) (Nat.le_of_ble_eq_true rfl) ?_
  refine W.eq (g2 := F0 m 4 ls []) rfl ?_
  exact W.vret hx hb hr (fun t ht _ => ⟨⟨(ad0, d0), rfl, rfl, by show oW D cA B0 ad0 d0 t.heap; rw [ht]; exact hW⟩, hS.F ht⟩) hS.2.2 dJxa1e45_init_da8c8_4
set_option maxHeartbeats 1000000 in
set_option maxRecDepth 100000 in
theorem c_Jxc12de_init_da8c8 (l : Launch) (D : va_G) (cA : Nat → ClassId) (B0 : Nat) (ad0 : kA) (d0 : kD) (ha : ad0.1 29 0 ≠ 0)  : oM l yJxc12de_init_da8c8 wJxc12de_init_da8c8 2 0 0 D cA B0 ad0 d0 ([.ref (ad0.1 29 0)] : List Value) (oQvA D cA B0 (fun u => u = (ad0, uI d0 29 0 0 (nI 0)))) := by
  refine o_ofW (cc := cJxc12de_init_da8c8) (maxL := 1) (ret := none) (by decide) rfl (Nat.le_of_ble_eq_true rfl) ?_
  intro p e s m below meth c hx hb hr hml hts hown hlocks hnm hK hW hB hS ls hl
  have hu : ∀ w ∈ UW, w.before _ s = true := fun w h => hts w (uw_c w h)
  have hl : lv_has ls 1 [(0, .ref (ad0.1 29 0))] := hl
  refine lv_aload_n hx hb dJxc12de_init_da8c8_0 rfl (lv_at hl 0 rfl) ?_
  refine o_callvA (x_runI (As := []) (rest := []) ⟨hx, hb, hml, hown, hu⟩ (c_Jxa1e45_init_da8c8 l D cA B0 ad0 d0 ha) uC_Jxa1e45_init_da8c8 uN_Jxa1e45_init_da8c8 uI_Jxa1e45 uM_Jxc12de_1 (n0 := 0) (by decide +kernel) rfl ⟨Nat.le_of_ble_eq_true rfl, Nat.le_of_ble_eq_true rfl⟩ hK hW hB hS hl.1 rfl (lv_room (Nat.le_of_ble_eq_true rfl)) ⟨Nat.le_of_ble_eq_true rfl, Nat.le_of_ble_eq_true rfl⟩ dJxc12de_init_da8c8_1) hS (fun u hp H locs hW hS => ?_)
  have hp : u = (ad0, d0) := hp
  subst hp
  refine lv_aload_n hx hb dJxc12de_init_da8c8_4 rfl (lv_at hl 0 rfl) ?_
  refine n_iconst (v := 0) hx hb dJxc12de_init_da8c8_5 (by decide) ?_
  refine x_pi hx hb hu in_Jx4a65c tyJx4a65c tyJx4a65c_ok nmJx4a65c hown hK hW hS (k := 29) (i := 0) ha (kI_29 _ _ _ _) rfl 0 (ty := .int) (by decide +kernel) uF_Jxc12de_7 ⟨rfl, rfl⟩ dJxc12de_init_da8c8_6 (fun H locs hW hS => ?_)
  exact W.vret hx hb hr (fun t ht _ => ⟨⟨(ad0, uI d0 29 0 0 (nI 0)), rfl, rfl, by show oW D cA B0 _ _ t.heap; rw [ht]; exact hW⟩, hS.F ht⟩) hS.2.2 dJxc12de_init_da8c8_9
set_option maxHeartbeats 1000000 in
set_option maxRecDepth 100000 in
theorem c_Jx4a65c_init_da8c8 (l : Launch) (D : va_G) (cA : Nat → ClassId) (B0 : Nat) (ad0 : kA) (d0 : kD) (ha : ad0.1 29 0 ≠ 0) (j : Nat) (h2 : d0.1 29 0 2 = 0) : oM l yJx4a65c_init_da8c8 wJx4a65c_init_da8c8 3 0 0 D cA B0 ad0 d0 ([.ref (ad0.1 29 0)] : List Value) (oQvA D cA B0 (fun u => u = (mvK ad0 j, zD (uI d0 29 0 0 (nI 0)) 4 j))) := by
  refine o_ofW (cc := cJx4a65c_init_da8c8) (maxL := 1) (ret := none) (by decide) rfl (Nat.le_of_ble_eq_true rfl) ?_
  intro p e s m below meth c hx hb hr hml hts hown hlocks hnm hK hW hB hS ls hl
  have hu : ∀ w ∈ UW, w.before _ s = true := fun w h => hts w (uw_c w h)
  have hl : lv_has ls 1 [(0, .ref (ad0.1 29 0))] := hl
  refine lv_aload_n hx hb dJx4a65c_init_da8c8_0 rfl (lv_at hl 0 rfl) ?_
  refine o_callvA (x_runI (As := []) (rest := []) ⟨hx, hb, hml, hown, hu⟩ (c_Jxc12de_init_da8c8 l D cA B0 ad0 d0 ha) uC_Jxc12de_init_da8c8 uN_Jxc12de_init_da8c8 uI_Jxc12de uM_Jx4a65c_1 (n0 := 0) (by decide +kernel) rfl ⟨Nat.le_of_ble_eq_true rfl, Nat.le_of_ble_eq_true rfl⟩ hK hW hB hS hl.1 rfl (lv_room (Nat.le_of_ble_eq_true rfl)) ⟨Nat.le_of_ble_eq_true rfl, Nat.le_of_ble_eq_true rfl⟩ dJx4a65c_init_da8c8_1) hS (fun u hp H locs hW hS => ?_)
  have hp : u = (ad0, uI d0 29 0 0 (nI 0)) := hp
  subst hp
  refine lv_aload_n hx hb dJx4a65c_init_da8c8_4 rfl (lv_at hl 0 rfl) ?_
  refine va_gets hx hb hB.2.1 hS hown (hu _ uF_Jx4a65c_39) (fun _ h => h) dJx4a65c_init_da8c8_5 ?_
  refine x_putK hx hb hu in_Jx4a65c tyJx4a65c tyJx4a65c_ok nmJx4a65c hown hK hW hS (ad' := mvK ad0 j) (d' := zD (uI d0 29 0 0 (nI 0)) 4 j) (k := 29) (i := 0) (k2 := 4) (i2 := j) ha (mvK_1 ad0 j) (mvK_0 ad0 j) (fun k' i' g1 g2 => mvK_n ad0 j g1 g2) rfl 1 (kX_29 _ _ _ _) ?_ (fun k' i' g1 g2 => kC_agree (zD_n1 _ g2) (zD_n2 _ g2) (mvK_2 ad0 j g2) (mvK_2 ad0 j (by omega))) (by decide) uF_Jx4a65c_9 (by decide +kernel) (ty := .array (.object "java/lang/Object")) (by decide +kernel) rfl rfl (by rw [xO_len]; decide) dJx4a65c_init_da8c8_8 (fun H locs hW hS => ?_)
  · rw [kX_4, mvK_z, zD_s1, zD_s2]
    have e0 : (uI d0 29 0 0 (nI 0)).1 29 0 0 = 0 := uI_s _ _ _ _ _
    have e2 : (uI d0 29 0 0 (nI 0)).1 29 0 2 = 0 := by rw [uI_f _ _ _ _ (by decide)]; exact h2
    show some (Sum.inr (0, [Value.int 0, Value.ref (cA 100), Value.int 0])) = some (Sum.inr (0, [Value.int ((uI d0 29 0 0 (nI 0)).1 29 0 0), Value.ref (cA 100), Value.int ((uI d0 29 0 0 (nI 0)).1 29 0 2)]))
    rw [e0, e2]
  exact W.vret hx hb hr (fun t ht _ => ⟨⟨(mvK ad0 j, zD (uI d0 29 0 0 (nI 0)) 4 j), rfl, rfl, by show oW D cA B0 _ _ t.heap; rw [ht]; exact hW⟩, hS.F ht⟩) hS.2.2 dJx4a65c_init_da8c8_11
