theorem uW_L_row : Cond.codeWith yL_row cL_row 4 (some .int) [(0, 9, 12, 13)] ∈ UW := uw_at 916 (by decide +kernel)
def wL_row : List Cond := Cond.codeWith yL_row cL_row 4 (some .int) [(0, 9, 12, 13)] :: UW
theorem rq_oW {D : va_G} {cA : Nat → ClassId} {B0 : Nat} {ad : kA} {d : kD} {H H1 : Heap} (h : oW D cA B0 ad d H) (hz : H.size ≤ H1.size) (hq : ∀ y : Nat, y < H.size → H1[y]? = H[y]?) : oW D cA B0 ad d H1 :=
  ⟨fun k i x ha hx => ⟨(h.1 k i x ha hx).1.kept (hq _ (h.2.2 k i ha)), (h.1 k i x ha hx).2⟩, h.2.1, fun k i h' => Nat.lt_of_lt_of_le (h.2.2 k i h') hz⟩
theorem rq_vS {A : Nat → Prop} {H0 H H1 : Heap} {locs : List Loc} (h : va_S A H0 H locs) (hz : H.size ≤ H1.size) (hq : ∀ y : Nat, y < H.size → H1[y]? = H[y]?) : va_S A H0 H1 locs :=
  ⟨Nat.le_trans h.1 hz, fun a h1 h2 => (hq a (Nat.lt_of_lt_of_le h1 h.1)).trans (h.2.1 a h1 h2), h.2.2⟩
theorem rq_P_blind {s0 : State} {D : va_G} {cA : Nat → ClassId} {B0 : Nat} {ad : kA} {d : kD} {av : List Value} : FrameBlind (rq_P s0 D cA B0 ad d av) := fun a U g mk q => by
  have h := oPc_blind (D := D) (cA := cA) (B0 := B0) (ad := ad) (d := d) (av := av) a U g mk ⟨q.1, q.2.1⟩
  exact ⟨h.1, h.2, q.2.2.same rfl rfl⟩
theorem rq_go {s0 s U : State} {B0 : Nat} {H : Heap} {locs : List Loc} (h : rK s0 s) (hB : s0.heap.size = B0) (hle : B0 ≤ s.heap.size) (hS : va_S (oA B0) s.heap H locs) (hU : U.heap = H) (hW : s.WarmedH U.vm) : rK s0 U :=
  ⟨State.WarmedH.trans h.1 hW, fun q hq => by rw [hU, hS.2.1 q (by omega) (fun z => by unfold oA at z; omega)]; exact h.2 q hq⟩
def rq_post (S : sS) (sr : Nat → Int32) (d0 : kD) (ii : Int32) (r : Int32) (d1 : kD) : Prop := (ix ii (S 32 0) = true ∧ r = nI 0 ∧ uJ d0 30 0 0 (sr (nx ii)).toInt64 = d1) ∨ (ix ii (S 32 0) = false ∧ r = nI 1 ∧ d0 = d1)
set_option maxHeartbeats 1000000 in
set_option maxRecDepth 100000 in
theorem c_L_row (l : Launch) (hfl : l.flags = pinnedFlags ++ [noTraceFlag]) (s0 : State) (h0 : rF s0) (D : va_G) (cA : Nat → ClassId) (B0 : Nat) (hB0 : s0.heap.size = B0) (ad : kA) (hal : mAl ad) (S : sS) (sr : Nat → Int32) (d0 : kD) (hM : InvX cA ad S d0) (hR : RowX S sr d0) (h30 : ad.1 30 0 ≠ 0) (ii : Int32) : Met l yL_row wL_row (oR 8 1 6) (rq_P s0 D cA B0 ad d0 [.ref (ad.1 0 0), .int ii, .ref (ad.1 30 0)]) (oQi D cA B0 ad (rq_post S sr d0 ii)) 1 6 (oA B0) := by
  refine va_MetW (cc := cL_row) (maxL := 4) (ret := some .int) (hh := [(0, 9, 12, 13)]) (by decide) rfl ?_
  intro p e s m args below meth c s₁ B hml hv
  obtain ⟨rfl, ⟨hK, hW, hB⟩, hRK⟩ := hv
  have hx := B.exec
  have hb := B.bytes
  have hr := B.returns
  have hlocks := B.notSynchronized
  have hts := atoms_spec (ws := wL_row) B.pre
  have hown : s.vm.findClass RL = some m.cls := findClass_of_methodNamed B.named
  have hu : ∀ w ∈ UW, w.before _ s = true := fun w h => hts w (List.mem_cons_of_mem _ h)
  have hS : va_S (oA B0) s.heap s.heap [] := va_S.rf
  have hA := hM.1.1
  have hb32 : S 32 0 ≤ 64 := hM.1.2.2.f 32 (mx := 64) (by decide)
  have hex : ∃ x : ExceptionTableEntry, c.exceptionTable.toList = [x] ∧ covers x 4 = true ∧ x.catchType = 13 ∧ x.handlerPc = 12 := by
    obtain ⟨m9, meth9, c9, n1, n2, n3, -, -, n4, -⟩ := Cond.codeWith_spec (hts _ List.mem_cons_self)
    cases B.named.symm.trans n1
    cases B.method.symm.trans n2
    cases (Stand.of_body B).code.symm.trans n3
    generalize c.exceptionTable.toList = L at n4 ⊢
    cases L with
    | nil => simp at n4
    | cons x r =>
      cases r with
      | cons y z => simp at n4
      | nil =>
        simp only [List.map_cons, List.map_nil, List.cons.injEq, Prod.mk.injEq, and_true] at n4
        exact ⟨x, rfl, by simp [covers, n4.1, n4.2.1], n4.2.2.2, n4.2.2.1⟩
  have hl := lv_entry ([.ref (ad.1 0 0), .int ii, .ref (ad.1 30 0)] : List Value) (n := 4) (Nat.le_of_ble_eq_true rfl)
  rw [lg_entry_eq]
  refine (fun ls hl => ?_ : ∀ ls : Array Slot, lv_has ls 4 [(0, .ref (ad.1 0 0)), (1, .int ii), (2, .ref (ad.1 30 0))] → W _ _ _ _ _ _ _ _ _ _ _ _ _ _ _ (F0 m 0 ls [])) _ hl
  refine lv_aload_n hx hb dL_row_0 rfl (lv_at hl 2 rfl) ?_
  refine n_iconst (v := 0) hx hb dL_row_1 (by decide) ?_
  refine lv_aload_n hx hb dL_row_2 rfl (lv_at hl 0 rfl) ?_
  refine lv_iload_n hx hb dL_row_3 rfl (lv_at hl 1 rfl) ?_
  have hrc := o_recv hK hW (hA.o (k := 0) rfl) (kX_0 _ _ _ _) rfl
  cases hix : ix ii (S 32 0) with
  | true =>
    obtain ⟨j, hj, rfl⟩ := ix_t hix (by omega)
    refine o_calli (o_runV (As := [.int (nI j)]) (rest := [.int (nI 0), .ref (ad.1 30 0)]) ⟨hx, hb, hml, hown, hu⟩ (c_X9_row l D cA B0 ad hal S sr d0 hM hR j hj) (gV_L_7 (fun _ h => h)) (n0 := 1) rfl (by decide +kernel) rfl ⟨Nat.le_of_ble_eq_true rfl, Nat.le_of_ble_eq_true rfl⟩ hrc hK hW hB hS hl.1 rfl (lv_room (Nat.le_of_ble_eq_true rfl)) ⟨Nat.zero_le _, Nat.zero_le _⟩ dL_row_4) hS (fun r d1 hp H locs hW hS => ?_)
    obtain ⟨rfl, rfl⟩ := hp
    refine lv_i2l hx hb dL_row_7 rfl ?_
    refine x_ls hx hb hK hW hS h30 (kJ_30 _ _ _ _) (by decide) (by decide) dL_row_8 (fun H locs hW hS => ?_)
    refine lv_goto (tgt := 15) hx hb dL_row_9 (by decide) ?_
    refine n_iconst (v := 0) hx hb dL_row_15 (by decide) ?_
    refine W.widen (k := 1) (n := 6) (by decide) (by decide) ?_
    exact o_iret hx hb hr hlocks hW hS (Or.inl ⟨hix, rfl, by rw [nx_nI (by omega)]⟩) dL_row_16
  | false =>
    obtain ⟨x, ht, hxp, hx13, hx12⟩ := hex
    refine rq_callT hx hb hml hown hu (rq_row l hfl s0 h0 D cA B0 ad S sr d0 hM hR ii hix) rq_P_blind ⟨Nat.le_of_ble_eq_true rfl, Nat.le_of_ble_eq_true rfl⟩ ⟨Nat.le_of_ble_eq_true rfl, Nat.le_of_ble_eq_true rfl⟩ (As := [.int ii]) (rest := [.int (nI 0), .ref (ad.1 30 0)]) hrc (fun U hU hWm => ⟨rfl, ⟨hK.warm hWm, by rw [hU]; exact hW, hB.go hS hU hWm.alike⟩, rq_go hRK hB0 hB.1 hS hU hWm⟩) rfl hl.1 rfl (lv_room (Nat.le_of_ble_eq_true rfl)) ht hxp hx13 hx12 (rq_cast h0 hRK _) dL_row_4 (fun a H1 hz hq => ?_)
    refine lv_astore_n (lv' := [(3, .ref a), (0, .ref (ad.1 0 0)), (1, .int ii), (2, .ref (ad.1 30 0))]) hx hb dL_row_12 rfl hl (by decide) rfl (fun ls hl => ?_)
    refine n_iconst (v := 1) hx hb dL_row_13 (by decide) ?_
    exact o_iret hx hb hr hlocks (rq_oW hW hz hq) (rq_vS hS hz hq) (Or.inr ⟨hix, rfl, rfl⟩) dL_row_14
