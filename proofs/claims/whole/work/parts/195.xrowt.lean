/-! row outside its range: it throws -/
section RQW
variable {p : Program} {l : Launch} {e : Env} {R : Room} {s : State} {m : MethodId} {args : Array Value} {below : List Frame} {meth : Method} {c : Code} {H : Heap} {locs : List Loc} {cells slots : Nat} {Q : State → Prop} {cc : ByteArray} {pc : Nat} {ls : Array Slot} {rest st0 : List Value}
theorem rq_calli {r : Int32} (hr : va_Run p l e R s m args below meth c H locs cells slots 0 0 (F0 m pc ls st0) rest (fun st oc t => oc = .returned (some (.int r)) ∧ t.heap = st.heap) (fun _ => False))
    (kk : W p l e R s m args below meth c H locs cells slots Q (F0 m (pc + 3) ls (.int r :: rest))) : W p l e R s m args below meth c H locs cells slots Q (F0 m pc ls st0) := by
  intro T hT X
  obtain ⟨v, st₀, t, T', L, h0, X', hL, e1, e2, ⟨hv, hh⟩, st⟩ := hr T hT X
  cases hv
  have hL0 : L = [] := List.eq_nil_iff_forall_not_mem.mpr (fun q hq => hL q hq)
  subst hL0
  obtain ⟨t2, a1, b1⟩ := kk T' (by rw [e1, hh, h0]) (by rw [List.append_nil] at X'; exact X')
  exact ⟨t2, st t2 a1, b1⟩
theorem rq_ldcw (hexec : p.tables.exec = Jvm.exec) (hb : c.code = cc) {own text : String} {index : Nat} (hown : s.vm.findClass own = some m.cls) (hconst : (Cond.stringRef own index text).before args s = true) (hdg : decode cc pc = .ok (.ldc_w index, 3))
    (kk : ∀ a : Nat, W p l e R s m args below meth c H locs cells slots Q (F0 m (pc + 3) ls (.ref a :: rest))) : W p l e R s m args below meth c H locs cells slots Q (F0 m pc ls rest) := by
  intro T hT X
  obtain ⟨k, cf, i, a, hk, hcf, hcp, -, hr, -⟩ := Cond.stringRef_spec hown hconst
  obtain ⟨k', hk', he⟩ := X.warmed.alike.2.2 _ _ hk
  have hr' : k'.resolved[index]? = some (some (.string a)) := by
    rcases X.warmed.entry hk hk' index with h | ⟨h, -⟩
    · rw [h]; exact hr
    · rw [hr] at h; cases h
  obtain ⟨t, a1, b1⟩ := kk a T hT X
  refine ⟨t, ?_, b1⟩
  have hdg' : decode c.code pc = .ok (.ldc_w index, 3) := by rw [hb]; exact hdg
  jvm_step X.here [hexec, hdg', ldc_w.wp_string (e := e) (s := T) (f := F0 m pc ls rest) X.here.top hk' (by rw [he]; exact hcf) hcp hr']
  exact a1
end RQW
set_option maxHeartbeats 400000 in
theorem rq_within (l : Launch) (v a b : Int32) : Met l yX9_within wX9_within (oR 1 0 0) (fun av _ => av = ([.int v, .int a, .int b] : List Value).toArray) (fun _ st oc t => oc = .returned (some (.int (if v < a then 0 else if b < v then 0 else 1))) ∧ t.heap = st.heap) 0 0 (fun _ => False) := by
  refine Met.ofW (cc := cX9_within) (maxL := 3) (ret := some .boolean) (by decide) rfl ?_
  intro p e s m args below meth c s₁ B hml hv
  subst hv
  have hl := lv_entry ([.int v, .int a, .int b] : List Value) (n := 3) (Nat.le_of_ble_eq_true rfl)
  rw [lg_entry_eq]
  have hx := B.exec
  have hb := B.bytes
  have hr := B.returns
  have hlocks := B.notSynchronized
  refine (fun ls hl => ?_ : ∀ ls : Array Slot, lv_has ls 3 [(0, .int v), (1, .int a), (2, .int b)] → W _ _ _ _ _ _ _ _ _ _ _ _ _ _ _ (F0 m 0 ls [])) _ hl
  refine lv_iload_n hx hb dX9_within_0 rfl (lv_at hl 0 rfl) ?_
  refine lv_iload_n hx hb dX9_within_1 rfl (lv_at hl 1 rfl) ?_
  refine lv_icmp_lt (tgt := 14) hx hb dX9_within_2 (by decide) (fun c_1 => ?_) (fun c_1 => ?_)
  · refine n_iconst (v := 0) hx hb dX9_within_14 (by decide) ?_
    exact W.zret hx hb hr rfl (fun t ht _ => ⟨by rw [if_pos c_1]; rfl, ht⟩) (fun q hq => by cases hq) dX9_within_15 hlocks
  · refine lv_iload_n hx hb dX9_within_5 rfl (lv_at hl 0 rfl) ?_
    refine lv_iload_n hx hb dX9_within_6 rfl (lv_at hl 2 rfl) ?_
    refine lv_icmp_gt (tgt := 14) hx hb dX9_within_7 (by decide) (fun c_2 => ?_) (fun c_2 => ?_)
    · refine n_iconst (v := 0) hx hb dX9_within_14 (by decide) ?_
      exact W.zret hx hb hr rfl (fun t ht _ => ⟨by rw [if_neg c_1, if_pos c_2]; rfl, ht⟩) (fun q hq => by cases hq) dX9_within_15 hlocks
    · refine n_iconst (v := 1) hx hb dX9_within_10 (by decide) ?_
      refine lv_goto (tgt := 15) hx hb dX9_within_11 (by decide) ?_
      exact W.zret hx hb hr rfl (fun t ht _ => ⟨by rw [if_neg c_1, if_neg c_2]; rfl, ht⟩) (fun q hq => by cases hq) dX9_within_15 hlocks
def rq_P (s0 : State) (D : va_G) (cA : Nat → ClassId) (B0 : Nat) (ad : kA) (d : kD) (av : List Value) : Array Value → State → Prop := va_Pc av (fun U => (oK D cA U ∧ oW D cA B0 ad d U.heap ∧ oG cA B0 U) ∧ rK s0 U)
def rq_Q (st : State) (o : Outcome) (t : State) : Prop := ∃ (cN : ClassId) (ce : Cell), o = .threw st.heap.size ∧ st.WarmedH t.vm ∧ st.sameButNew ({ t with vm := st.vm } : State) [] 1 6 ∧ st.vm.findClass rq_N = some cN ∧ t.heap[st.heap.size]? = some ce ∧ ce.cls = cN ∧ ce.vm = .none ∧ ∀ y : Nat, y < st.heap.size → t.heap[y]? = st.heap[y]?
set_option maxHeartbeats 1000000 in
set_option maxRecDepth 100000 in
theorem rq_row (l : Launch) (hfl : l.flags = pinnedFlags ++ [noTraceFlag]) (s0 : State) (h0 : rF s0) (D : va_G) (cA : Nat → ClassId) (B0 : Nat) (ad : kA) (S : sS) (sr : Nat → Int32) (d0 : kD) (hM : InvX cA ad S d0) (hR : RowX S sr d0) (ii : Int32) (hii : ix ii (S 32 0) = false) : MetFree l yX9_row (headSpec wX9_row (oR 7 1 6)) (rq_P s0 D cA B0 ad d0 [.ref (ad.1 0 0), .int ii]) (fun _ _ _ _ _ => True) (fun _ st o t => rq_Q st o t) := by
  refine MetFree.of_bodyS (code := cX9_row) (maxLocals := 2) (ret := some .int) (by decide) ?_ ?_
  · intro args s m h hn
    obtain ⟨meth, c, h1, h2, h3, h4, h5, h6, -, -⟩ := Cond.code_spec hn (atoms_spec (ws := wX9_row) h _ List.mem_cons_self)
    exact ⟨meth, c, h1, h2, h3, h4, h5, h6⟩
  intro p e s m args below meth c s₁ B hml hP _
  obtain ⟨rfl, ⟨hK, hW, hB⟩, hRK⟩ := hP
  have hh0 : s₁.heap = s.heap := by rw [B.state]; rfl
  have hx := B.exec
  have hb := B.bytes
  have hlocks := B.notSynchronized
  have hts := atoms_spec (ws := wX9_row) B.pre
  have hown : s.vm.findClass "RiverFeet" = some m.cls := findClass_of_methodNamed B.named
  have hu : ∀ w ∈ UW, w.before _ s = true := fun w h => hts w (uw_c w h)
  have hnoh : ∀ x ∈ c.exceptionTable.toList, covers x 27 = false := covers_of_empty (B.noHandlers (hts _ List.mem_cons_self)) _
  have hA := hM.1.1
  have hb32 : S 32 0 ≤ 64 := hM.1.2.2.f 32 (mx := 64) (by decide)
  have body : W p l e (headSpec wX9_row (oR 7 1 6)).room s m ([.ref (ad.1 0 0), .int ii] : List Value).toArray below meth c s.heap [] 0 0 (fun t => ∃ o, t.status = .running ∧ Ended t below o ∧ rq_Q s o t) (entryFrame m ([.ref (ad.1 0 0), .int ii] : List Value).toArray 2) := by
    have hl := lv_entry ([.ref (ad.1 0 0), .int ii] : List Value) (n := 2) (Nat.le_of_ble_eq_true rfl)
    rw [lg_entry_eq]
    refine (fun ls hl => ?_ : ∀ ls : Array Slot, lv_has ls 2 [(0, .ref (ad.1 0 0)), (1, .int ii)] → W _ _ _ _ _ _ _ _ _ _ _ _ _ _ _ (F0 m 0 ls [])) _ hl
    refine lv_iload_n hx hb dX9_row_0 rfl (lv_at hl 1 rfl) ?_
    refine n_iconst (v := 0) hx hb dX9_row_1 (by decide) ?_
    refine lv_aload_n hx hb dX9_row_2 rfl (lv_at hl 0 rfl) ?_
    refine x_gr hx hb hu in_X9 hown hK hW (hA.o (k := 0) rfl) (kX_0 _ _ _ _) rfl 6 (by decide) uF_X9_37 (hA.f 6 (k := 11) (i := 0) (by decide) (hA.o (k := 11) rfl)) dX9_row_3 ?_
    refine x_gi hx hb hu in_X3 hown hK hW (hA.o (k := 11) rfl) (kX_11 _ _ _ _) rfl 1 (by decide) uF_X9_371 dX9_row_6 ?_
    refine n_topi (y := nI (S 32 0)) (hR.1.1) ?_
    refine n_iconst (v := 1) hx hb dX9_row_9 (by decide) ?_
    refine lv_isub hx hb dX9_row_10 ?_
    refine rq_calli (va_runS (As := [.int ii, .int (nI 0), .int ((nI (S 32 0)) - (nI 1))]) (rest := []) ⟨hx, hb, hml, hown, hu⟩ (rq_within l ii (nI 0) ((nI (S 32 0)) - (nI 1))) (va_cwS 3 hu (gS_X9_85 (fun _ h => h)) rfl rfl rfl (by decide +kernel) ⟨Nat.le_of_ble_eq_true rfl, Nat.le_of_ble_eq_true rfl⟩) ⟨fun _ _ _ _ h => h, fun _ _ _ => rfl⟩ rfl rfl hl.1 rfl (lv_room (Nat.le_of_ble_eq_true rfl)) dX9_row_11 ⟨Nat.zero_le _, Nat.zero_le _⟩) ?_
    refine n_topi (y := bI (ix ii (S 32 0))) (in_ix (by omega)) ?_
    refine lv_if_ne (tgt := 28) hx hb dX9_row_14 (by decide) (fun c_r => absurd (bI_n c_r) (by rw [hii]; decide)) (fun c_r => ?_)
    have hat := rq_atoms h0 hRK ([.ref (ad.1 0 0), .int ii] : List Value).toArray
    obtain ⟨cN, kN, hfN, hkN, hord, -, -, -⟩ := Cond.instantiable_spec (hat (.instantiable rq_N 6) (by simp [rq_A]))
    refine W.newcK hx hb hown (hu _ uL_X9_375) (hat (.instantiable rq_N 6) (by simp [rq_A])) (rq_word h0 hRK (List.mem_of_getElem? (i := 88) (by decide +kernel)) rfl) rfl dX9_row_17 (Nat.le_of_ble_eq_true rfl) (Nat.le_of_ble_eq_true rfl) hfN rfl fun H1 kC' hkC e1 z1 o1 => ?_
    cases hkN.symm.trans hkC
    refine lv_dup hx hb dX9_row_20 rfl ?_
    refine rq_ldcw hx hb hown (rq_str h0 hRK _) dX9_row_21 fun q => ?_
    intro T hT X
    obtain ⟨U, g1, g2, g3, g4, g5, ⟨ce, g6, g7, g8⟩, g9⟩ := rq_throw X hx (Launch.traces_off hfl X.admits) hlocks (own := "RiverFeet") (ic := 379) (ix := 13) (rx := rq_rx) (by decide +kernel) (by decide +kernel) (by decide +kernel) (by decide +kernel) hown hat (fun x hx => by cases hx) (a := s.heap.size) (cN := cN) (kN := kN) hfN hkN (by rw [hT]; exact e1) (Nat.le_refl _) (msg := .ref q) rfl
      (g := F0 m 24 ls [.ref q, .ref s.heap.size, .ref s.heap.size]) rfl (hl.1.trans hml.symm) rfl rfl (rest := []) rfl (by rw [hb]; exact dX9_row_24) (by rw [hb]; exact dX9_row_27) hnoh (Nat.le_of_ble_eq_true rfl) (Nat.le_of_ble_eq_true rfl)
    exact ⟨U, g1, .threw s.heap.size, g2, g3, cN, ce, rfl, g4, g5, hfN, g6, g7, g8, fun y hy => (g9 y (Nat.ne_of_lt hy)).trans ((congrArg (fun h : Heap => h[y]?) hT).trans (o1 y hy))⟩
  obtain ⟨t, a1, o, b1, b2, b3⟩ := body s₁ hh0 (Stand.of_body B)
  exact ⟨t, o, a1, b1, b2, b3⟩
