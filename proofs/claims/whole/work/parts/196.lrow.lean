/-! the law's own row: it calls the class's row, and catches -/
section RQL
variable {p : Program} {l : Launch} {e : Env} {R : Room} {s : State} {m : MethodId} {args : Array Value} {below : List Frame} {meth : Method} {c : Code} {H : Heap} {locs : List Loc} {cells slots : Nat} {Q : State → Prop} {cc : ByteArray} {pc nL : Nat} {ls : Array Slot} {rest st0 : List Value}
theorem rq_callT (hexec : p.tables.exec = Jvm.exec) (hb : c.code = cc) (hml : c.maxLocals = nL) (hown : s.vm.findClass RL = some m.cls) (hts : ∀ w ∈ UW, w.before args s = true) {P : Array Value → State → Prop}
    (hM : MetFree l yX9_row (headSpec wX9_row (oR 7 1 6)) P (fun _ _ _ _ _ => True) (fun _ st o t => rq_Q st o t)) (hblind : FrameBlind P) (hR : 8 ≤ R.frames ∧ 8 + (2 + 11) + 700 ≤ R.locals) (hf : cells + 1 ≤ R.cells ∧ slots + 6 ≤ R.slots)
    {b : Nat} {As : List Value} (hrc : ∃ cell : Cell, H[b]? = some cell ∧ cell.vm.isStatics = false ∧ s.vm.findClass RX9 = some cell.cls) (hP : ∀ U : State, U.heap = H → s.WarmedH U.vm → P (Value.ref b :: As).toArray U) (hn : As.length = 1) (hsz : ls.size = nL) (hst : st0 = As.reverse ++ .ref b :: rest)
    (hrm : 2 * (F0 m pc ls st0).monitorRoom + (rest.map fun v => v.category).sum ≤ 8) {x : ExceptionTableEntry} (ht : c.exceptionTable.toList = [x]) (hxp : covers x pc = true) (hx13 : x.catchType = 13) (hx12 : x.handlerPc = 12) (hcast : (Cond.castable rq_N rq_N).before args s = true) (hdg : decode cc pc = .ok (.invokevirtual 7, 3))
    (kk : ∀ (a : Nat) (H1 : Heap), H.size ≤ H1.size → (∀ y : Nat, y < H.size → H1[y]? = H[y]?) → W p l e R s m args below meth c H1 locs (cells + 1) (slots + 6) Q (F0 m 12 ls [.ref a])) : W p l e R s m args below meth c H locs cells slots Q (F0 m pc ls st0) := by
  intro T hT X
  obtain ⟨cellB, hcB, hobj, hcls⟩ := hrc
  have hy : yX9_row.cls ≠ "java/lang/invoke/MethodHandle" ∧ yX9_row.cls ≠ "java/lang/invoke/VarHandle" := by decide +kernel
  have hcode := hts _ uC_X9_row
  obtain ⟨mk, methM, hnamed, hmethM, hstM, habM⟩ := Cond.instanceMethod_spec (hts _ uN_X9_row)
  obtain ⟨methM', cM, hmethM', hcM, -, hlM, -, -, -, hsigM⟩ := Cond.code_spec hnamed hcode
  cases hmethM.symm.trans hmethM'
  obtain ⟨c2, r2, m2, q1, q2, q3, q4, kP, hkP, hkPi⟩ := Cond.selects_spec (hts _ uS_X9_row)
  cases hcls.symm.trans q1
  cases (State.methodFound?_of_named hnamed hy).symm.trans q2
  cases hnamed.symm.trans q3
  have hselP : selectMethod e.platform s.vm cellB.cls mk = .method mk := by rw [Launch.admits_selectMethod X.admits]; exact q4
  have hsig1 : (parseMethodDescriptor yX9_row.desc).map (fun d => d.parameters.length) = some 1 := by decide +kernel
  have hlen : As.length = methM.sig.parameters.length := by
    rw [hsigM] at hsig1
    rw [hn]; exact (Option.some.inj hsig1).symm
  obtain ⟨vm₁, X₁, hstep₁⟩ := X.invokevirtual hexec hown (hts _ uM_L_7) hnamed hmethM hstM hkP hkPi hy (a := b) (cell := cellB) (by rw [hT]; exact hcB)
    (fun z h => by rw [h] at hobj; cases hobj) hselP hmethM habM hkP hkPi (g := F0 m pc ls st0) rfl (argsL := As) (rest := rest) hlen hst (by rw [hb]; exact hdg)
  have hinitY : ∃ kY, (T.setVm vm₁).vm.classes[mk.cls]? = some kY ∧ kY.init = .initialized := by
    have hn1 := X₁.named hnamed
    obtain ⟨kY, hkY, -⟩ := className_of_methodNamed hn1
    exact ⟨kY, hkY, Cond.initialized_spec (findClass_of_methodNamed hn1) hkY (word_at (args := args) (a' := args) X₁.warmed (uw_good (fun _ h => h) uI_X9).2 (hts _ uI_X9))⟩
  obtain ⟨kY, hkY, hiY⟩ := hinitY
  have hcode₁ : (Cond.code yX9_row cX9_row 2 (some .int)).before args (T.setVm vm₁) = true := word_at X₁.warmed (uw_good (fun _ h => h) uC_X9_row).2 hcode
  obtain ⟨methY, cY, hmY, hcY, -, hlY, -, -, -, -⟩ := Cond.code_spec (X₁.named hnamed) hcode₁
  have hpre : (headSpec wX9_row (oR 7 1 6)).pre.before (Value.ref b :: As).toArray (T.setVm vm₁) = true := atoms_intro (pay_in hts (fun w h => gV_L_7 (fun _ h => h) w (List.mem_append_right _ h)) · · _ _ X₁.warmed)
  have happ : (headSpec wX9_row (oR 7 1 6)).appliesLoose yX9_row e.platform ((T.setVm vm₁).calling (F0 m pc ls rest) mk (Value.ref b :: As).toArray) = true :=
    Spec.appliesLoose_calling (g := F0 m pc ls rest) X₁.here (by rw [hb]; exact hdg) (X₁.named hnamed) hkY hiY
      (X₁.room_calling (g := F0 m pc ls rest) (R' := (headSpec wX9_row (oR 7 1 6)).room) (hsz.trans hml.symm) hmY hcY hR.1 (by rw [hlY]; have := hR.2; have h9 : (headSpec wX9_row (oR 7 1 6)).room.locals = 700 := rfl; have h8 : 2 * (F0 m pc ls rest).monitorRoom + (rest.map fun v => v.category).sum ≤ 8 := hrm; have h7 : (F0 m pc ls rest).stack = rest := rfl; rw [h7]; omega) hf.1 hf.2) hpre
  obtain ⟨g₀, hfr0⟩ := X₁.frames_eq
  have hfr : ((T.setVm vm₁).setTop (F0 m pc ls rest)).frames = [.java (F0 m pc ls rest)] ++ below := by rw [State.frames_setTop _ hfr0]; rfl
  obtain ⟨o, s₂, hsteps, -, hend, cN, ce, rfl, hW₂, hsame, hfN, hce, hcc, hcv, hkeep⟩ := Steps.callFree hM p X₁.admits X₁.cas X₁.clock (acts := []) hfr happ (hblind _ _ (F0 m pc ls rest) mk (hP _ hT X₁.warmed)) trivial
  rw [hfr] at hend
  obtain ⟨T', X', -, -, hs₂⟩ := X₁.outOfThrown (g := F0 m pc ls rest) rfl (mk := mk) (a := (Value.ref b :: As).toArray) (L := []) (k := 1) (n := 6) hend hW₂ hsame
  have hH' : T'.heap = s₂.heap := by rw [hs₂]; exact (throwing_heap _ _ _).symm
  rw [List.append_nil] at X'
  have hfN' : s.vm.findClass rq_N = some cN := by
    have h1 : (T.setVm vm₁).vm.findClass rq_N = some cN := hfN
    rw [← X₁.warmed.alike.findClass]; exact h1
  obtain ⟨c3, c4, w1, w2, w3⟩ := Cond.castable_spec hcast
  cases hfN'.symm.trans w1
  cases hfN'.symm.trans w2
  obtain ⟨vm', X'', st⟩ := rq_caught X' _ (g := F0 m pc ls rest) rfl hown ht hxp (by rw [hx13]; decide) (by rw [hx13]; exact hts _ uL_L_13) hfN' (by rw [hH']; exact hce) (by rw [hcv]; rfl) (by rw [hcc]; exact w3)
  have h5 : T.heap.size ≤ s₂.heap.size := hsame.2.1
  have h6 : ∀ y : Nat, y < T.heap.size → s₂.heap[y]? = T.heap[y]? := hkeep
  rw [hT] at h5 h6
  obtain ⟨t, a1, b1⟩ := kk _ s₂.heap h5 h6 (T'.setVm vm') hH' X''
  refine ⟨t, hstep₁ _ fun acts => ?_, b1⟩
  rw [doInvoke_state]
  refine hsteps.trans ?_
  rw [hs₂]
  exact st _ (by rw [hx12]; exact a1)
end RQL
