/-! the throw of row: the exception's constructor (its pass is at entry ix, not at the usual one), traces off -/
def rq_N : String := "java/util/NoSuchElementException"
def rq_R : String := "java/lang/RuntimeException"
def rq_E : String := "java/lang/Exception"
def rq_A (own : String) (ic ix : Nat) (rx : ByteArray) : List Cond :=
  Bundle.throwableAtoms ++ Bundle.throwableSAtoms ++ Bundle.passSAtoms rq_N rq_R ix rx ++ Bundle.chainSAtoms rq_R [rq_E] ++
  [.methodLink own ic (Bundle.initS rq_N), .instantiable rq_N 6, .selects rq_N Bundle.tFill0 Bundle.tFill0, .selects rq_N Bundle.tFill Bundle.tFill,
   .lays rq_N Bundle.tN "cause" "Ljava/lang/Throwable;", .lays rq_N Bundle.tN "stackTrace" Bundle.steD, .lays rq_N Bundle.tN "suppressedExceptions" Bundle.listD, .lays rq_N Bundle.tN "detailMessage" "Ljava/lang/String;",
   .isRef (.static Bundle.tN "UNASSIGNED_STACK" Bundle.steD), .isRef (.static Bundle.tN "SUPPRESSED_SENTINEL" Bundle.listD),
   .fieldLink Bundle.tN 198 Bundle.tN "backtrace" "Ljava/lang/Object;", .lays Bundle.tN Bundle.tN "backtrace" "Ljava/lang/Object;", .lays rq_N Bundle.tN "backtrace" "Ljava/lang/Object;"]
section RQT
variable {p : Program} {l : Launch} {e : Env} {R : Room} {s : State} {m : MethodId} {args : Array Value} {below : List Frame} {meth : Method} {c : Code} {T : State} {locs : List Loc} {cells slots : Nat}
theorem rq_sel {own : String} {ic ix : Nat} {rx : ByteArray} (h : ∀ a ∈ rq_A own ic ix rx, a.before args s = true) {y : MethodName} (hy : Cond.selects rq_N y y ∈ rq_A own ic ix rx) (hn : y.cls ≠ "java/lang/invoke/MethodHandle" ∧ y.cls ≠ "java/lang/invoke/VarHandle") (hadm : l.admits e) {cN : ClassId} (hf : s.vm.findClass rq_N = some cN) {mf : MethodId} (hm : s.methodNamed? y = some mf) : selectMethod e.platform s.vm cN mf = .method mf := by
  obtain ⟨c2, r2, m2, q1, q2, q3, q4, -⟩ := Cond.selects_spec (h _ hy)
  cases Option.some.inj (q1.symm.trans hf)
  cases Option.some.inj (q2.symm.trans (State.methodFound?_of_named hm hn))
  cases Option.some.inj (q3.symm.trans hm)
  rw [Launch.admits_selectMethod hadm]; exact q4
set_option maxHeartbeats 1000000 in
theorem rq_throw (X : Stand p l e R s m args below meth c T locs cells slots) (hexec : p.tables.exec = Jvm.exec) (htr : e.platform.stackTraces = false) (hlocks : meth.locks = false) {own : String} {ic ix : Nat} {rx : ByteArray}
    (x0 : decode rx 0 = .ok (.aload_n 0, 1)) (x1 : decode rx 1 = .ok (.aload_n 1, 1)) (x2 : decode rx 2 = .ok (.invokespecial ix, 3)) (x5 : decode rx 5 = .ok (.return_, 1))
    (hown : s.vm.findClass own = some m.cls) (h : ∀ a ∈ rq_A own ic ix rx, a.before args s = true)
    (hlocs : ∀ x ∈ locs, ∀ cell, s.heap[x.base]? = some cell → cell.vm.isStatics = false)
    {a : Addr} {cN : ClassId} {kN : Class} (hfN : s.vm.findClass rq_N = some cN) (hkN : s.vm.classes[cN]? = some kN) (hcell : T.heap[a]? = some (freshCell cN kN)) (hnew : s.heap.size ≤ a) {msg : Value} (hmsg : msg.isRef = true)
    {g : JFrame} (hg : g.method = m) (hsize : g.locals.size = c.maxLocals) (hlocked : g.locked = none) (hentered : g.entered = []) {rest : List Value} (hstack : g.stack = msg :: .ref a :: .ref a :: rest)
    (hd6 : decode c.code g.pc = .ok (.invokespecial ic, 3)) (hd9 : decode c.code (g.pc + 3) = .ok (.athrow, 1)) (hout : ∀ x ∈ c.exceptionTable.toList, covers x (g.pc + 3) = false)
    (hRf : 6 ≤ R.frames) (hRl : 2 * g.monitorRoom + ((Value.ref a :: rest).map fun v => v.category).sum + 81 ≤ R.locals) :
    ∃ U : State, Steps p.tables e below (T.setTop g) U ∧ U.status = .running ∧ Ended U below (.threw a) ∧ s.WarmedH U.vm ∧ s.sameButNew ({ U with vm := s.vm } : State) locs cells slots ∧
      (∃ ce, U.heap[a]? = some ce ∧ ce.cls = cN ∧ ce.vm = .none) ∧ ∀ y : Nat, y ≠ a → U.heap[y]? = T.heap[y]? := by
  have howns : e.platform.frameOwnsMonitors = true := by rw [X.admits.platform]
  have hfin : e.platform.finalization = false := by rw [X.admits.platform]
  have hpl : e.platform.magicAccessors = ({} : Platform).magicAccessors := by rw [X.admits.platform]
  obtain ⟨Th, Z0, L, -, Y⟩ := ThrowableC.of_atoms (args := args) howns hfin hpl (fun x hx => h x (by simp [rq_A, hx]))
  obtain ⟨Z, M, LZ, LM, hnZ⟩ := Init0T.ofS_atoms (args := args) hpl L Y (fun x hx => h x (by simp [rq_A, hx]))
  obtain ⟨P1, L1, hP1m, hP1s⟩ := PassC.ofS_atoms (args := args) (s := s) hpl (X := rq_N) (Y := rq_R) (by decide) (by decide) x0 x1 x2 x5 (fun x hx => h x (by simp [rq_A, hx]))
  obtain ⟨P2, Ps, hlen, L2, hL, hP2m, hlink2, hlink⟩ := Bundle.chainS (args := args) hpl hnZ [rq_E] rq_R (by decide +kernel) (by decide +kernel) (fun x hx => h x (by simp [rq_A, hx]))
  have hsup : P1.sup = P2.m := Option.some.inj (hP1s.symm.trans hP2m)
  have hfound : s.vm.findClass rq_N = some P1.m.cls := findClass_of_methodNamed hP1m
  cases Option.some.inj (hfN.symm.trans hfound)
  obtain ⟨c1, kX', hc1, hk, hord, -, -, -⟩ := Cond.instantiable_spec (h (.instantiable rq_N 6) (by simp [rq_A]))
  cases Option.some.inj (hc1.symm.trans hfound)
  cases Option.some.inj (hkN.symm.trans hk)
  have hsel0 := rq_sel (l := l) (e := e) h (y := Bundle.tFill0) (by simp [rq_A]) (by decide) X.admits hfound Y.fill0
  have hselF := rq_sel (l := l) (e := e) h (y := Bundle.tFill) (by simp [rq_A]) (by decide) X.admits hfound Y.fill
  obtain ⟨cellS0, hcS0, hiss⟩ := Y.statics
  obtain ⟨u0, hu0⟩ := Cond.staticRefV Y.unassigned L.unassignedStatic L.statics hcS0 hiss (h (.isRef (.static Bundle.tN "UNASSIGNED_STACK" Bundle.steD)) (by simp [rq_A]))
  obtain ⟨sen, hsen⟩ := Cond.staticRefV Y.sentinel L.sentinelStatic L.statics hcS0 hiss (h (.isRef (.static Bundle.tN "SUPPRESSED_SENTINEL" Bundle.listD)) (by simp [rq_A]))
  obtain ⟨ci198, i198, fB, hk198, hg198, ha198, hsB, -, hnB, htB, hffB⟩ := Cond.ownField (t := .object "java/lang/Object") Y.found L.cls (by decide +kernel) (h (.fieldLink Bundle.tN 198 Bundle.tN "backtrace" "Ljava/lang/Object;") (by simp [rq_A])) (h (.lays Bundle.tN Bundle.tN "backtrace" "Ljava/lang/Object;") (by simp [rq_A])) e.platform hpl
  obtain ⟨cellS, hcS', heS, -, hkeep⟩ := X.same.2.2.2.2.2 Th.aS cellS0 hcS0
  have hcellS : T.heap[Th.aS]? = some cellS := hcS'
  have hout' : ∀ i, (⟨Th.aS, i⟩ : Loc) ∉ locs := fun i hmem => by
    have := hlocs _ hmem cellS0 hcS0
    rw [hiss] at this; cases this
  have hknownS : cellS.vm ≠ .unknown := by
    rw [heS]; intro hu
    rw [show cellS0.vm = .unknown from hu] at hiss
    cases hiss
  have hneS : Th.aS ≠ a := Nat.ne_of_lt (Nat.lt_of_lt_of_le (Array.getElem?_eq_some_iff.mp hcS0).1 hnew)
  obtain ⟨iM, hffM⟩ := Y.msg
  obtain ⟨tyC, dC, hdC, hdnC⟩ := Cond.laysAt hfound hk Y.cause (h (.lays rq_N Bundle.tN "cause" "Ljava/lang/Throwable;") (by simp [rq_A]))
  obtain ⟨tyS, dS, hdS, hdnS⟩ := Cond.laysAt hfound hk Y.stack (h (.lays rq_N Bundle.tN "stackTrace" Bundle.steD) (by simp [rq_A]))
  obtain ⟨tyP, dP, hdP, hdnP⟩ := Cond.laysAt hfound hk Y.supp (h (.lays rq_N Bundle.tN "suppressedExceptions" Bundle.listD) (by simp [rq_A]))
  obtain ⟨tyM, dM, hdM, hdnM⟩ := Cond.laysAt hfound hk hffM (h (.lays rq_N Bundle.tN "detailMessage" "Ljava/lang/String;") (by simp [rq_A]))
  obtain ⟨tyB, dB, hdB, hdnB⟩ := Cond.laysAt hfound hk hffB (h (.lays rq_N Bundle.tN "backtrace" "Ljava/lang/Object;") (by simp [rq_A]))
  have bC := Cond.laysApart hdB hdC hdnB hdnC (by rw [hnB, Y.causeName]; decide)
  have bS := Cond.laysApart hdB hdS hdnB hdnS (by rw [hnB, Y.stackName]; decide)
  have bP := Cond.laysApart hdB hdP hdnB hdnP (by rw [hnB, Y.suppName]; decide)
  have hskip : SkipFacts Th e.platform s (fun u => u) u0 ((preparedCellV Th.toThrowableT (freshCell P1.m.cls kN) a u0 sen).withEntry T.cur) :=
    ⟨{ ci198 := ci198, i198 := i198, fBack := fB }, ⟨hk198, hg198, ha198, hsB⟩, by
      have := fresh_default (c := P1.m.cls) tyB
      rw [htB] at this
      simpa [preparedCellV, Cell.setSlot, Cell.withEntry, Array.getElem?_setIfInBounds, bC, bS, bP, bC.symm, bS.symm, bP.symm, defaultValue] using this, fun _ _ => rfl⟩
  obtain ⟨tm, methC, cdC, kC, vm₁, hnC, -, -, -, -, -, -, -, hW₁, st1⟩ := Steps.initColdS (tb := p.tables) (e := e) (below := below) (s := s) (U := T) X.here hexec X.warmed hpl hown (t := Bundle.initS rq_N) rfl rfl (by decide)
    (h (.methodLink own ic (Bundle.initS rq_N)) (by simp [rq_A])) (h (.instanceMethod (Bundle.initS rq_N)) (by simp [rq_A, Bundle.passSAtoms])) (bytes := rx) (maxL := 2) (h (.code (Bundle.initS rq_N) rx 2 none) (by simp [rq_A, Bundle.passSAtoms]))
    (f := g) hg (a := a) (msg := msg) (rest := .ref a :: rest) hstack hd6
  cases Option.some.inj (hnC.symm.trans hP1m)
  have X₁ := X.noted hW₁
  obtain ⟨vm₂, X₂, st2⟩ := X₁.ctorMessageOffV hexec (g := { g with stack := .ref a :: rest }) hg hsize Th L Z LZ M LM (P1 :: P2 :: Ps)
    (fun P hP => by
      rcases List.mem_cons.mp hP with rfl | hP
      · exact L1
      · rcases List.mem_cons.mp hP with rfl | hP
        · exact L2
        · exact hL P hP) ⟨hsup, hlink2, hlink⟩ (u0 := u0) (sen := sen) (self := a) hmsg (cell := freshCell P1.m.cls kN) (cellS := cellS)
    hcell (fun _ => by simp) (by simp) rfl rfl hsel0 hselF hcellS hneS hknownS (by rw [hkeep _ (hout' _)]; exact hu0) (by rw [hkeep _ (hout' _)]; exact hsen)
    (Takes.of_laid hk hord tyC (by rw [Y.causeType]; rfl)) (Takes.of_laid hk hord tyS (by rw [Y.stackType]; exact fits_refV_array _ u0)) (Takes.of_laid hk hord tyP (by rw [Y.suppType]; exact fits_refV_object _ sen))
    (Takes.of_laid hk hord tyM (by rw [Y.msgType]; exact fits_refV_object _ ⟨msg, hmsg⟩)) Y.objLocals hskip htr [] hd6
    (by simp only [List.length_cons, hlen, List.length_nil]; omega) (by simp only [List.length_cons, hlen, List.length_nil]; exact hRl)
  obtain ⟨hwalk, hrun, hended, hWU, hsame⟩ := X₂.athrowLeaves hexec (g := { g with stack := .ref a :: rest, pc := g.pc + 3 }) hg hlocked hentered hout (a := a) (rest := rest) rfl hd9 hlocks
  have hlt : a < ((T.setVm vm₁).setVm vm₂).heap.size := (Array.getElem?_eq_some_iff.mp hcell).1
  have hU := heapAt_setCell_self (s := (T.setVm vm₁).setVm vm₂) (plainBareV Th.toThrowableT (freshCell P1.m.cls kN) a u0 sen msg) hlt
  refine ⟨_, st1 _ (fun acts => ?_), hrun, hended, hWU, hsame.weaken (fun y hy hlt' => ?_) (Nat.le_refl _) (Nat.le_refl _), ⟨_, hU, rfl, rfl⟩, fun y hy => ?_⟩
  · rw [doInvoke_state]
    exact st2 _ hwalk
  · rcases List.mem_append.mp hy with h1 | h1
    · exact h1
    · exfalso
      have hb : y.base = a := by
        simp only [List.mem_cons, List.not_mem_nil, or_false] at h1
        rcases h1 with rfl | rfl | rfl | rfl | rfl <;> rfl
      rw [hb] at hlt'
      exact Nat.not_lt.mpr hnew hlt'
  · exact State.heap_setCell_other (s := (T.setVm vm₁).setVm vm₂) (Ne.symm hy)
end RQT
