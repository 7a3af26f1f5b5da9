/-! caught: the catch type's entry cold or warm (one entry in the table) -/
section RQC
variable {p : Program} {l : Launch} {e : Env} {R : Room} {s : State} {m : MethodId} {args : Array Value} {below : List Frame} {meth : Method} {c : Code} {T : State} {locs : List Loc} {cells slots : Nat}
theorem rq_caught (X : Stand p l e R s m args below meth c T locs cells slots) (a : Addr) {g : JFrame} (hg : g.method = m) {own : String} (hown : s.vm.findClass own = some m.cls) {x : ExceptionTableEntry} (ht : c.exceptionTable.toList = [x]) (hx : covers x g.pc = true) (h0 : x.catchType ≠ 0)
    (hlink : (Cond.classLink own x.catchType rq_N).before args s = true) {cN : ClassId} {cell : Cell} (hcN : s.vm.findClass rq_N = some cN) (hcell : T.heap[a]? = some cell) (hobj : cell.vm.isStatics = false) (hfit : s.vm.assignable cell.cls cN = true) :
    ∃ vm', Stand p l e R s m args below meth c (T.setVm vm') locs cells slots ∧ ∀ target, Steps p.tables e below ((T.setVm vm').setTop { g with pc := x.handlerPc, stack := [.ref a] }) target → Steps p.tables e below ((T.setTop g).pushFrame (.throwing a)) target := by
  subst hg
  obtain ⟨c', hc', hcl⟩ := Cond.classLink_spec hown hlink e.platform (by rw [X.admits.platform])
  cases hcN.symm.trans hc'
  obtain ⟨dk, _, _, kN, hd, _, _, _, _, hkN, _, hopen⟩ := hcl.here
  have hal := X.warmed.alike
  -- the tables once the entry is noted
  generalize hvm : T.vm.noted g.method.cls x.catchType (.cls cN) = vm'
  have hW' : s.WarmedH vm' := by rw [← hvm]; exact X.warmed.noted hd hopen (State.rightAt_cls hcl)
  have hal' : T.vm.Alike vm' := hal.symm.trans hW'.alike
  have hft : T.vm.assignable cell.cls cN = true := by rw [hal.assignable]; exact hfit
  obtain ⟨k2, hk2, -⟩ := hal.2.2 _ _ hkN
  obtain ⟨k1, hk1⟩ := Vm.classAt_of_assignable hft ⟨k2, hk2⟩
  obtain ⟨k1', hk1', -⟩ := hal'.2.2 _ _ hk1
  obtain ⟨k2', hk2', -⟩ := hal'.2.2 _ _ hk2
  have hft' : vm'.assignable cell.cls cN = true := by rw [hal'.assignable]; exact hft
  have hst : ∀ k, cell.vm ≠ .statics k := fun k hk => by rw [hk] at hobj; cases hobj
  refine ⟨vm', X.noted hW', fun target hrest => ?_⟩
  generalize hV : (T.setTop g).pushFrame (.throwing a) = V
  have hVvm : V.vm = T.vm := by rw [← hV]; exact throwing_vm _ _ _
  have hVh : V.heap[a]? = some cell := by rw [← hV, throwing_heap]; exact hcell
  -- what the search answers there
  have find : ∀ (Q : Handler → Pre) (E : CtlPost) (d : Bool) (acts : List Action), wp (findHandler g a) Q E e d acts V ↔ Q (.found x.handlerPc) d acts (V.setVm vm') := by
    intro Q E d acts
    have hm : V.vm.method? g.method = some meth := by rw [hVvm]; exact X.method'
    have hlV : V.vm.ClassLinks e.platform g.method.cls x.catchType cN := by rw [hVvm]; exact X.warmed.classLinks hcl
    obtain ⟨r1, r2⟩ := (resolveClass_links e.toSetting hlV).op (op := VmOp.resolveClass g.method.cls x.catchType) rfl
    have hn : V.vm.noted g.method.cls x.catchType (.cls cN) = vm' := by rw [hVvm]; exact hvm
    have f1 : (V.vm.noted g.method.cls x.catchType (.cls cN)).classes[cell.cls]? = some k1' := by rw [hn]; exact hk1'
    have f2 : (V.vm.noted g.method.cls x.catchType (.cls cN)).classes[cN]? = some k2' := by rw [hn]; exact hk2'
    have f3 : (V.vm.noted g.method.cls x.catchType (.cls cN)).assignable cell.cls cN = true := by rw [hn]; exact hft'
    simp only [covers] at hx
    rw [W.findHandler_eq hm X.code, ht, ← hn]
    simp [findHandler.go, hx, h0, r1, r2, hVh, hst, f1, f2, f3, VmOp.dirties, VmOp.acts]
  have one : (stepThrowing e V a (.java g :: below)).1 = (V.setVm vm').setFrames (.java { g with pc := x.handlerPc, stack := [.ref a] } :: below) := by
    simp only [stepThrowing, searchFrame, vmDo]
    generalize hr : Sem.go _ e false [] V = res
    obtain ⟨as, rfl, -⟩ := Sem.eq_ok_of hr (a := Handler.found x.handlerPc) (s' := V.setVm vm') (acts' := []) (by simp [find _ _ _ _])
    rfl
  obtain ⟨g₀, hfr⟩ := X.frames_eq
  obtain ⟨hgo, hw⟩ := X.here.throwing a (g := g)
  rw [hV] at hgo hw
  refine Steps.head hgo hw ?_
  have hfV : V.frames = .throwing a :: .java g :: below := by
    rw [← hV, frames_entered X.here.top, hfr]; rfl
  rw [stepThread_throwing hfV, one, ← hV]
  have hr' : (T.setVm vm').frames = .java g₀ :: below := hfr
  rw [State.setTop_of_frames _ hr'] at hrest
  have same : (((T.setTop g).pushFrame (.throwing a)).setVm vm').setFrames (.java { g with pc := x.handlerPc, stack := [.ref a] } :: below) = (T.setVm vm').setFrames (.java { g with pc := x.handlerPc, stack := [.ref a] } :: below) := by
    rw [State.pushFrame, State.setTop_of_frames _ hfr, State.setFrames_setFrames]
    rw [show ∀ F : List Frame, (T.setFrames F).setVm vm' = (T.setVm vm').setFrames F from fun _ => rfl, State.setFrames_setFrames]
  rw [same]
  exact hrest
end RQC
