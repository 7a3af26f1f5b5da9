/-! an array of arrays: 8 rows of 704 whole numbers, made at one stroke -/
def mInn (comp : ClassId) : Cell := { cls := comp, slots := Array.replicate 704 (.int 0), vm := .none }
def mOut (c : ClassId) (a i : Nat) : Cell := { cls := c, slots := Array.ofFn (n := 8) (fun j => if j.1 < i then Value.ref (a + 1 + j.1) else Value.null), vm := .none }
def mSt (s : State) (c comp : ClassId) : Nat → State
  | 0 => s.pushCell (mOut c s.heap.size 0)
  | i + 1 => ((mSt s c comp i).pushCell (mInn comp)).setCell s.heap.size (mOut c s.heap.size (i + 1))
theorem mOut_0 (c : ClassId) (a : Nat) : mOut c a 0 = { cls := c, slots := Array.replicate 8 Value.null, vm := .none } := by
  unfold mOut
  congr 1
theorem mOut_set (c : ClassId) (a : Nat) {i : Nat} (hi : i < 8) : (mOut c a i).setSlot i (.ref (a + 1 + i)) = mOut c a (i + 1) := by
  unfold mOut Cell.setSlot
  congr 1
  apply Array.ext_getElem?
  intro j
  show ((Array.ofFn (n := 8) (fun j => if j.1 < i then Value.ref (a + 1 + j.1) else Value.null)).setIfInBounds i (Value.ref (a + 1 + i)))[j]? = _
  rw [Array.getElem?_setIfInBounds, Array.getElem?_ofFn, Array.getElem?_ofFn, Array.size_ofFn]
  by_cases e : i = j
  · subst e
    rw [if_pos rfl, if_pos hi, dif_pos hi, if_pos (by show i < i + 1; omega)]
  · rw [if_neg e]
    by_cases q : j < 8
    · rw [dif_pos q, dif_pos q]
      by_cases q2 : j < i
      · rw [if_pos q2, if_pos (by show j < i + 1; omega)]
      · rw [if_neg q2, if_neg (by show ¬ j < i + 1; omega)]
    · rw [dif_neg q, dif_neg q]
theorem mSt_top (s : State) (f : JFrame) (c comp : ClassId) : ∀ i, mSt (s.setTop f) c comp i = (mSt s c comp i).setTop f
  | 0 => rfl
  | i + 1 => by rw [mSt, mSt_top s f c comp i]; rfl
theorem mSt_facts (s : State) (c comp : ClassId) : ∀ i, i ≤ 8 → (mSt s c comp i).heap.size = s.heap.size + 1 + i ∧ (mSt s c comp i).vm = s.vm ∧ (mSt s c comp i).slotsUsed = s.slotsUsed + 8 + 704 * i ∧ (mSt s c comp i).heap[s.heap.size]? = some (mOut c s.heap.size i) ∧ (∀ q : Nat, q < s.heap.size → (mSt s c comp i).heap[q]? = s.heap[q]?) ∧ ∀ j, j < i → (mSt s c comp i).heap[s.heap.size + 1 + j]? = some (mInn comp)
  | 0, _ => by
    refine ⟨by simp [mSt], rfl, ?_, ?_, fun q hq => ?_, fun j hj => absurd hj (Nat.not_lt_zero _)⟩
    · show s.slotsUsed + (mOut c s.heap.size 0).slots.size = _
      simp [mOut]
    · show (s.heap.push _)[s.heap.size]? = _
      exact Array.getElem?_push_size
    · show (s.heap.push _)[q]? = _
      rw [Array.getElem?_push, if_neg (Nat.ne_of_lt hq)]
  | i + 1, hi => by
    obtain ⟨h1, h2, h3, h4, h5, h6⟩ := mSt_facts s c comp i (by omega)
    have hsz : ((mSt s c comp i).pushCell (mInn comp)).heap.size = s.heap.size + 1 + (i + 1) := by
      show ((mSt s c comp i).heap.push _).size = _
      rw [Array.size_push, h1]; omega
    have hp : ∀ q : Nat, q < s.heap.size + 1 + i → ((mSt s c comp i).pushCell (mInn comp)).heap[q]? = (mSt s c comp i).heap[q]? := fun q hq => by
      show ((mSt s c comp i).heap.push _)[q]? = _
      rw [Array.getElem?_push, if_neg (by omega)]
    have hne : ∀ q : Nat, q ≠ s.heap.size → (mSt s c comp (i + 1)).heap[q]? = ((mSt s c comp i).pushCell (mInn comp)).heap[q]? := fun q hq => by
      show (((mSt s c comp i).pushCell (mInn comp)).heap.setIfInBounds s.heap.size _)[q]? = _
      rw [Array.getElem?_setIfInBounds, if_neg (Ne.symm hq)]
    refine ⟨?_, h2, ?_, ?_, fun q hq => ?_, fun j hj => ?_⟩
    · show (((mSt s c comp i).pushCell (mInn comp)).heap.setIfInBounds s.heap.size _).size = _
      rw [Array.size_setIfInBounds]; exact hsz
    · show (mSt s c comp i).slotsUsed + (mInn comp).slots.size = _
      rw [h3]
      show s.slotsUsed + 8 + 704 * i + (Array.replicate 704 (Value.int 0)).size = _
      rw [Array.size_replicate]; omega
    · show (((mSt s c comp i).pushCell (mInn comp)).heap.setIfInBounds s.heap.size _)[s.heap.size]? = _
      rw [Array.getElem?_setIfInBounds, if_pos rfl, if_pos (by rw [hsz]; omega)]
    · rw [hne q (by omega), hp q (by omega)]; exact h5 q hq
    · rw [hne _ (by omega)]
      by_cases e : j = i
      · subst e
        show ((mSt s c comp j).heap.push _)[s.heap.size + 1 + j]? = _
        rw [← h1]; exact Array.getElem?_push_size
      · rw [hp _ (by omega)]; exact h6 j (by omega)
section XMU
variable {E : CtlPost} {e : Env} {d : Bool} {acts : List Action} {s : State} {f : JFrame}
theorem mu_inner {comp comp2 : ClassId} {kc : Class} {Q : Addr → Pre} (hk : s.vm.classes[comp]? = some kc) (hkind : kc.kind = .array comp2 .int) (hlimit : ¬ 704 > e.platform.arrayLengthLimit) (hheap : ¬ 704 * componentBytes .int > e.platform.maxHeapBytes) (h1 : s.heap.size < e.platform.maxCells) (h2 : s.slotsUsed + 704 ≤ e.platform.maxSlots) (hq : ∀ acts', Q s.heap.size d acts' (s.pushCell (mInn comp))) : wp (Op.multianewarray.make comp [(704 : Int32)]) Q E e d acts s := by
  have hfit : ∀ i v, (Array.replicate 704 (Value.int 0))[i]? = some v → s.fitsSlot comp .none i v = true := by
    intro i v hv
    simp only [Array.getElem?_replicate] at hv
    split at hv
    · cases hv; simp [State.fitsSlot, State.slotType?, hk, hkind, fits]
    · cases hv
  have hc : (704 : Int32).toNatClampNeg = 704 := by decide
  have hn : ¬ (704 : Int32) < 0 := by decide
  have hsl : ¬ 704 > e.platform.maxSlots := by omega
  simp only [Op.multianewarray.make, wp_bind', W.ite, hn, if_false, wp_pure', W.theClass, hk, Option.some.injEq, exists_eq_left', hkind, hc, Jvm.newArray, Jvm.arrayFits, W.ask, hlimit, hheap, hsl, W.alloc, defaultValue, Array.size_replicate]
  exact ⟨h1, h2, hfit, hq _⟩
set_option maxHeartbeats 1000000 in
theorem mu_make {c comp comp2 : ClassId} {k kc : Class} {Q : Addr → Pre} (hk : s.vm.classes[c]? = some k) (hkind : k.kind = .array comp (.array .int)) (hkc : s.vm.classes[comp]? = some kc) (hkindc : kc.kind = .array comp2 .int) (hlimit : ¬ 704 > e.platform.arrayLengthLimit) (hheap : ¬ 704 * componentBytes .int > e.platform.maxHeapBytes) (hheap8 : ¬ 8 * componentBytes (.array .int) > e.platform.maxHeapBytes) (h1 : s.heap.size + 9 ≤ e.platform.maxCells) (h2 : s.slotsUsed + 5640 ≤ e.platform.maxSlots) (hq : ∀ d' acts', Q s.heap.size d' acts' (mSt s c comp 8)) : wp (Op.multianewarray.make c [(8 : Int32), 704]) Q E e d acts s := by
  have hfit : ∀ i v, (Array.replicate 8 Value.null)[i]? = some v → s.fitsSlot c .none i v = true := by
    intro i v hv
    simp only [Array.getElem?_replicate] at hv
    split at hv
    · cases hv; simp [State.fitsSlot, State.slotType?, hk, hkind, fits]
    · cases hv
  have hc : (8 : Int32).toNatClampNeg = 8 := by decide
  have hn : ¬ (8 : Int32) < 0 := by decide
  have h0 : ((8 : Int32) == 0) = false := by decide
  have hl8 : ¬ 8 > e.platform.arrayLengthLimit := by omega
  have hsl : ¬ 8 > e.platform.maxSlots := by omega
  rw [Op.multianewarray.make]
  simp only [wp_bind', W.ite, hn, if_false, wp_pure', W.theClass, hk, Option.some.injEq, exists_eq_left', hkind, hc, Jvm.newArray, Jvm.arrayFits, W.ask, hl8, hheap8, hsl, W.alloc, Array.size_replicate, h0, Bool.false_eq_true, Std.Legacy.Range.forIn_eq_forIn_range']
  refine ⟨by omega, by omega, hfit, ?_⟩
  rw [← mOut_0 c s.heap.size]
  refine wp_forIn_inv (fun rest s' => ∃ i, i ≤ 8 ∧ rest = List.range' i (8 - i) ∧ s' = mSt s c comp i) _ _ ⟨0, by omega, rfl, rfl⟩ ?_ ?_
  · rintro x rest s' d' acts' Q' ⟨i, hi, hr, rfl⟩ hQ'
    have hlt : i < 8 := by
      rcases Nat.lt_or_ge i 8 with q | q
      · exact q
      · have : 8 - i = 0 := by omega
        rw [this] at hr
        cases hr
    have hr2 : x = i ∧ rest = List.range' (i + 1) (8 - (i + 1)) := by
      rw [show 8 - i = (8 - (i + 1)) + 1 by omega, List.range'_succ] at hr
      cases hr
      exact ⟨rfl, rfl⟩
    obtain ⟨rfl, hrest⟩ := hr2
    obtain ⟨g1, g2, g3, g4, g5, g6⟩ := mSt_facts s c comp x (by omega)
    simp only [wp_bind']
    refine mu_inner (comp2 := comp2) (kc := kc) (by rw [g2]; exact hkc) hkindc hlimit hheap (by rw [g1]; omega) (by rw [g3]; omega) (fun acts2 => ?_)
    have hcell : ((mSt s c comp x).pushCell (mInn comp)).heap[s.heap.size]? = some (mOut c s.heap.size x) := by
      show ((mSt s c comp x).heap.push _)[s.heap.size]? = _
      rw [Array.getElem?_push, if_neg (by omega)]; exact g4
    rw [wp_bind']
    refine (Jvm.W.writeLoc _ _ _ _).mpr ⟨_, hcell, by simp [mOut], by simp [mOut]; exact hlt, ?_, ?_⟩
    · have hk2 : (mSt s c comp x).vm.classes[c]? = some k := by rw [g2]; exact hk
      simp [State.fitsSlot, State.slotType?, mOut, hk2, hkind, fits]
    · rw [wp_pure']
      refine hQ' _ _ _ ⟨x + 1, by omega, hrest, ?_⟩
      rw [mSt, g1, ← mOut_set c s.heap.size hlt]
  · rintro s' d' acts' ⟨i, hi, hr, rfl⟩
    have : i = 8 := by
      rcases Nat.lt_or_ge i 8 with q | q
      · rw [show 8 - i = (8 - (i + 1)) + 1 by omega, List.range'_succ] at hr
        cases hr
      · omega
    subst this
    exact hq _ _
theorem mu_wp {c comp comp2 : ClassId} {k kc : Class} {index : Nat} {Q : Unit → Pre} {rest : List Value} (hs : s.topJava?.isSome) (hr : s.vm.classReady f.method.cls index c) (hstack : f.stack = .int 704 :: .int 8 :: rest) (hk : s.vm.classes[c]? = some k) (hkind : k.kind = .array comp (.array .int)) (hkc : s.vm.classes[comp]? = some kc) (hkindc : kc.kind = .array comp2 .int) (hlimit : ¬ 704 > e.platform.arrayLengthLimit) (hheap : ¬ 704 * componentBytes .int > e.platform.maxHeapBytes) (hheap8 : ¬ 8 * componentBytes (.array .int) > e.platform.maxHeapBytes) (h1 : s.heap.size + 9 ≤ e.platform.maxCells) (h2 : s.slotsUsed + 5640 ≤ e.platform.maxSlots) (hq : ∀ d' acts', Q () d' acts' ((mSt s c comp 8).setTop { f with stack := .ref s.heap.size :: rest })) : wp (Op.multianewarray.sem index 2) Q E e d acts (s.setTop f) := by
  have hst : f.stack = ([.int 8, .int 704] : List Value).reverse ++ rest := hstack
  simp only [Op.multianewarray.sem, wp_bind', Jvm.W.resolveClassAt_ready (State.method?_setTop f hs) hr]
  rw [show (2 : Nat) = ([.int 8, .int 704] : List Value).length from rfl, Op.popN_top hs hst]
  simp only [List.mapM_cons, List.mapM_nil, wp_bind', wp_pure']
  refine mu_make (comp2 := comp2) (k := k) (kc := kc) (s := s.setTop { f with stack := rest }) hk hkind hkc hkindc hlimit hheap hheap8 h1 h2 (fun d' acts' => ?_)
  rw [mSt_top]
  have ht : (mSt s c comp 8).topJava?.isSome := by
    have : ∀ i, (mSt s c comp i).topJava? = s.topJava? := by
      intro i
      induction i with
      | zero => rfl
      | succ i ih => exact ih
    rw [this]; exact hs
  rw [wp_bind']
  refine (Jvm.W.mark _).mpr ?_
  refine (Jvm.W.pushRef _).mpr ⟨_, State.topJava?_setTop' _ ht, ?_⟩
  rw [State.setTop_setTop]
  exact hq _ _
end XMU
section XMW
variable {p : Program} {l : Launch} {e : Env} {R : Room} {s : State} {m : MethodId} {args : Array Value} {below : List Frame} {meth : Method} {c : Code} {H : Heap} {locs : List Loc} {cells slots : Nat} {Q : State → Prop}
theorem mu_stand {T : State} (X : Stand p l e R s m args below meth c T locs cells slots) (cA comp : ClassId) : ∀ i, i ≤ 8 → Stand p l e R s m args below meth c (mSt T cA comp i) (locs ++ (List.range i).map (fun j => (⟨T.heap.size, j⟩ : Loc))) (cells + 1 + i) (slots + 8 + 704 * i)
  | 0, _ => by
    have h := X.pushed (mOut cA T.heap.size 0)
    have e1 : (mOut cA T.heap.size 0).slots.size = 8 := by simp [mOut]
    rw [e1] at h
    simpa [mSt] using h
  | i + 1, hi => by
    have h := (mu_stand X cA comp i (by omega)).pushed (mInn comp)
    have e1 : (mInn comp).slots.size = 704 := by simp [mInn]
    rw [e1] at h
    obtain ⟨g1, g2, g3, g4, g5, g6⟩ := mSt_facts T cA comp i (by omega)
    have hcell : ((mSt T cA comp i).pushCell (mInn comp)).heap[T.heap.size]? = some (mOut cA T.heap.size i) := by
      show ((mSt T cA comp i).heap.push _)[T.heap.size]? = _
      rw [Array.getElem?_push, if_neg (by omega)]; exact g4
    have h2 := h.stored hcell i (.ref (T.heap.size + 1 + i))
    rw [mOut_set cA T.heap.size (by omega)] at h2
    have e2 : locs ++ (List.range (i + 1)).map (fun j => (⟨T.heap.size, j⟩ : Loc)) = locs ++ (List.range i).map (fun j => (⟨T.heap.size, j⟩ : Loc)) ++ [⟨T.heap.size, i⟩] := by
      rw [List.range_succ, List.map_append, List.append_assoc]; rfl
    rw [e2, show cells + 1 + (i + 1) = cells + 1 + i + 1 by omega, show slots + 8 + 704 * (i + 1) = slots + 8 + 704 * i + 704 by omega]
    exact h2
theorem W.multi {cc : ByteArray} (hexec : p.tables.exec = Jvm.exec) (hb : c.code = cc) {own : String} {index : Nat} (hown : s.vm.findClass own = some m.cls) (hclink : (Cond.classLink own index "[[I").before args s = true) {cA comp comp2 : ClassId} {kA kc : Class} (hcA : s.vm.findClass "[[I" = some cA) (hkA : s.vm.classes[cA]? = some kA) (hkindA : kA.kind = .array comp (.array .int)) (hkc : s.vm.classes[comp]? = some kc) (hkindc : kc.kind = .array comp2 .int)
    {g : JFrame} (hg : g.method = m) (hdg : decode cc g.pc = .ok (.multianewarray index 2, 4)) {rest : List Value} (hstack : g.stack = .int 704 :: .int 8 :: rest) (hcells : cells + 9 ≤ R.cells) (hslots : slots + 5640 ≤ R.slots)
    (kk : ∀ (H1 : Heap), H1.size = H.size + 9 → H1[H.size]? = some (mOut cA H.size 8) → (∀ q : Nat, q < H.size → H1[q]? = H[q]?) → (∀ j, j < 8 → H1[H.size + 1 + j]? = some (mInn comp)) →
      W p l e R s m args below meth c H1 (locs ++ (List.range 8).map (fun j => (⟨H.size, j⟩ : Loc))) (cells + 9) (slots + 5640) Q { g with pc := g.pc + 4, stack := .ref H.size :: rest }) : W p l e R s m args below meth c H locs cells slots Q g := by
  intro T hT X
  subst hT; subst hb; subst hg
  have hpl : e.platform.magicAccessors = ({} : Platform).magicAccessors := by rw [X.admits.platform]
  obtain ⟨cc', hfcc, hcl⟩ := Cond.classLink_spec hown hclink e.platform hpl
  cases hcA.symm.trans hfcc
  obtain ⟨hg₁, hwarm₁, hready₁⟩ := State.classEntry (e := e) X.warmed hcl
  generalize T.vm.noted g.method.cls index (.cls cA) = vm₁ at hg₁ hwarm₁ hready₁
  have hal : s.vm.Alike vm₁ := hwarm₁.alike
  obtain ⟨kA₁, hkA₁, heA⟩ := hal.2.2 _ _ hkA
  have hkindA₁ : kA₁.kind = .array comp (.array .int) := by rw [heA]; exact hkindA
  obtain ⟨kc₁, hkc₁, heC⟩ := hal.2.2 _ _ hkc
  have hkindc₁ : kc₁.kind = .array comp2 .int := by rw [heC]; exact hkindc
  have hlimit : ¬ 704 > e.platform.arrayLengthLimit := by rw [Launch.admits_arrayLengthLimit X.admits]; omega
  have hheap : ¬ 704 * componentBytes .int > e.platform.maxHeapBytes := by rw [Launch.admits_maxHeapBytes X.admits]; decide
  have hheap8 : ¬ 8 * componentBytes (.array .int) > e.platform.maxHeapBytes := by rw [Launch.admits_maxHeapBytes X.admits]; decide
  have X₁ := X.noted hwarm₁
  have X₂ := mu_stand X₁ cA comp 8 (Nat.le_refl _)
  obtain ⟨g1, g2, g3, g4, g5, g6⟩ := mSt_facts (T.setVm vm₁) cA comp 8 (Nat.le_refl _)
  obtain ⟨t', a1, b1⟩ := kk (mSt (T.setVm vm₁) cA comp 8).heap g1 g4 g5 g6 _ rfl X₂
  refine ⟨t', ?_, b1⟩
  refine Steps.instr (c := _) X.here ?_
  rw [hdg]
  show wpRun (p.tables.exec (.multianewarray index 2)) _ _ e (T.setTop g)
  rw [hexec]
  show wp (Op.multianewarray.sem index 2) _ _ e false [] (T.setTop g)
  have hcold : ∀ {Q : Unit → Pre} {E : CtlPost} {d : Bool} {acts : List Action}, wp (Op.multianewarray.sem index 2) Q E e d acts (T.setTop g) ↔ wp (Op.multianewarray.sem index 2) Q E e d acts ((T.setVm vm₁).setTop g) := by
    intro Q E d acts
    simp only [Op.multianewarray.sem, wp_bind']
    exact Jvm.W.resolveClassAt_transfer (s := T.setTop g) (State.method?_setTop g X.here.top) hg₁ hready₁
  rw [hcold]
  obtain ⟨hr1, hr2⟩ := X.roomAbove (a := 9) (b := 5640) hcells hslots
  refine mu_wp (s := T.setVm vm₁) (comp2 := comp2) (k := kA₁) (kc := kc₁) X.here.top hready₁ hstack hkA₁ hkindA₁ hkc₁ hkindc₁ hlimit hheap hheap8 hr1 hr2 (fun d' acts' => ?_)
  intro acts
  simp only [afterInstr_ok]
  exact a1
end XMW
