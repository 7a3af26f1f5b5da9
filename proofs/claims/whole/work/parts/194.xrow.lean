/-! what the throw needs of the tables and of the heap, carried from the law's start into the calls -/
def rq_rx : ByteArray := prog_30_method_4_code
def rq_B : List Cond :=
  Bundle.throwableAtoms ++ Bundle.throwableSAtoms ++ Bundle.passSAtoms rq_N rq_R 13 rq_rx ++ Bundle.chainSAtoms rq_R [rq_E] ++
  [.methodLink "RiverFeet" 379 (Bundle.initS rq_N), .instantiable rq_N 6, .selects rq_N Bundle.tFill0 Bundle.tFill0, .selects rq_N Bundle.tFill Bundle.tFill,
   .lays rq_N Bundle.tN "cause" "Ljava/lang/Throwable;", .lays rq_N Bundle.tN "stackTrace" Bundle.steD, .lays rq_N Bundle.tN "suppressedExceptions" Bundle.listD, .lays rq_N Bundle.tN "detailMessage" "Ljava/lang/String;",
   .fieldLink Bundle.tN 198 Bundle.tN "backtrace" "Ljava/lang/Object;", .lays Bundle.tN Bundle.tN "backtrace" "Ljava/lang/Object;", .lays rq_N Bundle.tN "backtrace" "Ljava/lang/Object;"]
theorem rq_B_in : ∀ w ∈ rq_B, w ∈ lw_tbl := by decide +kernel
def rq_k : Cond → Bool
  | .declares _ => true
  | .laysStatic .. => true
  | _ => false
theorem rq_B_k : rq_B.all (fun w => goodWord w || rq_k w) = true := by decide +kernel
def rq_S : List (String × String) := [("UNASSIGNED_STACK", Bundle.steD), ("SUPPRESSED_SENTINEL", Bundle.listD)]
/-- U has come from s0: warmer tables, the cells of s0 as they were -/
def rK (s0 U : State) : Prop := s0.WarmedH U.vm ∧ ∀ q : Nat, q < s0.heap.size → U.heap[q]? = s0.heap[q]?
/-- what is known at s0 -/
def rF (s0 : State) : Prop := ∃ a0 : Array Value, (∀ w ∈ lw_tbl, w.before a0 s0 = true) ∧ ∀ q ∈ rq_S, (Cond.isRef (.static Bundle.tN q.1 q.2)).before a0 s0 = true
theorem rq_ls {s0 U : State} (h : rK s0 U) {a a' : Array Value} {C n d : String} (hl : (Cond.laysStatic C n d).before a s0 = true) : (Cond.laysStatic C n d).before a' U = true := by
  have h2 := Cond.laysStatic_setVm h.1.alike hl
  obtain ⟨c, k, i, f, b, cell, hc, hi, hst, hb, hcell, hs, hcls, hlt, hty⟩ := Cond.laysStatic_spec h2
  exact Cond.laysStatic_of (s := U) hc hi hst hb ((h.2 b (Array.getElem?_eq_some_iff.mp hcell).1).trans hcell) hs hcls hlt hty
theorem rq_word {s0 U : State} (h0 : rF s0) (h : rK s0 U) {a' : Array Value} {w : Cond} (hw : w ∈ lw_tbl) (hg : goodWord w = true) : w.before a' U = true := by
  obtain ⟨a0, h1, -⟩ := h0
  exact word_at h.1 (good_of_word hg) (h1 w hw)
theorem rq_b {s0 U : State} (h0 : rF s0) (h : rK s0 U) (a' : Array Value) : ∀ w ∈ rq_B, w.before a' U = true := by
  intro w hw
  have hk := List.all_eq_true.mp rq_B_k w hw
  have hin := rq_B_in w hw
  rcases Bool.or_eq_true_iff.mp hk with hg | hg
  · exact rq_word h0 h hin hg
  · obtain ⟨a0, h1, -⟩ := h0
    have h2 := h1 w hin
    cases w <;> simp only [rq_k, Bool.false_eq_true] at hg
    · exact rq_ls h h2
    · exact va_Nw.use rfl (va_Nw.warmD h.1 (va_Nw.of rfl h2))
theorem rq_isref {s0 U : State} (h0 : rF s0) (h : rK s0 U) (a' : Array Value) : ∀ q ∈ rq_S, (Cond.isRef (.static Bundle.tN q.1 q.2)).before a' U = true := by
  intro q hq
  obtain ⟨a0, h1, h2⟩ := h0
  have hl : (Cond.laysStatic Bundle.tN q.1 q.2).before a0 s0 = true := by
    simp only [rq_S, List.mem_cons, List.not_mem_nil, or_false] at hq
    rcases hq with rfl | rfl
    · exact h1 _ (List.mem_of_getElem? (i := 949) (by decide +kernel))
    · exact h1 _ (List.mem_of_getElem? (i := 951) (by decide +kernel))
  have hz := va_Zqof (A := fun _ => False) hl (h1 _ (List.mem_of_getElem? (i := 85) (by decide +kernel))) (h2 q hq) (fun _ _ => id)
  have hz := (hz.moved h.1.alike).kept (H1 := U.heap) (fun b hb _ => h.2 b hb)
  have ev : ∀ v, va_Z Bundle.tN q.1 q.2 v (fun _ => False) U U.heap → (Term.static Bundle.tN q.1 q.2).eval a' U none [] U = some v := by
    rintro v ⟨cf, kf, fi, f, a, cell, g1, g2, g3, g4, g5, g6, g7, -⟩
    simp [Term.eval, State.fieldNamed?, g1, g2, g4, g5, g6, g7]
  rcases hz with hz | ⟨t, hz⟩
  · simp [Cond.before, Cond.holds, Cond.value, ev _ hz]
  · simp [Cond.before, Cond.holds, Cond.value, ev _ hz]
theorem rq_atoms {s0 U : State} (h0 : rF s0) (h : rK s0 U) (a' : Array Value) : ∀ w ∈ rq_A "RiverFeet" 379 13 rq_rx, w.before a' U = true := by
  intro w hw
  have hb := rq_b h0 h a'
  have hi := rq_isref h0 h a'
  simp only [rq_A, List.mem_append, List.mem_cons, List.not_mem_nil, or_false] at hw
  rcases hw with (((hw | hw) | hw) | hw) | hw
  · exact hb w (List.mem_append_left _ (List.mem_append_left _ (List.mem_append_left _ (List.mem_append_left _ hw))))
  · exact hb w (List.mem_append_left _ (List.mem_append_left _ (List.mem_append_left _ (List.mem_append_right _ hw))))
  · exact hb w (List.mem_append_left _ (List.mem_append_left _ (List.mem_append_right _ hw)))
  · exact hb w (List.mem_append_left _ (List.mem_append_right _ hw))
  · rcases hw with rfl | rfl | rfl | rfl | rfl | rfl | rfl | rfl | rfl | rfl | rfl | rfl | rfl
    all_goals first
      | exact hi ("UNASSIGNED_STACK", Bundle.steD) (by simp [rq_S])
      | exact hi ("SUPPRESSED_SENTINEL", Bundle.listD) (by simp [rq_S])
      | exact hb _ (List.mem_append_right _ (by simp))
theorem rq_str {s0 U : State} (h0 : rF s0) (h : rK s0 U) (a' : Array Value) : (Cond.stringRef "RiverFeet" 377 "no such number of the row").before a' U = true := by
  obtain ⟨a0, h1, -⟩ := h0
  have h2 := Cond.stringRef_warmed (args := a0) h.1 (h1 (Cond.stringRef "RiverFeet" 377 "no such number of the row") (List.mem_of_getElem? (i := 961) (by decide +kernel)))
  simp only [Cond.before, Cond.holds, Cond.value] at h2 ⊢
  exact h2
theorem rq_cast {s0 U : State} (h0 : rF s0) (h : rK s0 U) (a' : Array Value) : (Cond.castable rq_N rq_N).before a' U = true := by
  obtain ⟨a0, h1, -⟩ := h0
  exact va_Nw.use rfl (va_Nw.warmC h.1 (va_Nw.of rfl (h1 _ (List.mem_of_getElem? (i := 924) (by decide +kernel)))))
theorem rK.same {s0 U V : State} (h : rK s0 U) (h1 : V.vm = U.vm) (h2 : V.heap = U.heap) : rK s0 V := ⟨by rw [h1]; exact h.1, by rw [h2]; exact h.2⟩
