/-! the start: what is found there, and the making of both -/
theorem st_arr {a0 : Array Value} {s : State} {ty : FieldType} (h : (Cond.arrayClass ty).before a0 s = true) : ∃ c : ClassId, s.vm.findClass ("[" ++ ty.toString) = some c ∧ ArrOfT s c ty := by
  obtain ⟨c, k, comp, h1, h2, h3⟩ := Cond.arrayClass_spec h
  exact ⟨c, h1, fun n z => ⟨fun k h => (by cases h), k, h2, comp, h3⟩⟩
theorem st_D {a0 : Array Value} {s : State} (hu : ∀ w ∈ UW, w.before a0 s = true) : ∃ D : va_G, ∀ (c : Nat) (q : vw_C), vwCl[c]? = some q → u_Kn s q.1 q.2.1 q.2.2 (D.1 c) (D.2 c) := by
  have h : ∀ c : Nat, ∃ x : ClassId × (Nat → Nat), ∀ q : vw_C, vwCl[c]? = some q → u_Kn s q.1 q.2.1 q.2.2 x.1 x.2 := by
    have key : ∀ {C : String} {T : u_T} {N n : Nat} {c : Nat}, vwCl[c]? = some (C, T, N) → (∀ w ∈ u_ws C T N, w ∈ UW) → Cond.instantiable C n ∈ UW → ∃ x : ClassId × (Nat → Nat), ∀ q : vw_C, vwCl[c]? = some q → u_Kn s q.1 q.2.1 q.2.2 x.1 x.2 := by
      intro C T N n c h1 h2 h3
      obtain ⟨cC, iS, h4⟩ := u_known hu h2 (hu _ h3)
      refine ⟨(cC, iS), fun q hq => ?_⟩
      rw [h1] at hq; cases hq; exact h4
    intro c
    match c with
    | 0 => exact key rfl in_Jx4a65c uO_Jx4a65c
    | 1 => exact key rfl in_X0 uO_X0
    | 2 => exact key rfl in_X1 uO_X1
    | 3 => exact key rfl in_X2 uO_X2
    | 4 => exact key rfl in_X3 uO_X3
    | 5 => exact key rfl in_X4 uO_X4
    | 6 => exact key rfl in_X5 uO_X5
    | 7 => exact key rfl in_X6 uO_X6
    | 8 => exact key rfl in_X7 uO_X7
    | 9 => exact key rfl in_X8 uO_X8
    | 10 => exact key rfl in_X9 uO_X9
    | 11 => exact key rfl in_X10 uO_X10
    | c + 12 => exact ⟨(0, fun _ => 0), fun q hq => by cases hq⟩
  obtain ⟨f, hf⟩ := Classical.axiomOfChoice h
  exact ⟨(fun c => (f c).1, fun c => (f c).2), fun c q hq => hf c q hq⟩
theorem st_found {p : Program} {s : State} {m : MethodId} {meth : Method} {c : Code} {b L : Nat} {xs : Nat → Int32} (C0 : lw_At p s m meth c b L xs) : ∃ (D : va_G) (cA : Nat → ClassId), oK D cA s ∧ oG cA s.heap.size s ∧ oV s := by
  obtain ⟨hx, hb, hr, hml, hown, hts, hX, hbl, hlocks, hgv⟩ := C0
  have hu : ∀ w ∈ UW, w.before #[Value.ref b] s = true := fun w h => hts w (uw_tbl w h)
  have hN : ∀ a : Nat, a < s.heap.size → ¬ oA s.heap.size a := fun a h => Nat.not_le.mpr h
  obtain ⟨D, hD⟩ := st_D hu
  obtain ⟨c0, n0, r0⟩ := st_arr (hu _ uA_int)
  obtain ⟨c1, n1, r1⟩ := st_arr (hu _ uA_long)
  obtain ⟨c2, n2, r2⟩ := st_arr (hu _ uA_boolean)
  have hAO := hts (Cond.arrayOver (.object "java/lang/Object")) (List.mem_of_getElem? (i := 424) (by decide +kernel))
  have hAA : (Cond.arrayOver (.array .int)).before #[Value.ref b] s = true := hts _ (List.mem_of_getElem? (i := 98) (by decide +kernel))
  have hV : oV s := hAA
  obtain ⟨comp3, c3, k3, f3, -, g3, q3, n3⟩ := Cond.arrayOver_spec hAO
  obtain ⟨cI, cB, kB, hcI, hidx, hkB, hkindB, hnmB⟩ := arrayOverA_spec hV
  obtain ⟨t, ht, hT⟩ := va_Tof (args := #[Value.ref b]) (s := s) (tm := .static "java/util/ArrayList" "DEFAULTCAPACITY_EMPTY_ELEMENTDATA" "[Ljava/lang/Object;") (ty := .object "java/lang/Object") (N := 0) (f := fun _ => .null) (A := oA s.heap.size) (by decide) (flat_of_before _ hgv _ (by decide +kernel)) (va_eqt (flat_of_before _ hgv (Cond.eq (.length (.static "java/util/ArrayList" "DEFAULTCAPACITY_EMPTY_ELEMENTDATA" "[Ljava/lang/Object;")) (.int 0)) (by decide +kernel))) (fun j hj => absurd hj (Nat.not_lt_zero _)) hN
  obtain ⟨mi, hmi⟩ := va_Mi.of (args := #[Value.ref b]) (s := s) (C := "[Ljava/lang/Object;") (flat_of_before _ hgv _ (by decide +kernel))
  have hZ := va_Zof (args := #[Value.ref b]) (s := s) (A := oA s.heap.size) (hts (Cond.laysStatic "java/util/ArrayList" "DEFAULTCAPACITY_EMPTY_ELEMENTDATA" "[Ljava/lang/Object;") (List.mem_of_getElem? (i := 112) (by decide +kernel))) (hu _ uI_Jx4a65c) ht hN
  have htl : t < s.heap.size := by
    obtain ⟨cell, h1, -⟩ := hT
    exact (Array.getElem?_eq_some_iff.mp h1).1
  refine ⟨D, fun k => match k with | 0 => c0 | 1 => c1 | 2 => c2 | 3 => c3 | 4 => cB | 100 => t | 101 => mi | _ => 0, ⟨⟨hD, fun k q hq => ?_⟩, fun w hw => ?_⟩, ⟨Nat.le_refl _, hZ, hT, htl, va_AO.of hAO, hmi, va_Dc.of (hts _ (List.mem_of_getElem? (i := 1461) (by decide +kernel)))⟩, hV⟩
  · match k with
    | 0 => cases hq; exact ⟨r0, n0⟩
    | 1 => cases hq; exact ⟨r1, n1⟩
    | 2 => cases hq; exact ⟨r2, n2⟩
    | 3 => cases hq; exact ⟨fun n z => ⟨fun k h => (by cases h), k3, g3, comp3, q3⟩, k3, comp3, g3, q3, f3, n3⟩
    | 4 => cases hq; exact ⟨fun n z => ⟨fun k h => (by cases h), kB, hkB, cI, hkindB⟩, hnmB⟩
    | k + 5 => cases hq
  · have h2 := hts w (nW_in w hw)
    rcases nW_ok w hw with ⟨a, i, x, h, rfl⟩ | ⟨C, T, rfl⟩
    · exact va_Nw.of rfl h2
    · exact va_Nw.of rfl h2
