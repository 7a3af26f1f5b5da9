set_option maxHeartbeats 400000 in
set_option maxRecDepth 100000 in
theorem lc_9 {p : Program} {l : Launch} {e : Env} {s : State} {m : MethodId} {below : List Frame} {meth : Method} {c : Code} {b L : Nat} {xs : Nat → Int32} {D : va_G} {cA : Nat → ClassId} (hF : lw_F p s m meth c b L xs D cA) {x0 m0 o0 n : Nat} (hn : 8 * n + 8 ≤ L) (nx : lw_NX p l e s m below meth c b D cA x0 m0 o0 n) {S : sS} {sr : Nat → Int32} {ad : kA} {d : kD} {H : Heap} {locs : List Loc} {ls : Array Slot} (hI : lw_I cA x0 m0 o0 S sr ad d) (hW : oW D cA s.heap.size ad d H) (hS : va_S (oA s.heap.size) s.heap H locs) (hl : lv_has ls 7 [(4, .int (nI (8 * n))), (3, .ref o0), (2, .ref m0), (1, .ref x0), (0, .ref b)]) : W p l e room_1 s m #[Value.ref b] below meth c H locs (300 + 4 * n) (500000 + 100 * n) (lw_Z below #[Value.ref b] s) (F0 m 605 ls []) := by
  obtain ⟨⟨hx, hb, hr, hml, hown, hts, hX, hbl, hlocks, hgv⟩, hL, hK, hB, hu⟩ := hF
  have hI0 := hI
  obtain ⟨hM, hR, hMm, hRm, hal, h31, h30, rfl, rfl, rfl⟩ := hI
  have hA := hM.1.1
  refine lv_aload_n hx hb dL_law_605 rfl (lv_at hl 3 rfl) ?_
  refine lv_aload_n hx hb dL_law_606 rfl (lv_at hl 4 rfl) ?_
  refine lv_iload hx hb dL_law_607 (lv_at hl 0 rfl) ?_
  refine n_iconst (v := 1) hx hb dL_law_609 (by decide) ?_
  refine n_iadd hx hb dL_law_610 ?_
  refine l_sld hx hb hX hbl hS (by omega) hL dL_law_611 ?_
  refine o_calli (o_runV (As := [.int (xs (8 * n + 1))]) (rest := []) ⟨hx, hb, hml, hown, hu⟩ (c_X9_shared l D cA s.heap.size ad hal S sr d hM hR (xs (8 * n + 1))) (gV_L_60 (fun _ h => h)) (n0 := 1) rfl (by decide +kernel) rfl ⟨Nat.le_of_ble_eq_true rfl, Nat.le_of_ble_eq_true rfl⟩ (o_recv hK hW (hA.o (k := 0) rfl) (kX_0 _ _ _ _) rfl) hK hW hB hS hl.1 rfl (lv_room (Nat.le_of_ble_eq_true rfl)) ⟨by show 300 + 4 * n + 0 ≤ 601024; omega, by show 500000 + 100 * n + 0 ≤ 7293034; omega⟩ dL_law_612) hS (fun r d1 hp H locs hW hS => ?_)
  obtain ⟨rfl, hP⟩ := hp
  obtain ⟨hMm1, hRm1⟩ := lw_mid hMm hRm hP.2.2
  refine lv_aload_n hx hb dL_law_615 rfl (lv_at hl 2 rfl) ?_
  refine lv_aload_n hx hb dL_law_616 rfl (lv_at hl 4 rfl) ?_
  refine lv_iload hx hb dL_law_617 (lv_at hl 0 rfl) ?_
  refine n_iconst (v := 1) hx hb dL_law_619 (by decide) ?_
  refine n_iadd hx hb dL_law_620 ?_
  refine l_sld hx hb hX hbl hS (by omega) hL dL_law_621 ?_
  have hal1 : mAl ad := hal
  refine o_calli (o_runV (As := [.int (xs (8 * n + 1))]) (rest := [.int (aShared S (xs (8 * n + 1)))]) ⟨hx, hb, hml, hown, hu⟩ (c_X10_shared l D cA s.heap.size ad hal1 S sr d1 hMm1 hRm1 (xs (8 * n + 1))) (gV_L_63 (fun _ h => h)) (n0 := 1) rfl (by decide +kernel) rfl ⟨Nat.le_of_ble_eq_true rfl, Nat.le_of_ble_eq_true rfl⟩ (o_recv hK hW hal1.1 (kC_M _ _ _) rfl) hK hW hB hS hl.1 rfl (lv_room (Nat.le_of_ble_eq_true rfl)) ⟨by show 300 + 4 * n + 0 + 0 ≤ 601024; omega, by show 500000 + 100 * n + 0 + 0 ≤ 7293034; omega⟩ dL_law_622) hS (fun r2 d2 hp2 H locs hW hS => ?_)
  obtain ⟨rfl, hP2⟩ := hp2
  refine lv_icmp_eq (tgt := 1797) hx hb dL_law_625 (by decide) (fun _ => ?_) (fun h => absurd rfl h)
  exact nx _ _ _ _ _ _ _ _ _ (by omega) (by omega) (lw_end hI0 (AFr.refl ad) hP hP2) hW hS hl
set_option maxHeartbeats 400000 in
set_option maxRecDepth 100000 in
theorem lc_10 {p : Program} {l : Launch} {e : Env} {s : State} {m : MethodId} {below : List Frame} {meth : Method} {c : Code} {b L : Nat} {xs : Nat → Int32} {D : va_G} {cA : Nat → ClassId} (hF : lw_F p s m meth c b L xs D cA) {x0 m0 o0 n : Nat} (hn : 8 * n + 8 ≤ L) (nx : lw_NX p l e s m below meth c b D cA x0 m0 o0 n) {S : sS} {sr : Nat → Int32} {ad : kA} {d : kD} {H : Heap} {locs : List Loc} {ls : Array Slot} (hI : lw_I cA x0 m0 o0 S sr ad d) (hW : oW D cA s.heap.size ad d H) (hS : va_S (oA s.heap.size) s.heap H locs) (hl : lv_has ls 7 [(4, .int (nI (8 * n))), (3, .ref o0), (2, .ref m0), (1, .ref x0), (0, .ref b)]) : W p l e room_1 s m #[Value.ref b] below meth c H locs (300 + 4 * n) (500000 + 100 * n) (lw_Z below #[Value.ref b] s) (F0 m 630 ls []) := by
  obtain ⟨⟨hx, hb, hr, hml, hown, hts, hX, hbl, hlocks, hgv⟩, hL, hK, hB, hu⟩ := hF
  have hI0 := hI
  obtain ⟨hM, hR, hMm, hRm, hal, h31, h30, rfl, rfl, rfl⟩ := hI
  have hA := hM.1.1
  refine lv_aload_n hx hb dL_law_630 rfl (lv_at hl 3 rfl) ?_
  refine lv_aload_n hx hb dL_law_631 rfl (lv_at hl 4 rfl) ?_
  refine lv_iload hx hb dL_law_632 (lv_at hl 0 rfl) ?_
  refine n_iconst (v := 1) hx hb dL_law_634 (by decide) ?_
  refine n_iadd hx hb dL_law_635 ?_
  refine l_sld hx hb hX hbl hS (by omega) hL dL_law_636 ?_
  refine lv_aload_n hx hb dL_law_637 rfl (lv_at hl 4 rfl) ?_
  refine lv_iload hx hb dL_law_638 (lv_at hl 0 rfl) ?_
  refine n_iconst (v := 2) hx hb dL_law_640 (by decide) ?_
  refine n_iadd hx hb dL_law_641 ?_
  refine l_sld hx hb hX hbl hS (by omega) hL dL_law_642 ?_
  refine lv_aload_n hx hb dL_law_643 rfl (lv_at hl 4 rfl) ?_
  refine lv_iload hx hb dL_law_644 (lv_at hl 0 rfl) ?_
  refine n_iconst (v := 3) hx hb dL_law_646 (by decide) ?_
  refine n_iadd hx hb dL_law_647 ?_
  refine l_sld hx hb hX hbl hS (by omega) hL dL_law_648 ?_
  refine lv_aload_n hx hb dL_law_649 rfl (lv_at hl 4 rfl) ?_
  refine lv_iload hx hb dL_law_650 (lv_at hl 0 rfl) ?_
  refine n_iconst (v := 4) hx hb dL_law_652 (by decide) ?_
  refine n_iadd hx hb dL_law_653 ?_
  refine l_sld hx hb hX hbl hS (by omega) hL dL_law_654 ?_
  refine lv_aload_n hx hb dL_law_655 rfl (lv_at hl 4 rfl) ?_
  refine lv_iload hx hb dL_law_656 (lv_at hl 0 rfl) ?_
  refine n_iconst (v := 5) hx hb dL_law_658 (by decide) ?_
  refine n_iadd hx hb dL_law_659 ?_
  refine l_sld hx hb hX hbl hS (by omega) hL dL_law_660 ?_
  refine o_calliA (o_runV (As := [.int (xs (8 * n + 1)), .int (xs (8 * n + 2)), .int (xs (8 * n + 3)), .int (xs (8 * n + 4)), .int (xs (8 * n + 5))]) (rest := []) ⟨hx, hb, hml, hown, hu⟩ (c_X9_look l D cA s.heap.size ad hal S sr d hM hR (xs (8 * n + 1)) (xs (8 * n + 2)) (xs (8 * n + 3)) (xs (8 * n + 4)) (xs (8 * n + 5))) (gV_L_64 (fun _ h => h)) (n0 := 5) rfl (by decide +kernel) rfl ⟨Nat.le_of_ble_eq_true rfl, Nat.le_of_ble_eq_true rfl⟩ (o_recv hK hW (hA.o (k := 0) rfl) (kX_0 _ _ _ _) rfl) hK hW hB hS hl.1 rfl (lv_room (Nat.le_of_ble_eq_true rfl)) ⟨by show 300 + 4 * n + 2 ≤ 601024; omega, by show 500000 + 100 * n + 80 ≤ 7293034; omega⟩ dL_law_661) hS (fun r u hp H locs hW hS => ?_)
  obtain ⟨a, d1⟩ := u
  obtain ⟨rfl, hP, hAF⟩ := hp
  have e40 : a.1 40 0 = ad.1 40 0 := by rw [hAF.1 40 (by omega)]
  obtain ⟨hMm1, hRm1⟩ := lw_mid hMm hRm hP.2.2
  refine lv_aload_n hx hb dL_law_664 rfl (lv_at hl 2 rfl) ?_
  refine lv_aload_n hx hb dL_law_665 rfl (lv_at hl 4 rfl) ?_
  refine lv_iload hx hb dL_law_666 (lv_at hl 0 rfl) ?_
  refine n_iconst (v := 1) hx hb dL_law_668 (by decide) ?_
  refine n_iadd hx hb dL_law_669 ?_
  refine l_sld hx hb hX hbl hS (by omega) hL dL_law_670 ?_
  refine lv_aload_n hx hb dL_law_671 rfl (lv_at hl 4 rfl) ?_
  refine lv_iload hx hb dL_law_672 (lv_at hl 0 rfl) ?_
  refine n_iconst (v := 2) hx hb dL_law_674 (by decide) ?_
  refine n_iadd hx hb dL_law_675 ?_
  refine l_sld hx hb hX hbl hS (by omega) hL dL_law_676 ?_
  refine lv_aload_n hx hb dL_law_677 rfl (lv_at hl 4 rfl) ?_
  refine lv_iload hx hb dL_law_678 (lv_at hl 0 rfl) ?_
  refine n_iconst (v := 3) hx hb dL_law_680 (by decide) ?_
  refine n_iadd hx hb dL_law_681 ?_
  refine l_sld hx hb hX hbl hS (by omega) hL dL_law_682 ?_
  refine lv_aload_n hx hb dL_law_683 rfl (lv_at hl 4 rfl) ?_
  refine lv_iload hx hb dL_law_684 (lv_at hl 0 rfl) ?_
  refine n_iconst (v := 4) hx hb dL_law_686 (by decide) ?_
  refine n_iadd hx hb dL_law_687 ?_
  refine l_sld hx hb hX hbl hS (by omega) hL dL_law_688 ?_
  refine lv_aload_n hx hb dL_law_689 rfl (lv_at hl 4 rfl) ?_
  refine lv_iload hx hb dL_law_690 (lv_at hl 0 rfl) ?_
  refine n_iconst (v := 5) hx hb dL_law_692 (by decide) ?_
  refine n_iadd hx hb dL_law_693 ?_
  refine l_sld hx hb hX hbl hS (by omega) hL dL_law_694 ?_
  refine W.eq (g2 := F0 m 695 ls [.int (xs (8 * n + 5)), .int (xs (8 * n + 4)), .int (xs (8 * n + 3)), .int (xs (8 * n + 2)), .int (xs (8 * n + 1)), .ref (a.1 40 0), .int (aLook S (xs (8 * n + 1)) (xs (8 * n + 2)) (xs (8 * n + 3)) (xs (8 * n + 4)) (xs (8 * n + 5)))]) (by rw [e40]) ?_
  have hal1 : mAl a := (hAF.mal hal)
  refine o_calli (o_runV (As := [.int (xs (8 * n + 1)), .int (xs (8 * n + 2)), .int (xs (8 * n + 3)), .int (xs (8 * n + 4)), .int (xs (8 * n + 5))]) (rest := [.int (aLook S (xs (8 * n + 1)) (xs (8 * n + 2)) (xs (8 * n + 3)) (xs (8 * n + 4)) (xs (8 * n + 5)))]) ⟨hx, hb, hml, hown, hu⟩ (c_X10_look l D cA s.heap.size a hal1 S sr d1 hMm1 hRm1 (xs (8 * n + 1)) (xs (8 * n + 2)) (xs (8 * n + 3)) (xs (8 * n + 4)) (xs (8 * n + 5))) (gV_L_67 (fun _ h => h)) (n0 := 5) rfl (by decide +kernel) rfl ⟨Nat.le_of_ble_eq_true rfl, Nat.le_of_ble_eq_true rfl⟩ (o_recv hK hW hal1.1 (kC_M _ _ _) rfl) hK hW hB hS hl.1 rfl (lv_room (Nat.le_of_ble_eq_true rfl)) ⟨by show 300 + 4 * n + 2 + 0 ≤ 601024; omega, by show 500000 + 100 * n + 80 + 0 ≤ 7293034; omega⟩ dL_law_695) hS (fun r2 d2 hp2 H locs hW hS => ?_)
  obtain ⟨rfl, hP2⟩ := hp2
  refine lv_icmp_eq (tgt := 1797) hx hb dL_law_698 (by decide) (fun _ => ?_) (fun h => absurd rfl h)
  exact nx _ _ _ _ _ _ _ _ _ (by omega) (by omega) (lw_end hI0 hAF hP hP2) hW hS hl
set_option maxHeartbeats 400000 in
set_option maxRecDepth 100000 in
theorem lc_11 {p : Program} {l : Launch} {e : Env} {s : State} {m : MethodId} {below : List Frame} {meth : Method} {c : Code} {b L : Nat} {xs : Nat → Int32} {D : va_G} {cA : Nat → ClassId} (hF : lw_F p s m meth c b L xs D cA) {x0 m0 o0 n : Nat} (hn : 8 * n + 8 ≤ L) (nx : lw_NX p l e s m below meth c b D cA x0 m0 o0 n) {S : sS} {sr : Nat → Int32} {ad : kA} {d : kD} {H : Heap} {locs : List Loc} {ls : Array Slot} (hI : lw_I cA x0 m0 o0 S sr ad d) (hW : oW D cA s.heap.size ad d H) (hS : va_S (oA s.heap.size) s.heap H locs) (hl : lv_has ls 7 [(4, .int (nI (8 * n))), (3, .ref o0), (2, .ref m0), (1, .ref x0), (0, .ref b)]) : W p l e room_1 s m #[Value.ref b] below meth c H locs (300 + 4 * n) (500000 + 100 * n) (lw_Z below #[Value.ref b] s) (F0 m 703 ls []) := by
  obtain ⟨⟨hx, hb, hr, hml, hown, hts, hX, hbl, hlocks, hgv⟩, hL, hK, hB, hu⟩ := hF
  have hI0 := hI
  obtain ⟨hM, hR, hMm, hRm, hal, h31, h30, rfl, rfl, rfl⟩ := hI
  have hA := hM.1.1
  refine lv_aload_n hx hb dL_law_703 rfl (lv_at hl 3 rfl) ?_
  refine lv_aload_n hx hb dL_law_704 rfl (lv_at hl 4 rfl) ?_
  refine lv_iload hx hb dL_law_705 (lv_at hl 0 rfl) ?_
  refine n_iconst (v := 1) hx hb dL_law_707 (by decide) ?_
  refine n_iadd hx hb dL_law_708 ?_
  refine l_sld hx hb hX hbl hS (by omega) hL dL_law_709 ?_
  refine lv_aload_n hx hb dL_law_710 rfl (lv_at hl 4 rfl) ?_
  refine lv_iload hx hb dL_law_711 (lv_at hl 0 rfl) ?_
  refine n_iconst (v := 2) hx hb dL_law_713 (by decide) ?_
  refine n_iadd hx hb dL_law_714 ?_
  refine l_sld hx hb hX hbl hS (by omega) hL dL_law_715 ?_
  refine o_calli (o_runV (As := [.int (xs (8 * n + 1)), .int (xs (8 * n + 2))]) (rest := []) ⟨hx, hb, hml, hown, hu⟩ (c_X9_back l D cA s.heap.size ad hal S sr d hM hR (xs (8 * n + 1)) (xs (8 * n + 2))) (gV_L_68 (fun _ h => h)) (n0 := 2) rfl (by decide +kernel) rfl ⟨Nat.le_of_ble_eq_true rfl, Nat.le_of_ble_eq_true rfl⟩ (o_recv hK hW (hA.o (k := 0) rfl) (kX_0 _ _ _ _) rfl) hK hW hB hS hl.1 rfl (lv_room (Nat.le_of_ble_eq_true rfl)) ⟨by show 300 + 4 * n + 0 ≤ 601024; omega, by show 500000 + 100 * n + 0 ≤ 7293034; omega⟩ dL_law_716) hS (fun r d1 hp H locs hW hS => ?_)
  obtain ⟨rfl, hP⟩ := hp
  obtain ⟨hMm1, hRm1⟩ := lw_mid hMm hRm hP.2.2
  refine lv_aload_n hx hb dL_law_719 rfl (lv_at hl 2 rfl) ?_
  refine lv_aload_n hx hb dL_law_720 rfl (lv_at hl 4 rfl) ?_
  refine lv_iload hx hb dL_law_721 (lv_at hl 0 rfl) ?_
  refine n_iconst (v := 1) hx hb dL_law_723 (by decide) ?_
  refine n_iadd hx hb dL_law_724 ?_
  refine l_sld hx hb hX hbl hS (by omega) hL dL_law_725 ?_
  refine lv_aload_n hx hb dL_law_726 rfl (lv_at hl 4 rfl) ?_
  refine lv_iload hx hb dL_law_727 (lv_at hl 0 rfl) ?_
  refine n_iconst (v := 2) hx hb dL_law_729 (by decide) ?_
  refine n_iadd hx hb dL_law_730 ?_
  refine l_sld hx hb hX hbl hS (by omega) hL dL_law_731 ?_
  have hal1 : mAl ad := hal
  refine o_calli (o_runV (As := [.int (xs (8 * n + 1)), .int (xs (8 * n + 2))]) (rest := [.int (aBack S (xs (8 * n + 1)) (xs (8 * n + 2)))]) ⟨hx, hb, hml, hown, hu⟩ (c_X10_back l D cA s.heap.size ad hal1 S sr d1 hMm1 hRm1 (xs (8 * n + 1)) (xs (8 * n + 2))) (gV_L_72 (fun _ h => h)) (n0 := 2) rfl (by decide +kernel) rfl ⟨Nat.le_of_ble_eq_true rfl, Nat.le_of_ble_eq_true rfl⟩ (o_recv hK hW hal1.1 (kC_M _ _ _) rfl) hK hW hB hS hl.1 rfl (lv_room (Nat.le_of_ble_eq_true rfl)) ⟨by show 300 + 4 * n + 0 + 0 ≤ 601024; omega, by show 500000 + 100 * n + 0 + 0 ≤ 7293034; omega⟩ dL_law_732) hS (fun r2 d2 hp2 H locs hW hS => ?_)
  obtain ⟨rfl, hP2⟩ := hp2
  refine lv_icmp_eq (tgt := 1797) hx hb dL_law_735 (by decide) (fun _ => ?_) (fun h => absurd rfl h)
  exact nx _ _ _ _ _ _ _ _ _ (by omega) (by omega) (lw_end hI0 (AFr.refl ad) hP hP2) hW hS hl
set_option maxHeartbeats 400000 in
set_option maxRecDepth 100000 in
theorem lc_12 {p : Program} {l : Launch} {e : Env} {s : State} {m : MethodId} {below : List Frame} {meth : Method} {c : Code} {b L : Nat} {xs : Nat → Int32} {D : va_G} {cA : Nat → ClassId} (hF : lw_F p s m meth c b L xs D cA) {x0 m0 o0 n : Nat} (hn : 8 * n + 8 ≤ L) (nx : lw_NX p l e s m below meth c b D cA x0 m0 o0 n) {S : sS} {sr : Nat → Int32} {ad : kA} {d : kD} {H : Heap} {locs : List Loc} {ls : Array Slot} (hI : lw_I cA x0 m0 o0 S sr ad d) (hW : oW D cA s.heap.size ad d H) (hS : va_S (oA s.heap.size) s.heap H locs) (hl : lv_has ls 7 [(4, .int (nI (8 * n))), (3, .ref o0), (2, .ref m0), (1, .ref x0), (0, .ref b)]) : W p l e room_1 s m #[Value.ref b] below meth c H locs (300 + 4 * n) (500000 + 100 * n) (lw_Z below #[Value.ref b] s) (F0 m 740 ls []) := by
  obtain ⟨⟨hx, hb, hr, hml, hown, hts, hX, hbl, hlocks, hgv⟩, hL, hK, hB, hu⟩ := hF
  have hI0 := hI
  obtain ⟨hM, hR, hMm, hRm, hal, h31, h30, rfl, rfl, rfl⟩ := hI
  have hA := hM.1.1
  refine lv_aload_n hx hb dL_law_740 rfl (lv_at hl 3 rfl) ?_
  refine lv_aload_n hx hb dL_law_741 rfl (lv_at hl 4 rfl) ?_
  refine lv_iload hx hb dL_law_742 (lv_at hl 0 rfl) ?_
  refine n_iconst (v := 1) hx hb dL_law_744 (by decide) ?_
  refine n_iadd hx hb dL_law_745 ?_
  refine l_sld hx hb hX hbl hS (by omega) hL dL_law_746 ?_
  refine o_calli (o_runV (As := [.int (xs (8 * n + 1))]) (rest := []) ⟨hx, hb, hml, hown, hu⟩ (c_X9_as l D cA s.heap.size ad hal S sr d hM hR (xs (8 * n + 1))) (gV_L_73 (fun _ h => h)) (n0 := 1) rfl (by decide +kernel) rfl ⟨Nat.le_of_ble_eq_true rfl, Nat.le_of_ble_eq_true rfl⟩ (o_recv hK hW (hA.o (k := 0) rfl) (kX_0 _ _ _ _) rfl) hK hW hB hS hl.1 rfl (lv_room (Nat.le_of_ble_eq_true rfl)) ⟨by show 300 + 4 * n + 0 ≤ 601024; omega, by show 500000 + 100 * n + 0 ≤ 7293034; omega⟩ dL_law_747) hS (fun r d1 hp H locs hW hS => ?_)
  obtain ⟨rfl, hP⟩ := hp
  obtain ⟨hMm1, hRm1⟩ := lw_mid hMm hRm hP.2.2
  refine lv_aload_n hx hb dL_law_750 rfl (lv_at hl 2 rfl) ?_
  refine lv_aload_n hx hb dL_law_751 rfl (lv_at hl 4 rfl) ?_
  refine lv_iload hx hb dL_law_752 (lv_at hl 0 rfl) ?_
  refine n_iconst (v := 1) hx hb dL_law_754 (by decide) ?_
  refine n_iadd hx hb dL_law_755 ?_
  refine l_sld hx hb hX hbl hS (by omega) hL dL_law_756 ?_
  have hal1 : mAl ad := hal
  refine o_calli (o_runV (As := [.int (xs (8 * n + 1))]) (rest := [.int (aAs S (xs (8 * n + 1)))]) ⟨hx, hb, hml, hown, hu⟩ (c_X10_as l D cA s.heap.size ad hal1 S sr d1 hMm1 hRm1 (xs (8 * n + 1))) (gV_L_76 (fun _ h => h)) (n0 := 1) rfl (by decide +kernel) rfl ⟨Nat.le_of_ble_eq_true rfl, Nat.le_of_ble_eq_true rfl⟩ (o_recv hK hW hal1.1 (kC_M _ _ _) rfl) hK hW hB hS hl.1 rfl (lv_room (Nat.le_of_ble_eq_true rfl)) ⟨by show 300 + 4 * n + 0 + 0 ≤ 601024; omega, by show 500000 + 100 * n + 0 + 0 ≤ 7293034; omega⟩ dL_law_757) hS (fun r2 d2 hp2 H locs hW hS => ?_)
  obtain ⟨rfl, hP2⟩ := hp2
  refine lv_icmp_eq (tgt := 1797) hx hb dL_law_760 (by decide) (fun _ => ?_) (fun h => absurd rfl h)
  exact nx _ _ _ _ _ _ _ _ _ (by omega) (by omega) (lw_end hI0 (AFr.refl ad) hP hP2) hW hS hl
set_option maxHeartbeats 400000 in
set_option maxRecDepth 100000 in
theorem lc_13 {p : Program} {l : Launch} {e : Env} {s : State} {m : MethodId} {below : List Frame} {meth : Method} {c : Code} {b L : Nat} {xs : Nat → Int32} {D : va_G} {cA : Nat → ClassId} (hF : lw_F p s m meth c b L xs D cA) {x0 m0 o0 n : Nat} (hn : 8 * n + 8 ≤ L) (nx : lw_NX p l e s m below meth c b D cA x0 m0 o0 n) {S : sS} {sr : Nat → Int32} {ad : kA} {d : kD} {H : Heap} {locs : List Loc} {ls : Array Slot} (hI : lw_I cA x0 m0 o0 S sr ad d) (hW : oW D cA s.heap.size ad d H) (hS : va_S (oA s.heap.size) s.heap H locs) (hl : lv_has ls 7 [(4, .int (nI (8 * n))), (3, .ref o0), (2, .ref m0), (1, .ref x0), (0, .ref b)]) : W p l e room_1 s m #[Value.ref b] below meth c H locs (300 + 4 * n) (500000 + 100 * n) (lw_Z below #[Value.ref b] s) (F0 m 765 ls []) := by
  obtain ⟨⟨hx, hb, hr, hml, hown, hts, hX, hbl, hlocks, hgv⟩, hL, hK, hB, hu⟩ := hF
  have hI0 := hI
  obtain ⟨hM, hR, hMm, hRm, hal, h31, h30, rfl, rfl, rfl⟩ := hI
  have hA := hM.1.1
  refine lv_aload_n hx hb dL_law_765 rfl (lv_at hl 3 rfl) ?_
  refine lv_aload_n hx hb dL_law_766 rfl (lv_at hl 4 rfl) ?_
  refine lv_iload hx hb dL_law_767 (lv_at hl 0 rfl) ?_
  refine n_iconst (v := 1) hx hb dL_law_769 (by decide) ?_
  refine n_iadd hx hb dL_law_770 ?_
  refine l_sld hx hb hX hbl hS (by omega) hL dL_law_771 ?_
  refine o_calli (o_runV (As := [.int (xs (8 * n + 1))]) (rest := []) ⟨hx, hb, hml, hown, hu⟩ (c_X9_bars l D cA s.heap.size ad hal S sr d hM hR (xs (8 * n + 1))) (gV_L_77 (fun _ h => h)) (n0 := 1) rfl (by decide +kernel) rfl ⟨Nat.le_of_ble_eq_true rfl, Nat.le_of_ble_eq_true rfl⟩ (o_recv hK hW (hA.o (k := 0) rfl) (kX_0 _ _ _ _) rfl) hK hW hB hS hl.1 rfl (lv_room (Nat.le_of_ble_eq_true rfl)) ⟨by show 300 + 4 * n + 0 ≤ 601024; omega, by show 500000 + 100 * n + 0 ≤ 7293034; omega⟩ dL_law_772) hS (fun r d1 hp H locs hW hS => ?_)
  obtain ⟨rfl, hP⟩ := hp
  obtain ⟨hMm1, hRm1⟩ := lw_mid hMm hRm hP.2.2
  refine lv_aload_n hx hb dL_law_775 rfl (lv_at hl 2 rfl) ?_
  refine lv_aload_n hx hb dL_law_776 rfl (lv_at hl 4 rfl) ?_
  refine lv_iload hx hb dL_law_777 (lv_at hl 0 rfl) ?_
  refine n_iconst (v := 1) hx hb dL_law_779 (by decide) ?_
  refine n_iadd hx hb dL_law_780 ?_
  refine l_sld hx hb hX hbl hS (by omega) hL dL_law_781 ?_
  have hal1 : mAl ad := hal
  refine o_calli (o_runV (As := [.int (xs (8 * n + 1))]) (rest := [.int (aBars S (xs (8 * n + 1)))]) ⟨hx, hb, hml, hown, hu⟩ (c_X10_bars_ l D cA s.heap.size ad hal1 S sr d1 hMm1 hRm1 (xs (8 * n + 1))) (gV_L_80 (fun _ h => h)) (n0 := 1) rfl (by decide +kernel) rfl ⟨Nat.le_of_ble_eq_true rfl, Nat.le_of_ble_eq_true rfl⟩ (o_recv hK hW hal1.1 (kC_M _ _ _) rfl) hK hW hB hS hl.1 rfl (lv_room (Nat.le_of_ble_eq_true rfl)) ⟨by show 300 + 4 * n + 0 + 0 ≤ 601024; omega, by show 500000 + 100 * n + 0 + 0 ≤ 7293034; omega⟩ dL_law_782) hS (fun r2 d2 hp2 H locs hW hS => ?_)
  obtain ⟨rfl, hP2⟩ := hp2
  refine lv_icmp_eq (tgt := 1797) hx hb dL_law_785 (by decide) (fun _ => ?_) (fun h => absurd rfl h)
  exact nx _ _ _ _ _ _ _ _ _ (by omega) (by omega) (lw_end hI0 (AFr.refl ad) hP hP2) hW hS hl
set_option maxHeartbeats 400000 in
set_option maxRecDepth 100000 in
theorem lc_14 {p : Program} {l : Launch} {e : Env} {s : State} {m : MethodId} {below : List Frame} {meth : Method} {c : Code} {b L : Nat} {xs : Nat → Int32} {D : va_G} {cA : Nat → ClassId} (hF : lw_F p s m meth c b L xs D cA) {x0 m0 o0 n : Nat} (hn : 8 * n + 8 ≤ L) (nx : lw_NX p l e s m below meth c b D cA x0 m0 o0 n) {S : sS} {sr : Nat → Int32} {ad : kA} {d : kD} {H : Heap} {locs : List Loc} {ls : Array Slot} (hI : lw_I cA x0 m0 o0 S sr ad d) (hW : oW D cA s.heap.size ad d H) (hS : va_S (oA s.heap.size) s.heap H locs) (hl : lv_has ls 7 [(4, .int (nI (8 * n))), (3, .ref o0), (2, .ref m0), (1, .ref x0), (0, .ref b)]) : W p l e room_1 s m #[Value.ref b] below meth c H locs (300 + 4 * n) (500000 + 100 * n) (lw_Z below #[Value.ref b] s) (F0 m 790 ls []) := by
  obtain ⟨⟨hx, hb, hr, hml, hown, hts, hX, hbl, hlocks, hgv⟩, hL, hK, hB, hu⟩ := hF
  have hI0 := hI
  obtain ⟨hM, hR, hMm, hRm, hal, h31, h30, rfl, rfl, rfl⟩ := hI
  have hA := hM.1.1
  refine lv_aload_n hx hb dL_law_790 rfl (lv_at hl 3 rfl) ?_
  refine lv_aload_n hx hb dL_law_791 rfl (lv_at hl 4 rfl) ?_
  refine lv_iload hx hb dL_law_792 (lv_at hl 0 rfl) ?_
  refine n_iconst (v := 1) hx hb dL_law_794 (by decide) ?_
  refine n_iadd hx hb dL_law_795 ?_
  refine l_sld hx hb hX hbl hS (by omega) hL dL_law_796 ?_
  refine o_calli (o_runV (As := [.int (xs (8 * n + 1))]) (rest := []) ⟨hx, hb, hml, hown, hu⟩ (c_X9_weighs l D cA s.heap.size ad hal S sr d hM hR (xs (8 * n + 1))) (gV_L_81 (fun _ h => h)) (n0 := 1) rfl (by decide +kernel) rfl ⟨Nat.le_of_ble_eq_true rfl, Nat.le_of_ble_eq_true rfl⟩ (o_recv hK hW (hA.o (k := 0) rfl) (kX_0 _ _ _ _) rfl) hK hW hB hS hl.1 rfl (lv_room (Nat.le_of_ble_eq_true rfl)) ⟨by show 300 + 4 * n + 0 ≤ 601024; omega, by show 500000 + 100 * n + 0 ≤ 7293034; omega⟩ dL_law_797) hS (fun r d1 hp H locs hW hS => ?_)
  obtain ⟨rfl, hP⟩ := hp
  obtain ⟨hMm1, hRm1⟩ := lw_mid hMm hRm hP.2.2
  refine lv_aload_n hx hb dL_law_800 rfl (lv_at hl 2 rfl) ?_
  refine lv_aload_n hx hb dL_law_801 rfl (lv_at hl 4 rfl) ?_
  refine lv_iload hx hb dL_law_802 (lv_at hl 0 rfl) ?_
  refine n_iconst (v := 1) hx hb dL_law_804 (by decide) ?_
  refine n_iadd hx hb dL_law_805 ?_
  refine l_sld hx hb hX hbl hS (by omega) hL dL_law_806 ?_
  have hal1 : mAl ad := hal
  refine o_calli (o_runV (As := [.int (xs (8 * n + 1))]) (rest := [.int (aWeighs S (xs (8 * n + 1)))]) ⟨hx, hb, hml, hown, hu⟩ (c_X10_weighs l D cA s.heap.size ad hal1 S sr d1 hMm1 hRm1 (xs (8 * n + 1))) (gV_L_84 (fun _ h => h)) (n0 := 1) rfl (by decide +kernel) rfl ⟨Nat.le_of_ble_eq_true rfl, Nat.le_of_ble_eq_true rfl⟩ (o_recv hK hW hal1.1 (kC_M _ _ _) rfl) hK hW hB hS hl.1 rfl (lv_room (Nat.le_of_ble_eq_true rfl)) ⟨by show 300 + 4 * n + 0 + 0 ≤ 601024; omega, by show 500000 + 100 * n + 0 + 0 ≤ 7293034; omega⟩ dL_law_807) hS (fun r2 d2 hp2 H locs hW hS => ?_)
  obtain ⟨rfl, hP2⟩ := hp2
  refine lv_icmp_eq (tgt := 1797) hx hb dL_law_810 (by decide) (fun _ => ?_) (fun h => absurd rfl h)
  exact nx _ _ _ _ _ _ _ _ _ (by omega) (by omega) (lw_end hI0 (AFr.refl ad) hP hP2) hW hS hl
set_option maxHeartbeats 400000 in
set_option maxRecDepth 100000 in
theorem lc_15 {p : Program} {l : Launch} {e : Env} {s : State} {m : MethodId} {below : List Frame} {meth : Method} {c : Code} {b L : Nat} {xs : Nat → Int32} {D : va_G} {cA : Nat → ClassId} (hF : lw_F p s m meth c b L xs D cA) {x0 m0 o0 n : Nat} (hn : 8 * n + 8 ≤ L) (nx : lw_NX p l e s m below meth c b D cA x0 m0 o0 n) {S : sS} {sr : Nat → Int32} {ad : kA} {d : kD} {H : Heap} {locs : List Loc} {ls : Array Slot} (hI : lw_I cA x0 m0 o0 S sr ad d) (hW : oW D cA s.heap.size ad d H) (hS : va_S (oA s.heap.size) s.heap H locs) (hl : lv_has ls 7 [(4, .int (nI (8 * n))), (3, .ref o0), (2, .ref m0), (1, .ref x0), (0, .ref b)]) : W p l e room_1 s m #[Value.ref b] below meth c H locs (300 + 4 * n) (500000 + 100 * n) (lw_Z below #[Value.ref b] s) (F0 m 815 ls []) := by
  obtain ⟨⟨hx, hb, hr, hml, hown, hts, hX, hbl, hlocks, hgv⟩, hL, hK, hB, hu⟩ := hF
  have hI0 := hI
  obtain ⟨hM, hR, hMm, hRm, hal, h31, h30, rfl, rfl, rfl⟩ := hI
  have hA := hM.1.1
  refine lv_aload_n hx hb dL_law_815 rfl (lv_at hl 3 rfl) ?_
  refine lv_aload_n hx hb dL_law_816 rfl (lv_at hl 4 rfl) ?_
  refine lv_iload hx hb dL_law_817 (lv_at hl 0 rfl) ?_
  refine n_iconst (v := 1) hx hb dL_law_819 (by decide) ?_
  refine n_iadd hx hb dL_law_820 ?_
  refine l_sld hx hb hX hbl hS (by omega) hL dL_law_821 ?_
  refine o_calli (o_runV (As := [.int (xs (8 * n + 1))]) (rest := []) ⟨hx, hb, hml, hown, hu⟩ (c_X9_blame l D cA s.heap.size ad hal S sr d hM hR (xs (8 * n + 1))) (gV_L_85 (fun _ h => h)) (n0 := 1) rfl (by decide +kernel) rfl ⟨Nat.le_of_ble_eq_true rfl, Nat.le_of_ble_eq_true rfl⟩ (o_recv hK hW (hA.o (k := 0) rfl) (kX_0 _ _ _ _) rfl) hK hW hB hS hl.1 rfl (lv_room (Nat.le_of_ble_eq_true rfl)) ⟨by show 300 + 4 * n + 0 ≤ 601024; omega, by show 500000 + 100 * n + 0 ≤ 7293034; omega⟩ dL_law_822) hS (fun r d1 hp H locs hW hS => ?_)
  obtain ⟨rfl, hP⟩ := hp
  obtain ⟨hMm1, hRm1⟩ := lw_mid hMm hRm hP.2.2
  refine lv_aload_n hx hb dL_law_825 rfl (lv_at hl 2 rfl) ?_
  refine lv_aload_n hx hb dL_law_826 rfl (lv_at hl 4 rfl) ?_
  refine lv_iload hx hb dL_law_827 (lv_at hl 0 rfl) ?_
  refine n_iconst (v := 1) hx hb dL_law_829 (by decide) ?_
  refine n_iadd hx hb dL_law_830 ?_
  refine l_sld hx hb hX hbl hS (by omega) hL dL_law_831 ?_
  have hal1 : mAl ad := hal
  refine o_calli (o_runV (As := [.int (xs (8 * n + 1))]) (rest := [.int (aBlame S (xs (8 * n + 1)))]) ⟨hx, hb, hml, hown, hu⟩ (c_X10_blame l D cA s.heap.size ad hal1 S sr d1 hMm1 hRm1 (xs (8 * n + 1))) (gV_L_88 (fun _ h => h)) (n0 := 1) rfl (by decide +kernel) rfl ⟨Nat.le_of_ble_eq_true rfl, Nat.le_of_ble_eq_true rfl⟩ (o_recv hK hW hal1.1 (kC_M _ _ _) rfl) hK hW hB hS hl.1 rfl (lv_room (Nat.le_of_ble_eq_true rfl)) ⟨by show 300 + 4 * n + 0 + 0 ≤ 601024; omega, by show 500000 + 100 * n + 0 + 0 ≤ 7293034; omega⟩ dL_law_832) hS (fun r2 d2 hp2 H locs hW hS => ?_)
  obtain ⟨rfl, hP2⟩ := hp2
  refine lv_icmp_eq (tgt := 1797) hx hb dL_law_835 (by decide) (fun _ => ?_) (fun h => absurd rfl h)
  exact nx _ _ _ _ _ _ _ _ _ (by omega) (by omega) (lw_end hI0 (AFr.refl ad) hP hP2) hW hS hl
set_option maxHeartbeats 400000 in
set_option maxRecDepth 100000 in
theorem lc_16 {p : Program} {l : Launch} {e : Env} {s : State} {m : MethodId} {below : List Frame} {meth : Method} {c : Code} {b L : Nat} {xs : Nat → Int32} {D : va_G} {cA : Nat → ClassId} (hF : lw_F p s m meth c b L xs D cA) {x0 m0 o0 n : Nat} (hn : 8 * n + 8 ≤ L) (nx : lw_NX p l e s m below meth c b D cA x0 m0 o0 n) {S : sS} {sr : Nat → Int32} {ad : kA} {d : kD} {H : Heap} {locs : List Loc} {ls : Array Slot} (hI : lw_I cA x0 m0 o0 S sr ad d) (hW : oW D cA s.heap.size ad d H) (hS : va_S (oA s.heap.size) s.heap H locs) (hl : lv_has ls 7 [(4, .int (nI (8 * n))), (3, .ref o0), (2, .ref m0), (1, .ref x0), (0, .ref b)]) : W p l e room_1 s m #[Value.ref b] below meth c H locs (300 + 4 * n) (500000 + 100 * n) (lw_Z below #[Value.ref b] s) (F0 m 840 ls []) := by
  obtain ⟨⟨hx, hb, hr, hml, hown, hts, hX, hbl, hlocks, hgv⟩, hL, hK, hB, hu⟩ := hF
  have hI0 := hI
  obtain ⟨hM, hR, hMm, hRm, hal, h31, h30, rfl, rfl, rfl⟩ := hI
  have hA := hM.1.1
  refine lv_aload_n hx hb dL_law_840 rfl (lv_at hl 3 rfl) ?_
  refine lv_aload_n hx hb dL_law_841 rfl (lv_at hl 4 rfl) ?_
  refine lv_iload hx hb dL_law_842 (lv_at hl 0 rfl) ?_
  refine n_iconst (v := 1) hx hb dL_law_844 (by decide) ?_
  refine n_iadd hx hb dL_law_845 ?_
  refine l_sld hx hb hX hbl hS (by omega) hL dL_law_846 ?_
  refine lv_aload_n hx hb dL_law_847 rfl (lv_at hl 4 rfl) ?_
  refine lv_iload hx hb dL_law_848 (lv_at hl 0 rfl) ?_
  refine n_iconst (v := 2) hx hb dL_law_850 (by decide) ?_
  refine n_iadd hx hb dL_law_851 ?_
  refine l_sld hx hb hX hbl hS (by omega) hL dL_law_852 ?_
  refine o_calli (o_runV (As := [.int (xs (8 * n + 1)), .int (xs (8 * n + 2))]) (rest := []) ⟨hx, hb, hml, hown, hu⟩ (c_X9_state l D cA s.heap.size ad hal S sr d hM hR (xs (8 * n + 1)) (xs (8 * n + 2))) (gV_L_89 (fun _ h => h)) (n0 := 2) rfl (by decide +kernel) rfl ⟨Nat.le_of_ble_eq_true rfl, Nat.le_of_ble_eq_true rfl⟩ (o_recv hK hW (hA.o (k := 0) rfl) (kX_0 _ _ _ _) rfl) hK hW hB hS hl.1 rfl (lv_room (Nat.le_of_ble_eq_true rfl)) ⟨by show 300 + 4 * n + 0 ≤ 601024; omega, by show 500000 + 100 * n + 0 ≤ 7293034; omega⟩ dL_law_853) hS (fun r d1 hp H locs hW hS => ?_)
  obtain ⟨rfl, hP⟩ := hp
  obtain ⟨hMm1, hRm1⟩ := lw_mid hMm hRm hP.2.2
  refine lv_aload_n hx hb dL_law_856 rfl (lv_at hl 2 rfl) ?_
  refine lv_aload_n hx hb dL_law_857 rfl (lv_at hl 4 rfl) ?_
  refine lv_iload hx hb dL_law_858 (lv_at hl 0 rfl) ?_
  refine n_iconst (v := 1) hx hb dL_law_860 (by decide) ?_
  refine n_iadd hx hb dL_law_861 ?_
  refine l_sld hx hb hX hbl hS (by omega) hL dL_law_862 ?_
  refine lv_aload_n hx hb dL_law_863 rfl (lv_at hl 4 rfl) ?_
  refine lv_iload hx hb dL_law_864 (lv_at hl 0 rfl) ?_
  refine n_iconst (v := 2) hx hb dL_law_866 (by decide) ?_
  refine n_iadd hx hb dL_law_867 ?_
  refine l_sld hx hb hX hbl hS (by omega) hL dL_law_868 ?_
  have hal1 : mAl ad := hal
  refine o_calli (o_runV (As := [.int (xs (8 * n + 1)), .int (xs (8 * n + 2))]) (rest := [.int (aState S (xs (8 * n + 1)) (xs (8 * n + 2)))]) ⟨hx, hb, hml, hown, hu⟩ (c_X10_state l D cA s.heap.size ad hal1 S sr d1 hMm1 hRm1 (xs (8 * n + 1)) (xs (8 * n + 2))) (gV_L_92 (fun _ h => h)) (n0 := 2) rfl (by decide +kernel) rfl ⟨Nat.le_of_ble_eq_true rfl, Nat.le_of_ble_eq_true rfl⟩ (o_recv hK hW hal1.1 (kC_M _ _ _) rfl) hK hW hB hS hl.1 rfl (lv_room (Nat.le_of_ble_eq_true rfl)) ⟨by show 300 + 4 * n + 0 + 0 ≤ 601024; omega, by show 500000 + 100 * n + 0 + 0 ≤ 7293034; omega⟩ dL_law_869) hS (fun r2 d2 hp2 H locs hW hS => ?_)
  obtain ⟨rfl, hP2⟩ := hp2
  refine lv_icmp_eq (tgt := 1797) hx hb dL_law_872 (by decide) (fun _ => ?_) (fun h => absurd rfl h)
  exact nx _ _ _ _ _ _ _ _ _ (by omega) (by omega) (lw_end hI0 (AFr.refl ad) hP hP2) hW hS hl
set_option maxHeartbeats 400000 in
set_option maxRecDepth 100000 in
theorem lc_17 {p : Program} {l : Launch} {e : Env} {s : State} {m : MethodId} {below : List Frame} {meth : Method} {c : Code} {b L : Nat} {xs : Nat → Int32} {D : va_G} {cA : Nat → ClassId} (hF : lw_F p s m meth c b L xs D cA) {x0 m0 o0 n : Nat} (hn : 8 * n + 8 ≤ L) (nx : lw_NX p l e s m below meth c b D cA x0 m0 o0 n) {S : sS} {sr : Nat → Int32} {ad : kA} {d : kD} {H : Heap} {locs : List Loc} {ls : Array Slot} (hI : lw_I cA x0 m0 o0 S sr ad d) (hW : oW D cA s.heap.size ad d H) (hS : va_S (oA s.heap.size) s.heap H locs) (hl : lv_has ls 7 [(4, .int (nI (8 * n))), (3, .ref o0), (2, .ref m0), (1, .ref x0), (0, .ref b)]) : W p l e room_1 s m #[Value.ref b] below meth c H locs (300 + 4 * n) (500000 + 100 * n) (lw_Z below #[Value.ref b] s) (F0 m 877 ls []) := by
  obtain ⟨⟨hx, hb, hr, hml, hown, hts, hX, hbl, hlocks, hgv⟩, hL, hK, hB, hu⟩ := hF
  have hI0 := hI
  obtain ⟨hM, hR, hMm, hRm, hal, h31, h30, rfl, rfl, rfl⟩ := hI
  have hA := hM.1.1
  refine lv_aload_n hx hb dL_law_877 rfl (lv_at hl 3 rfl) ?_
  refine lv_aload_n hx hb dL_law_878 rfl (lv_at hl 4 rfl) ?_
  refine lv_iload hx hb dL_law_879 (lv_at hl 0 rfl) ?_
  refine n_iconst (v := 1) hx hb dL_law_881 (by decide) ?_
  refine n_iadd hx hb dL_law_882 ?_
  refine l_sld hx hb hX hbl hS (by omega) hL dL_law_883 ?_
  refine lv_aload_n hx hb dL_law_884 rfl (lv_at hl 4 rfl) ?_
  refine lv_iload hx hb dL_law_885 (lv_at hl 0 rfl) ?_
  refine n_iconst (v := 2) hx hb dL_law_887 (by decide) ?_
  refine n_iadd hx hb dL_law_888 ?_
  refine l_sld hx hb hX hbl hS (by omega) hL dL_law_889 ?_
  refine o_calli (o_runV (As := [.int (xs (8 * n + 1)), .int (xs (8 * n + 2))]) (rest := []) ⟨hx, hb, hml, hown, hu⟩ (c_X9_ends l D cA s.heap.size ad hal S sr d hM hR (xs (8 * n + 1)) (xs (8 * n + 2))) (gV_L_93 (fun _ h => h)) (n0 := 2) rfl (by decide +kernel) rfl ⟨Nat.le_of_ble_eq_true rfl, Nat.le_of_ble_eq_true rfl⟩ (o_recv hK hW (hA.o (k := 0) rfl) (kX_0 _ _ _ _) rfl) hK hW hB hS hl.1 rfl (lv_room (Nat.le_of_ble_eq_true rfl)) ⟨by show 300 + 4 * n + 0 ≤ 601024; omega, by show 500000 + 100 * n + 0 ≤ 7293034; omega⟩ dL_law_890) hS (fun r d1 hp H locs hW hS => ?_)
  obtain ⟨rfl, hP⟩ := hp
  obtain ⟨hMm1, hRm1⟩ := lw_mid hMm hRm hP.2.2
  refine lv_aload_n hx hb dL_law_893 rfl (lv_at hl 2 rfl) ?_
  refine lv_aload_n hx hb dL_law_894 rfl (lv_at hl 4 rfl) ?_
  refine lv_iload hx hb dL_law_895 (lv_at hl 0 rfl) ?_
  refine n_iconst (v := 1) hx hb dL_law_897 (by decide) ?_
  refine n_iadd hx hb dL_law_898 ?_
  refine l_sld hx hb hX hbl hS (by omega) hL dL_law_899 ?_
  refine lv_aload_n hx hb dL_law_900 rfl (lv_at hl 4 rfl) ?_
  refine lv_iload hx hb dL_law_901 (lv_at hl 0 rfl) ?_
  refine n_iconst (v := 2) hx hb dL_law_903 (by decide) ?_
  refine n_iadd hx hb dL_law_904 ?_
  refine l_sld hx hb hX hbl hS (by omega) hL dL_law_905 ?_
  have hal1 : mAl ad := hal
  refine o_calli (o_runV (As := [.int (xs (8 * n + 1)), .int (xs (8 * n + 2))]) (rest := [.int (aEnds S (xs (8 * n + 1)) (xs (8 * n + 2)))]) ⟨hx, hb, hml, hown, hu⟩ (c_X10_ends l D cA s.heap.size ad hal1 S sr d1 hMm1 hRm1 (xs (8 * n + 1)) (xs (8 * n + 2))) (gV_L_96 (fun _ h => h)) (n0 := 2) rfl (by decide +kernel) rfl ⟨Nat.le_of_ble_eq_true rfl, Nat.le_of_ble_eq_true rfl⟩ (o_recv hK hW hal1.1 (kC_M _ _ _) rfl) hK hW hB hS hl.1 rfl (lv_room (Nat.le_of_ble_eq_true rfl)) ⟨by show 300 + 4 * n + 0 + 0 ≤ 601024; omega, by show 500000 + 100 * n + 0 + 0 ≤ 7293034; omega⟩ dL_law_906) hS (fun r2 d2 hp2 H locs hW hS => ?_)
  obtain ⟨rfl, hP2⟩ := hp2
  refine lv_icmp_eq (tgt := 1797) hx hb dL_law_909 (by decide) (fun _ => ?_) (fun h => absurd rfl h)
  exact nx _ _ _ _ _ _ _ _ _ (by omega) (by omega) (lw_end hI0 (AFr.refl ad) hP hP2) hW hS hl
