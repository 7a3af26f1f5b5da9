set_option maxHeartbeats 400000 in
set_option maxRecDepth 100000 in
theorem lc_27 {p : Program} {l : Launch} {e : Env} {s : State} {m : MethodId} {below : List Frame} {meth : Method} {c : Code} {b L : Nat} {xs : Nat → Int32} {D : va_G} {cA : Nat → ClassId} (hF : lw_F p s m meth c b L xs D cA) {x0 m0 o0 n : Nat} (hn : 8 * n + 8 ≤ L) (nx : lw_NX p l e s m below meth c b D cA x0 m0 o0 n) {S : sS} {sr : Nat → Int32} {ad : kA} {d : kD} {H : Heap} {locs : List Loc} {ls : Array Slot} (hI : lw_I cA x0 m0 o0 S sr ad d) (hW : oW D cA s.heap.size ad d H) (hS : va_S (oA s.heap.size) s.heap H locs) (hl : lv_has ls 7 [(4, .int (nI (8 * n))), (3, .ref o0), (2, .ref m0), (1, .ref x0), (0, .ref b)]) : W p l e room_1 s m #[Value.ref b] below meth c H locs (300 + 4 * n) (500000 + 100 * n) (lw_Z below #[Value.ref b] s) (F0 m 1385 ls []) := by
  obtain ⟨⟨hx, hb, hr, hml, hown, hts, hX, hbl, hlocks, hgv⟩, hL, hK, hB, hu⟩ := hF
  have hI0 := hI
  obtain ⟨hM, hR, hMm, hRm, hal, h31, h30, rfl, rfl, rfl⟩ := hI
  have hA := hM.1.1
  refine lv_aload_n hx hb dL_law_1385 rfl (lv_at hl 3 rfl) ?_
  refine lv_aload_n hx hb dL_law_1386 rfl (lv_at hl 4 rfl) ?_
  refine lv_iload hx hb dL_law_1387 (lv_at hl 0 rfl) ?_
  refine n_iconst (v := 1) hx hb dL_law_1389 (by decide) ?_
  refine n_iadd hx hb dL_law_1390 ?_
  refine l_sld hx hb hX hbl hS (by omega) hL dL_law_1391 ?_
  refine lv_aload_n hx hb dL_law_1392 rfl (lv_at hl 4 rfl) ?_
  refine lv_iload hx hb dL_law_1393 (lv_at hl 0 rfl) ?_
  refine n_iconst (v := 2) hx hb dL_law_1395 (by decide) ?_
  refine n_iadd hx hb dL_law_1396 ?_
  refine l_sld hx hb hX hbl hS (by omega) hL dL_law_1397 ?_
  refine o_calliA (o_runV (As := [.int (xs (8 * n + 1)), .int (xs (8 * n + 2))]) (rest := []) ⟨hx, hb, hml, hown, hu⟩ (c_X9_bridge l D cA s.heap.size ad hal S sr d hM hR (xs (8 * n + 1)) (xs (8 * n + 2))) (gV_L_135 (fun _ h => h)) (n0 := 2) rfl (by decide +kernel) rfl ⟨Nat.le_of_ble_eq_true rfl, Nat.le_of_ble_eq_true rfl⟩ (o_recv hK hW (hA.o (k := 0) rfl) (kX_0 _ _ _ _) rfl) hK hW hB hS hl.1 rfl (lv_room (Nat.le_of_ble_eq_true rfl)) ⟨by show 300 + 4 * n + 2 ≤ 601024; omega, by show 500000 + 100 * n + 80 ≤ 7293034; omega⟩ dL_law_1398) hS (fun r u hp H locs hW hS => ?_)
  obtain ⟨a, d1⟩ := u
  obtain ⟨rfl, hP, hAF⟩ := hp
  have e40 : a.1 40 0 = ad.1 40 0 := by rw [hAF.1 40 (by omega)]
  obtain ⟨hMm1, hRm1⟩ := lw_mid hMm hRm hP.2.2
  refine lv_aload_n hx hb dL_law_1401 rfl (lv_at hl 2 rfl) ?_
  refine lv_aload_n hx hb dL_law_1402 rfl (lv_at hl 4 rfl) ?_
  refine lv_iload hx hb dL_law_1403 (lv_at hl 0 rfl) ?_
  refine n_iconst (v := 1) hx hb dL_law_1405 (by decide) ?_
  refine n_iadd hx hb dL_law_1406 ?_
  refine l_sld hx hb hX hbl hS (by omega) hL dL_law_1407 ?_
  refine lv_aload_n hx hb dL_law_1408 rfl (lv_at hl 4 rfl) ?_
  refine lv_iload hx hb dL_law_1409 (lv_at hl 0 rfl) ?_
  refine n_iconst (v := 2) hx hb dL_law_1411 (by decide) ?_
  refine n_iadd hx hb dL_law_1412 ?_
  refine l_sld hx hb hX hbl hS (by omega) hL dL_law_1413 ?_
  refine W.eq (g2 := F0 m 1414 ls [.int (xs (8 * n + 2)), .int (xs (8 * n + 1)), .ref (a.1 40 0), .int (aBridge S (xs (8 * n + 1)) (xs (8 * n + 2)))]) (by rw [e40]) ?_
  have hal1 : mAl a := (hAF.mal hal)
  refine o_calli (o_runV (As := [.int (xs (8 * n + 1)), .int (xs (8 * n + 2))]) (rest := [.int (aBridge S (xs (8 * n + 1)) (xs (8 * n + 2)))]) ⟨hx, hb, hml, hown, hu⟩ (c_X10_bridge l D cA s.heap.size a hal1 S sr d1 hMm1 hRm1 (xs (8 * n + 1)) (xs (8 * n + 2))) (gV_L_138 (fun _ h => h)) (n0 := 2) rfl (by decide +kernel) rfl ⟨Nat.le_of_ble_eq_true rfl, Nat.le_of_ble_eq_true rfl⟩ (o_recv hK hW hal1.1 (kC_M _ _ _) rfl) hK hW hB hS hl.1 rfl (lv_room (Nat.le_of_ble_eq_true rfl)) ⟨by show 300 + 4 * n + 2 + 0 ≤ 601024; omega, by show 500000 + 100 * n + 80 + 0 ≤ 7293034; omega⟩ dL_law_1414) hS (fun r2 d2 hp2 H locs hW hS => ?_)
  obtain ⟨rfl, hP2⟩ := hp2
  refine lv_icmp_eq (tgt := 1797) hx hb dL_law_1417 (by decide) (fun _ => ?_) (fun h => absurd rfl h)
  exact nx _ _ _ _ _ _ _ _ _ (by omega) (by omega) (lw_end hI0 hAF hP hP2) hW hS hl
set_option maxHeartbeats 400000 in
set_option maxRecDepth 100000 in
theorem lc_28 {p : Program} {l : Launch} {e : Env} {s : State} {m : MethodId} {below : List Frame} {meth : Method} {c : Code} {b L : Nat} {xs : Nat → Int32} {D : va_G} {cA : Nat → ClassId} (hF : lw_F p s m meth c b L xs D cA) {x0 m0 o0 n : Nat} (hn : 8 * n + 8 ≤ L) (nx : lw_NX p l e s m below meth c b D cA x0 m0 o0 n) {S : sS} {sr : Nat → Int32} {ad : kA} {d : kD} {H : Heap} {locs : List Loc} {ls : Array Slot} (hI : lw_I cA x0 m0 o0 S sr ad d) (hW : oW D cA s.heap.size ad d H) (hS : va_S (oA s.heap.size) s.heap H locs) (hl : lv_has ls 7 [(4, .int (nI (8 * n))), (3, .ref o0), (2, .ref m0), (1, .ref x0), (0, .ref b)]) : W p l e room_1 s m #[Value.ref b] below meth c H locs (300 + 4 * n) (500000 + 100 * n) (lw_Z below #[Value.ref b] s) (F0 m 1422 ls []) := by
  obtain ⟨⟨hx, hb, hr, hml, hown, hts, hX, hbl, hlocks, hgv⟩, hL, hK, hB, hu⟩ := hF
  have hI0 := hI
  obtain ⟨hM, hR, hMm, hRm, hal, h31, h30, rfl, rfl, rfl⟩ := hI
  have hA := hM.1.1
  refine lv_aload_n hx hb dL_law_1422 rfl (lv_at hl 3 rfl) ?_
  refine lv_aload_n hx hb dL_law_1423 rfl (lv_at hl 4 rfl) ?_
  refine lv_iload hx hb dL_law_1424 (lv_at hl 0 rfl) ?_
  refine n_iconst (v := 1) hx hb dL_law_1426 (by decide) ?_
  refine n_iadd hx hb dL_law_1427 ?_
  refine l_sld hx hb hX hbl hS (by omega) hL dL_law_1428 ?_
  refine lv_aload_n hx hb dL_law_1429 rfl (lv_at hl 4 rfl) ?_
  refine lv_iload hx hb dL_law_1430 (lv_at hl 0 rfl) ?_
  refine n_iconst (v := 2) hx hb dL_law_1432 (by decide) ?_
  refine n_iadd hx hb dL_law_1433 ?_
  refine l_sld hx hb hX hbl hS (by omega) hL dL_law_1434 ?_
  refine o_calli (o_runV (As := [.int (xs (8 * n + 1)), .int (xs (8 * n + 2))]) (rest := []) ⟨hx, hb, hml, hown, hu⟩ (c_X9_truth l D cA s.heap.size ad hal S sr d hM hR (xs (8 * n + 1)) (xs (8 * n + 2))) (gV_L_139 (fun _ h => h)) (n0 := 2) rfl (by decide +kernel) rfl ⟨Nat.le_of_ble_eq_true rfl, Nat.le_of_ble_eq_true rfl⟩ (o_recv hK hW (hA.o (k := 0) rfl) (kX_0 _ _ _ _) rfl) hK hW hB hS hl.1 rfl (lv_room (Nat.le_of_ble_eq_true rfl)) ⟨by show 300 + 4 * n + 0 ≤ 601024; omega, by show 500000 + 100 * n + 0 ≤ 7293034; omega⟩ dL_law_1435) hS (fun r d1 hp H locs hW hS => ?_)
  obtain ⟨rfl, hP⟩ := hp
  obtain ⟨hMm1, hRm1⟩ := lw_mid hMm hRm hP.2.2
  refine lv_aload_n hx hb dL_law_1438 rfl (lv_at hl 2 rfl) ?_
  refine lv_aload_n hx hb dL_law_1439 rfl (lv_at hl 4 rfl) ?_
  refine lv_iload hx hb dL_law_1440 (lv_at hl 0 rfl) ?_
  refine n_iconst (v := 1) hx hb dL_law_1442 (by decide) ?_
  refine n_iadd hx hb dL_law_1443 ?_
  refine l_sld hx hb hX hbl hS (by omega) hL dL_law_1444 ?_
  refine lv_aload_n hx hb dL_law_1445 rfl (lv_at hl 4 rfl) ?_
  refine lv_iload hx hb dL_law_1446 (lv_at hl 0 rfl) ?_
  refine n_iconst (v := 2) hx hb dL_law_1448 (by decide) ?_
  refine n_iadd hx hb dL_law_1449 ?_
  refine l_sld hx hb hX hbl hS (by omega) hL dL_law_1450 ?_
  have hal1 : mAl ad := hal
  refine o_calli (o_runV (As := [.int (xs (8 * n + 1)), .int (xs (8 * n + 2))]) (rest := [.int (aTruth S (xs (8 * n + 1)) (xs (8 * n + 2)))]) ⟨hx, hb, hml, hown, hu⟩ (c_X10_truth l D cA s.heap.size ad hal1 S sr d1 hMm1 hRm1 (xs (8 * n + 1)) (xs (8 * n + 2))) (gV_L_142 (fun _ h => h)) (n0 := 2) rfl (by decide +kernel) rfl ⟨Nat.le_of_ble_eq_true rfl, Nat.le_of_ble_eq_true rfl⟩ (o_recv hK hW hal1.1 (kC_M _ _ _) rfl) hK hW hB hS hl.1 rfl (lv_room (Nat.le_of_ble_eq_true rfl)) ⟨by show 300 + 4 * n + 0 + 0 ≤ 601024; omega, by show 500000 + 100 * n + 0 + 0 ≤ 7293034; omega⟩ dL_law_1451) hS (fun r2 d2 hp2 H locs hW hS => ?_)
  obtain ⟨rfl, hP2⟩ := hp2
  refine lv_icmp_eq (tgt := 1797) hx hb dL_law_1454 (by decide) (fun _ => ?_) (fun h => absurd rfl h)
  exact nx _ _ _ _ _ _ _ _ _ (by omega) (by omega) (lw_end hI0 (AFr.refl ad) hP hP2) hW hS hl
set_option maxHeartbeats 400000 in
set_option maxRecDepth 100000 in
theorem lc_29 {p : Program} {l : Launch} {e : Env} {s : State} {m : MethodId} {below : List Frame} {meth : Method} {c : Code} {b L : Nat} {xs : Nat → Int32} {D : va_G} {cA : Nat → ClassId} (hF : lw_F p s m meth c b L xs D cA) {x0 m0 o0 n : Nat} (hn : 8 * n + 8 ≤ L) (nx : lw_NX p l e s m below meth c b D cA x0 m0 o0 n) {S : sS} {sr : Nat → Int32} {ad : kA} {d : kD} {H : Heap} {locs : List Loc} {ls : Array Slot} (hI : lw_I cA x0 m0 o0 S sr ad d) (hW : oW D cA s.heap.size ad d H) (hS : va_S (oA s.heap.size) s.heap H locs) (hl : lv_has ls 7 [(4, .int (nI (8 * n))), (3, .ref o0), (2, .ref m0), (1, .ref x0), (0, .ref b)]) : W p l e room_1 s m #[Value.ref b] below meth c H locs (300 + 4 * n) (500000 + 100 * n) (lw_Z below #[Value.ref b] s) (F0 m 1459 ls []) := by
  obtain ⟨⟨hx, hb, hr, hml, hown, hts, hX, hbl, hlocks, hgv⟩, hL, hK, hB, hu⟩ := hF
  have hI0 := hI
  obtain ⟨hM, hR, hMm, hRm, hal, h31, h30, rfl, rfl, rfl⟩ := hI
  have hA := hM.1.1
  refine lv_aload_n hx hb dL_law_1459 rfl (lv_at hl 3 rfl) ?_
  refine lv_aload_n hx hb dL_law_1460 rfl (lv_at hl 4 rfl) ?_
  refine lv_iload hx hb dL_law_1461 (lv_at hl 0 rfl) ?_
  refine n_iconst (v := 1) hx hb dL_law_1463 (by decide) ?_
  refine n_iadd hx hb dL_law_1464 ?_
  refine l_sld hx hb hX hbl hS (by omega) hL dL_law_1465 ?_
  refine lv_aload_n hx hb dL_law_1466 rfl (lv_at hl 4 rfl) ?_
  refine lv_iload hx hb dL_law_1467 (lv_at hl 0 rfl) ?_
  refine n_iconst (v := 2) hx hb dL_law_1469 (by decide) ?_
  refine n_iadd hx hb dL_law_1470 ?_
  refine l_sld hx hb hX hbl hS (by omega) hL dL_law_1471 ?_
  refine lv_aload_n hx hb dL_law_1472 rfl (lv_at hl 4 rfl) ?_
  refine lv_iload hx hb dL_law_1473 (lv_at hl 0 rfl) ?_
  refine n_iconst (v := 3) hx hb dL_law_1475 (by decide) ?_
  refine n_iadd hx hb dL_law_1476 ?_
  refine l_sld hx hb hX hbl hS (by omega) hL dL_law_1477 ?_
  refine o_calli (o_runV (As := [.int (xs (8 * n + 1)), .int (xs (8 * n + 2)), .int (xs (8 * n + 3))]) (rest := []) ⟨hx, hb, hml, hown, hu⟩ (c_X9_shut l D cA s.heap.size ad hal S sr d hM hR (xs (8 * n + 1)) (xs (8 * n + 2)) (xs (8 * n + 3))) (gV_L_143 (fun _ h => h)) (n0 := 3) rfl (by decide +kernel) rfl ⟨Nat.le_of_ble_eq_true rfl, Nat.le_of_ble_eq_true rfl⟩ (o_recv hK hW (hA.o (k := 0) rfl) (kX_0 _ _ _ _) rfl) hK hW hB hS hl.1 rfl (lv_room (Nat.le_of_ble_eq_true rfl)) ⟨by show 300 + 4 * n + 0 ≤ 601024; omega, by show 500000 + 100 * n + 0 ≤ 7293034; omega⟩ dL_law_1478) hS (fun r d1 hp H locs hW hS => ?_)
  obtain ⟨rfl, hP⟩ := hp
  obtain ⟨hMm1, hRm1⟩ := lw_mid hMm hRm hP.2.2
  refine lv_aload_n hx hb dL_law_1481 rfl (lv_at hl 2 rfl) ?_
  refine lv_aload_n hx hb dL_law_1482 rfl (lv_at hl 4 rfl) ?_
  refine lv_iload hx hb dL_law_1483 (lv_at hl 0 rfl) ?_
  refine n_iconst (v := 1) hx hb dL_law_1485 (by decide) ?_
  refine n_iadd hx hb dL_law_1486 ?_
  refine l_sld hx hb hX hbl hS (by omega) hL dL_law_1487 ?_
  refine lv_aload_n hx hb dL_law_1488 rfl (lv_at hl 4 rfl) ?_
  refine lv_iload hx hb dL_law_1489 (lv_at hl 0 rfl) ?_
  refine n_iconst (v := 2) hx hb dL_law_1491 (by decide) ?_
  refine n_iadd hx hb dL_law_1492 ?_
  refine l_sld hx hb hX hbl hS (by omega) hL dL_law_1493 ?_
  refine lv_aload_n hx hb dL_law_1494 rfl (lv_at hl 4 rfl) ?_
  refine lv_iload hx hb dL_law_1495 (lv_at hl 0 rfl) ?_
  refine n_iconst (v := 3) hx hb dL_law_1497 (by decide) ?_
  refine n_iadd hx hb dL_law_1498 ?_
  refine l_sld hx hb hX hbl hS (by omega) hL dL_law_1499 ?_
  have hal1 : mAl ad := hal
  refine o_calli (o_runV (As := [.int (xs (8 * n + 1)), .int (xs (8 * n + 2)), .int (xs (8 * n + 3))]) (rest := [.int (aShut S (xs (8 * n + 1)) (xs (8 * n + 2)) (xs (8 * n + 3)))]) ⟨hx, hb, hml, hown, hu⟩ (c_X10_shut l D cA s.heap.size ad hal1 S sr d1 hMm1 hRm1 (xs (8 * n + 1)) (xs (8 * n + 2)) (xs (8 * n + 3))) (gV_L_146 (fun _ h => h)) (n0 := 3) rfl (by decide +kernel) rfl ⟨Nat.le_of_ble_eq_true rfl, Nat.le_of_ble_eq_true rfl⟩ (o_recv hK hW hal1.1 (kC_M _ _ _) rfl) hK hW hB hS hl.1 rfl (lv_room (Nat.le_of_ble_eq_true rfl)) ⟨by show 300 + 4 * n + 0 + 0 ≤ 601024; omega, by show 500000 + 100 * n + 0 + 0 ≤ 7293034; omega⟩ dL_law_1500) hS (fun r2 d2 hp2 H locs hW hS => ?_)
  obtain ⟨rfl, hP2⟩ := hp2
  refine lv_icmp_eq (tgt := 1797) hx hb dL_law_1503 (by decide) (fun _ => ?_) (fun h => absurd rfl h)
  exact nx _ _ _ _ _ _ _ _ _ (by omega) (by omega) (lw_end hI0 (AFr.refl ad) hP hP2) hW hS hl
set_option maxHeartbeats 400000 in
set_option maxRecDepth 100000 in
theorem lc_30 {p : Program} {l : Launch} {e : Env} {s : State} {m : MethodId} {below : List Frame} {meth : Method} {c : Code} {b L : Nat} {xs : Nat → Int32} {D : va_G} {cA : Nat → ClassId} (hF : lw_F p s m meth c b L xs D cA) {x0 m0 o0 n : Nat} (hn : 8 * n + 8 ≤ L) (nx : lw_NX p l e s m below meth c b D cA x0 m0 o0 n) {S : sS} {sr : Nat → Int32} {ad : kA} {d : kD} {H : Heap} {locs : List Loc} {ls : Array Slot} (hI : lw_I cA x0 m0 o0 S sr ad d) (hW : oW D cA s.heap.size ad d H) (hS : va_S (oA s.heap.size) s.heap H locs) (hl : lv_has ls 7 [(4, .int (nI (8 * n))), (3, .ref o0), (2, .ref m0), (1, .ref x0), (0, .ref b)]) : W p l e room_1 s m #[Value.ref b] below meth c H locs (300 + 4 * n) (500000 + 100 * n) (lw_Z below #[Value.ref b] s) (F0 m 1508 ls []) := by
  obtain ⟨⟨hx, hb, hr, hml, hown, hts, hX, hbl, hlocks, hgv⟩, hL, hK, hB, hu⟩ := hF
  have hI0 := hI
  obtain ⟨hM, hR, hMm, hRm, hal, h31, h30, rfl, rfl, rfl⟩ := hI
  have hA := hM.1.1
  refine lv_aload_n hx hb dL_law_1508 rfl (lv_at hl 3 rfl) ?_
  refine lv_aload_n hx hb dL_law_1509 rfl (lv_at hl 4 rfl) ?_
  refine lv_iload hx hb dL_law_1510 (lv_at hl 0 rfl) ?_
  refine n_iconst (v := 1) hx hb dL_law_1512 (by decide) ?_
  refine n_iadd hx hb dL_law_1513 ?_
  refine l_sld hx hb hX hbl hS (by omega) hL dL_law_1514 ?_
  refine lv_aload_n hx hb dL_law_1515 rfl (lv_at hl 4 rfl) ?_
  refine lv_iload hx hb dL_law_1516 (lv_at hl 0 rfl) ?_
  refine n_iconst (v := 2) hx hb dL_law_1518 (by decide) ?_
  refine n_iadd hx hb dL_law_1519 ?_
  refine l_sld hx hb hX hbl hS (by omega) hL dL_law_1520 ?_
  refine lv_aload_n hx hb dL_law_1521 rfl (lv_at hl 4 rfl) ?_
  refine lv_iload hx hb dL_law_1522 (lv_at hl 0 rfl) ?_
  refine n_iconst (v := 3) hx hb dL_law_1524 (by decide) ?_
  refine n_iadd hx hb dL_law_1525 ?_
  refine l_sld hx hb hX hbl hS (by omega) hL dL_law_1526 ?_
  refine lv_aload_n hx hb dL_law_1527 rfl (lv_at hl 4 rfl) ?_
  refine lv_iload hx hb dL_law_1528 (lv_at hl 0 rfl) ?_
  refine n_iconst (v := 4) hx hb dL_law_1530 (by decide) ?_
  refine n_iadd hx hb dL_law_1531 ?_
  refine l_sld hx hb hX hbl hS (by omega) hL dL_law_1532 ?_
  refine o_calli (o_runV (As := [.int (xs (8 * n + 1)), .int (xs (8 * n + 2)), .int (xs (8 * n + 3)), .int (xs (8 * n + 4))]) (rest := []) ⟨hx, hb, hml, hown, hu⟩ (c_X9_run l D cA s.heap.size ad hal S sr d hM hR (xs (8 * n + 1)) (xs (8 * n + 2)) (xs (8 * n + 3)) (xs (8 * n + 4))) (gV_L_147 (fun _ h => h)) (n0 := 4) rfl (by decide +kernel) rfl ⟨Nat.le_of_ble_eq_true rfl, Nat.le_of_ble_eq_true rfl⟩ (o_recv hK hW (hA.o (k := 0) rfl) (kX_0 _ _ _ _) rfl) hK hW hB hS hl.1 rfl (lv_room (Nat.le_of_ble_eq_true rfl)) ⟨by show 300 + 4 * n + 0 ≤ 601024; omega, by show 500000 + 100 * n + 0 ≤ 7293034; omega⟩ dL_law_1533) hS (fun r d1 hp H locs hW hS => ?_)
  obtain ⟨rfl, hP⟩ := hp
  obtain ⟨hMm1, hRm1⟩ := lw_mid hMm hRm hP.2.2
  refine lv_aload_n hx hb dL_law_1536 rfl (lv_at hl 2 rfl) ?_
  refine lv_aload_n hx hb dL_law_1537 rfl (lv_at hl 4 rfl) ?_
  refine lv_iload hx hb dL_law_1538 (lv_at hl 0 rfl) ?_
  refine n_iconst (v := 1) hx hb dL_law_1540 (by decide) ?_
  refine n_iadd hx hb dL_law_1541 ?_
  refine l_sld hx hb hX hbl hS (by omega) hL dL_law_1542 ?_
  refine lv_aload_n hx hb dL_law_1543 rfl (lv_at hl 4 rfl) ?_
  refine lv_iload hx hb dL_law_1544 (lv_at hl 0 rfl) ?_
  refine n_iconst (v := 2) hx hb dL_law_1546 (by decide) ?_
  refine n_iadd hx hb dL_law_1547 ?_
  refine l_sld hx hb hX hbl hS (by omega) hL dL_law_1548 ?_
  refine lv_aload_n hx hb dL_law_1549 rfl (lv_at hl 4 rfl) ?_
  refine lv_iload hx hb dL_law_1550 (lv_at hl 0 rfl) ?_
  refine n_iconst (v := 3) hx hb dL_law_1552 (by decide) ?_
  refine n_iadd hx hb dL_law_1553 ?_
  refine l_sld hx hb hX hbl hS (by omega) hL dL_law_1554 ?_
  refine lv_aload_n hx hb dL_law_1555 rfl (lv_at hl 4 rfl) ?_
  refine lv_iload hx hb dL_law_1556 (lv_at hl 0 rfl) ?_
  refine n_iconst (v := 4) hx hb dL_law_1558 (by decide) ?_
  refine n_iadd hx hb dL_law_1559 ?_
  refine l_sld hx hb hX hbl hS (by omega) hL dL_law_1560 ?_
  have hal1 : mAl ad := hal
  refine o_calli (o_runV (As := [.int (xs (8 * n + 1)), .int (xs (8 * n + 2)), .int (xs (8 * n + 3)), .int (xs (8 * n + 4))]) (rest := [.int (aRun S (xs (8 * n + 1)) (xs (8 * n + 2)) (xs (8 * n + 3)) (xs (8 * n + 4)))]) ⟨hx, hb, hml, hown, hu⟩ (c_X10_run l D cA s.heap.size ad hal1 S sr d1 hMm1 hRm1 (xs (8 * n + 1)) (xs (8 * n + 2)) (xs (8 * n + 3)) (xs (8 * n + 4))) (gV_L_150 (fun _ h => h)) (n0 := 4) rfl (by decide +kernel) rfl ⟨Nat.le_of_ble_eq_true rfl, Nat.le_of_ble_eq_true rfl⟩ (o_recv hK hW hal1.1 (kC_M _ _ _) rfl) hK hW hB hS hl.1 rfl (lv_room (Nat.le_of_ble_eq_true rfl)) ⟨by show 300 + 4 * n + 0 + 0 ≤ 601024; omega, by show 500000 + 100 * n + 0 + 0 ≤ 7293034; omega⟩ dL_law_1561) hS (fun r2 d2 hp2 H locs hW hS => ?_)
  obtain ⟨rfl, hP2⟩ := hp2
  refine lv_icmp_eq (tgt := 1797) hx hb dL_law_1564 (by decide) (fun _ => ?_) (fun h => absurd rfl h)
  exact nx _ _ _ _ _ _ _ _ _ (by omega) (by omega) (lw_end hI0 (AFr.refl ad) hP hP2) hW hS hl
set_option maxHeartbeats 400000 in
set_option maxRecDepth 100000 in
theorem lc_31 {p : Program} {l : Launch} {e : Env} {s : State} {m : MethodId} {below : List Frame} {meth : Method} {c : Code} {b L : Nat} {xs : Nat → Int32} {D : va_G} {cA : Nat → ClassId} (hF : lw_F p s m meth c b L xs D cA) {x0 m0 o0 n : Nat} (hn : 8 * n + 8 ≤ L) (nx : lw_NX p l e s m below meth c b D cA x0 m0 o0 n) {S : sS} {sr : Nat → Int32} {ad : kA} {d : kD} {H : Heap} {locs : List Loc} {ls : Array Slot} (hI : lw_I cA x0 m0 o0 S sr ad d) (hW : oW D cA s.heap.size ad d H) (hS : va_S (oA s.heap.size) s.heap H locs) (hl : lv_has ls 7 [(4, .int (nI (8 * n))), (3, .ref o0), (2, .ref m0), (1, .ref x0), (0, .ref b)]) : W p l e room_1 s m #[Value.ref b] below meth c H locs (300 + 4 * n) (500000 + 100 * n) (lw_Z below #[Value.ref b] s) (F0 m 1569 ls []) := by
  obtain ⟨⟨hx, hb, hr, hml, hown, hts, hX, hbl, hlocks, hgv⟩, hL, hK, hB, hu⟩ := hF
  have hI0 := hI
  obtain ⟨hM, hR, hMm, hRm, hal, h31, h30, rfl, rfl, rfl⟩ := hI
  have hA := hM.1.1
  refine lv_aload_n hx hb dL_law_1569 rfl (lv_at hl 3 rfl) ?_
  refine lv_aload_n hx hb dL_law_1570 rfl (lv_at hl 4 rfl) ?_
  refine lv_iload hx hb dL_law_1571 (lv_at hl 0 rfl) ?_
  refine n_iconst (v := 1) hx hb dL_law_1573 (by decide) ?_
  refine n_iadd hx hb dL_law_1574 ?_
  refine l_sld hx hb hX hbl hS (by omega) hL dL_law_1575 ?_
  refine lv_aload_n hx hb dL_law_1576 rfl (lv_at hl 4 rfl) ?_
  refine lv_iload hx hb dL_law_1577 (lv_at hl 0 rfl) ?_
  refine n_iconst (v := 2) hx hb dL_law_1579 (by decide) ?_
  refine n_iadd hx hb dL_law_1580 ?_
  refine l_sld hx hb hX hbl hS (by omega) hL dL_law_1581 ?_
  refine lv_aload_n hx hb dL_law_1582 rfl (lv_at hl 4 rfl) ?_
  refine lv_iload hx hb dL_law_1583 (lv_at hl 0 rfl) ?_
  refine n_iconst (v := 3) hx hb dL_law_1585 (by decide) ?_
  refine n_iadd hx hb dL_law_1586 ?_
  refine l_sld hx hb hX hbl hS (by omega) hL dL_law_1587 ?_
  refine lv_aload_n hx hb dL_law_1588 rfl (lv_at hl 4 rfl) ?_
  refine lv_iload hx hb dL_law_1589 (lv_at hl 0 rfl) ?_
  refine n_iconst (v := 4) hx hb dL_law_1591 (by decide) ?_
  refine n_iadd hx hb dL_law_1592 ?_
  refine l_sld hx hb hX hbl hS (by omega) hL dL_law_1593 ?_
  refine o_calli (o_runV (As := [.int (xs (8 * n + 1)), .int (xs (8 * n + 2)), .int (xs (8 * n + 3)), .int (xs (8 * n + 4))]) (rest := []) ⟨hx, hb, hml, hown, hu⟩ (c_X9_best l D cA s.heap.size ad hal S sr d hM hR (xs (8 * n + 1)) (xs (8 * n + 2)) (xs (8 * n + 3)) (xs (8 * n + 4))) (gV_L_151 (fun _ h => h)) (n0 := 4) rfl (by decide +kernel) rfl ⟨Nat.le_of_ble_eq_true rfl, Nat.le_of_ble_eq_true rfl⟩ (o_recv hK hW (hA.o (k := 0) rfl) (kX_0 _ _ _ _) rfl) hK hW hB hS hl.1 rfl (lv_room (Nat.le_of_ble_eq_true rfl)) ⟨by show 300 + 4 * n + 0 ≤ 601024; omega, by show 500000 + 100 * n + 0 ≤ 7293034; omega⟩ dL_law_1594) hS (fun r d1 hp H locs hW hS => ?_)
  obtain ⟨rfl, hP⟩ := hp
  obtain ⟨hMm1, hRm1⟩ := lw_mid hMm hRm hP.2.2
  refine lv_aload_n hx hb dL_law_1597 rfl (lv_at hl 2 rfl) ?_
  refine lv_aload_n hx hb dL_law_1598 rfl (lv_at hl 4 rfl) ?_
  refine lv_iload hx hb dL_law_1599 (lv_at hl 0 rfl) ?_
  refine n_iconst (v := 1) hx hb dL_law_1601 (by decide) ?_
  refine n_iadd hx hb dL_law_1602 ?_
  refine l_sld hx hb hX hbl hS (by omega) hL dL_law_1603 ?_
  refine lv_aload_n hx hb dL_law_1604 rfl (lv_at hl 4 rfl) ?_
  refine lv_iload hx hb dL_law_1605 (lv_at hl 0 rfl) ?_
  refine n_iconst (v := 2) hx hb dL_law_1607 (by decide) ?_
  refine n_iadd hx hb dL_law_1608 ?_
  refine l_sld hx hb hX hbl hS (by omega) hL dL_law_1609 ?_
  refine lv_aload_n hx hb dL_law_1610 rfl (lv_at hl 4 rfl) ?_
  refine lv_iload hx hb dL_law_1611 (lv_at hl 0 rfl) ?_
  refine n_iconst (v := 3) hx hb dL_law_1613 (by decide) ?_
  refine n_iadd hx hb dL_law_1614 ?_
  refine l_sld hx hb hX hbl hS (by omega) hL dL_law_1615 ?_
  refine lv_aload_n hx hb dL_law_1616 rfl (lv_at hl 4 rfl) ?_
  refine lv_iload hx hb dL_law_1617 (lv_at hl 0 rfl) ?_
  refine n_iconst (v := 4) hx hb dL_law_1619 (by decide) ?_
  refine n_iadd hx hb dL_law_1620 ?_
  refine l_sld hx hb hX hbl hS (by omega) hL dL_law_1621 ?_
  have hal1 : mAl ad := hal
  refine o_calli (o_runV (As := [.int (xs (8 * n + 1)), .int (xs (8 * n + 2)), .int (xs (8 * n + 3)), .int (xs (8 * n + 4))]) (rest := [.int (aBest S (xs (8 * n + 1)) (xs (8 * n + 2)) (xs (8 * n + 3)) (xs (8 * n + 4)))]) ⟨hx, hb, hml, hown, hu⟩ (c_X10_best l D cA s.heap.size ad hal1 S sr d1 hMm1 hRm1 (xs (8 * n + 1)) (xs (8 * n + 2)) (xs (8 * n + 3)) (xs (8 * n + 4))) (gV_L_154 (fun _ h => h)) (n0 := 4) rfl (by decide +kernel) rfl ⟨Nat.le_of_ble_eq_true rfl, Nat.le_of_ble_eq_true rfl⟩ (o_recv hK hW hal1.1 (kC_M _ _ _) rfl) hK hW hB hS hl.1 rfl (lv_room (Nat.le_of_ble_eq_true rfl)) ⟨by show 300 + 4 * n + 0 + 0 ≤ 601024; omega, by show 500000 + 100 * n + 0 + 0 ≤ 7293034; omega⟩ dL_law_1622) hS (fun r2 d2 hp2 H locs hW hS => ?_)
  obtain ⟨rfl, hP2⟩ := hp2
  refine lv_icmp_eq (tgt := 1797) hx hb dL_law_1625 (by decide) (fun _ => ?_) (fun h => absurd rfl h)
  exact nx _ _ _ _ _ _ _ _ _ (by omega) (by omega) (lw_end hI0 (AFr.refl ad) hP hP2) hW hS hl
set_option maxHeartbeats 400000 in
set_option maxRecDepth 100000 in
theorem lc_32 {p : Program} {l : Launch} {e : Env} {s : State} {m : MethodId} {below : List Frame} {meth : Method} {c : Code} {b L : Nat} {xs : Nat → Int32} {D : va_G} {cA : Nat → ClassId} (hF : lw_F p s m meth c b L xs D cA) {x0 m0 o0 n : Nat} (hn : 8 * n + 8 ≤ L) (nx : lw_NX p l e s m below meth c b D cA x0 m0 o0 n) {S : sS} {sr : Nat → Int32} {ad : kA} {d : kD} {H : Heap} {locs : List Loc} {ls : Array Slot} (hI : lw_I cA x0 m0 o0 S sr ad d) (hW : oW D cA s.heap.size ad d H) (hS : va_S (oA s.heap.size) s.heap H locs) (hl : lv_has ls 7 [(4, .int (nI (8 * n))), (3, .ref o0), (2, .ref m0), (1, .ref x0), (0, .ref b)]) : W p l e room_1 s m #[Value.ref b] below meth c H locs (300 + 4 * n) (500000 + 100 * n) (lw_Z below #[Value.ref b] s) (F0 m 1630 ls []) := by
  obtain ⟨⟨hx, hb, hr, hml, hown, hts, hX, hbl, hlocks, hgv⟩, hL, hK, hB, hu⟩ := hF
  have hI0 := hI
  obtain ⟨hM, hR, hMm, hRm, hal, h31, h30, rfl, rfl, rfl⟩ := hI
  have hA := hM.1.1
  refine lv_aload_n hx hb dL_law_1630 rfl (lv_at hl 3 rfl) ?_
  refine lv_aload_n hx hb dL_law_1631 rfl (lv_at hl 4 rfl) ?_
  refine lv_iload hx hb dL_law_1632 (lv_at hl 0 rfl) ?_
  refine n_iconst (v := 1) hx hb dL_law_1634 (by decide) ?_
  refine n_iadd hx hb dL_law_1635 ?_
  refine l_sld hx hb hX hbl hS (by omega) hL dL_law_1636 ?_
  refine lv_aload_n hx hb dL_law_1637 rfl (lv_at hl 4 rfl) ?_
  refine lv_iload hx hb dL_law_1638 (lv_at hl 0 rfl) ?_
  refine n_iconst (v := 2) hx hb dL_law_1640 (by decide) ?_
  refine n_iadd hx hb dL_law_1641 ?_
  refine l_sld hx hb hX hbl hS (by omega) hL dL_law_1642 ?_
  refine lv_aload_n hx hb dL_law_1643 rfl (lv_at hl 4 rfl) ?_
  refine lv_iload hx hb dL_law_1644 (lv_at hl 0 rfl) ?_
  refine n_iconst (v := 3) hx hb dL_law_1646 (by decide) ?_
  refine n_iadd hx hb dL_law_1647 ?_
  refine l_sld hx hb hX hbl hS (by omega) hL dL_law_1648 ?_
  refine o_calliA (o_runV (As := [.int (xs (8 * n + 1)), .int (xs (8 * n + 2)), .int (xs (8 * n + 3))]) (rest := []) ⟨hx, hb, hml, hown, hu⟩ (c_X9_offer l D cA s.heap.size ad hal S sr d hM hR (xs (8 * n + 1)) (xs (8 * n + 2)) (xs (8 * n + 3))) (gV_L_155 (fun _ h => h)) (n0 := 3) rfl (by decide +kernel) rfl ⟨Nat.le_of_ble_eq_true rfl, Nat.le_of_ble_eq_true rfl⟩ (o_recv hK hW (hA.o (k := 0) rfl) (kX_0 _ _ _ _) rfl) hK hW hB hS hl.1 rfl (lv_room (Nat.le_of_ble_eq_true rfl)) ⟨by show 300 + 4 * n + 2 ≤ 601024; omega, by show 500000 + 100 * n + 80 ≤ 7293034; omega⟩ dL_law_1649) hS (fun r u hp H locs hW hS => ?_)
  obtain ⟨a, d1⟩ := u
  obtain ⟨rfl, hP, hAF⟩ := hp
  have e40 : a.1 40 0 = ad.1 40 0 := by rw [hAF.1 40 (by omega)]
  obtain ⟨hMm1, hRm1⟩ := lw_mid hMm hRm hP.2.2
  refine lv_aload_n hx hb dL_law_1652 rfl (lv_at hl 2 rfl) ?_
  refine lv_aload_n hx hb dL_law_1653 rfl (lv_at hl 4 rfl) ?_
  refine lv_iload hx hb dL_law_1654 (lv_at hl 0 rfl) ?_
  refine n_iconst (v := 1) hx hb dL_law_1656 (by decide) ?_
  refine n_iadd hx hb dL_law_1657 ?_
  refine l_sld hx hb hX hbl hS (by omega) hL dL_law_1658 ?_
  refine lv_aload_n hx hb dL_law_1659 rfl (lv_at hl 4 rfl) ?_
  refine lv_iload hx hb dL_law_1660 (lv_at hl 0 rfl) ?_
  refine n_iconst (v := 2) hx hb dL_law_1662 (by decide) ?_
  refine n_iadd hx hb dL_law_1663 ?_
  refine l_sld hx hb hX hbl hS (by omega) hL dL_law_1664 ?_
  refine lv_aload_n hx hb dL_law_1665 rfl (lv_at hl 4 rfl) ?_
  refine lv_iload hx hb dL_law_1666 (lv_at hl 0 rfl) ?_
  refine n_iconst (v := 3) hx hb dL_law_1668 (by decide) ?_
  refine n_iadd hx hb dL_law_1669 ?_
  refine l_sld hx hb hX hbl hS (by omega) hL dL_law_1670 ?_
  refine W.eq (g2 := F0 m 1671 ls [.int (xs (8 * n + 3)), .int (xs (8 * n + 2)), .int (xs (8 * n + 1)), .ref (a.1 40 0), .int (aOffer S (xs (8 * n + 1)) (xs (8 * n + 2)) (xs (8 * n + 3)))]) (by rw [e40]) ?_
  have hal1 : mAl a := (hAF.mal hal)
  refine o_calli (o_runV (As := [.int (xs (8 * n + 1)), .int (xs (8 * n + 2)), .int (xs (8 * n + 3))]) (rest := [.int (aOffer S (xs (8 * n + 1)) (xs (8 * n + 2)) (xs (8 * n + 3)))]) ⟨hx, hb, hml, hown, hu⟩ (c_X10_offer l D cA s.heap.size a hal1 S sr d1 hMm1 hRm1 (xs (8 * n + 1)) (xs (8 * n + 2)) (xs (8 * n + 3))) (gV_L_158 (fun _ h => h)) (n0 := 3) rfl (by decide +kernel) rfl ⟨Nat.le_of_ble_eq_true rfl, Nat.le_of_ble_eq_true rfl⟩ (o_recv hK hW hal1.1 (kC_M _ _ _) rfl) hK hW hB hS hl.1 rfl (lv_room (Nat.le_of_ble_eq_true rfl)) ⟨by show 300 + 4 * n + 2 + 0 ≤ 601024; omega, by show 500000 + 100 * n + 80 + 0 ≤ 7293034; omega⟩ dL_law_1671) hS (fun r2 d2 hp2 H locs hW hS => ?_)
  obtain ⟨rfl, hP2⟩ := hp2
  refine lv_icmp_eq (tgt := 1797) hx hb dL_law_1674 (by decide) (fun _ => ?_) (fun h => absurd rfl h)
  exact nx _ _ _ _ _ _ _ _ _ (by omega) (by omega) (lw_end hI0 hAF hP hP2) hW hS hl
set_option maxHeartbeats 400000 in
set_option maxRecDepth 100000 in
theorem lc_33 {p : Program} {l : Launch} {e : Env} {s : State} {m : MethodId} {below : List Frame} {meth : Method} {c : Code} {b L : Nat} {xs : Nat → Int32} {D : va_G} {cA : Nat → ClassId} (hF : lw_F p s m meth c b L xs D cA) {x0 m0 o0 n : Nat} (hn : 8 * n + 8 ≤ L) (nx : lw_NX p l e s m below meth c b D cA x0 m0 o0 n) {S : sS} {sr : Nat → Int32} {ad : kA} {d : kD} {H : Heap} {locs : List Loc} {ls : Array Slot} (hI : lw_I cA x0 m0 o0 S sr ad d) (hW : oW D cA s.heap.size ad d H) (hS : va_S (oA s.heap.size) s.heap H locs) (hl : lv_has ls 7 [(4, .int (nI (8 * n))), (3, .ref o0), (2, .ref m0), (1, .ref x0), (0, .ref b)]) : W p l e room_1 s m #[Value.ref b] below meth c H locs (300 + 4 * n) (500000 + 100 * n) (lw_Z below #[Value.ref b] s) (F0 m 1679 ls []) := by
  obtain ⟨⟨hx, hb, hr, hml, hown, hts, hX, hbl, hlocks, hgv⟩, hL, hK, hB, hu⟩ := hF
  have hI0 := hI
  obtain ⟨hM, hR, hMm, hRm, hal, h31, h30, rfl, rfl, rfl⟩ := hI
  have hA := hM.1.1
  refine lv_aload_n hx hb dL_law_1679 rfl (lv_at hl 3 rfl) ?_
  refine lv_aload_n hx hb dL_law_1680 rfl (lv_at hl 4 rfl) ?_
  refine lv_iload hx hb dL_law_1681 (lv_at hl 0 rfl) ?_
  refine n_iconst (v := 1) hx hb dL_law_1683 (by decide) ?_
  refine n_iadd hx hb dL_law_1684 ?_
  refine l_sld hx hb hX hbl hS (by omega) hL dL_law_1685 ?_
  refine lv_aload_n hx hb dL_law_1686 rfl (lv_at hl 4 rfl) ?_
  refine lv_iload hx hb dL_law_1687 (lv_at hl 0 rfl) ?_
  refine n_iconst (v := 2) hx hb dL_law_1689 (by decide) ?_
  refine n_iadd hx hb dL_law_1690 ?_
  refine l_sld hx hb hX hbl hS (by omega) hL dL_law_1691 ?_
  refine o_calli (o_runV (As := [.int (xs (8 * n + 1)), .int (xs (8 * n + 2))]) (rest := []) ⟨hx, hb, hml, hown, hu⟩ (c_X9_choose l D cA s.heap.size ad hal S sr d hM hR (xs (8 * n + 1)) (xs (8 * n + 2))) (gV_L_159 (fun _ h => h)) (n0 := 2) rfl (by decide +kernel) rfl ⟨Nat.le_of_ble_eq_true rfl, Nat.le_of_ble_eq_true rfl⟩ (o_recv hK hW (hA.o (k := 0) rfl) (kX_0 _ _ _ _) rfl) hK hW hB hS hl.1 rfl (lv_room (Nat.le_of_ble_eq_true rfl)) ⟨by show 300 + 4 * n + 0 ≤ 601024; omega, by show 500000 + 100 * n + 0 ≤ 7293034; omega⟩ dL_law_1692) hS (fun r d1 hp H locs hW hS => ?_)
  obtain ⟨rfl, hP⟩ := hp
  obtain ⟨hMm1, hRm1⟩ := lw_mid hMm hRm hP.2.2
  refine lv_aload_n hx hb dL_law_1695 rfl (lv_at hl 2 rfl) ?_
  refine lv_aload_n hx hb dL_law_1696 rfl (lv_at hl 4 rfl) ?_
  refine lv_iload hx hb dL_law_1697 (lv_at hl 0 rfl) ?_
  refine n_iconst (v := 1) hx hb dL_law_1699 (by decide) ?_
  refine n_iadd hx hb dL_law_1700 ?_
  refine l_sld hx hb hX hbl hS (by omega) hL dL_law_1701 ?_
  refine lv_aload_n hx hb dL_law_1702 rfl (lv_at hl 4 rfl) ?_
  refine lv_iload hx hb dL_law_1703 (lv_at hl 0 rfl) ?_
  refine n_iconst (v := 2) hx hb dL_law_1705 (by decide) ?_
  refine n_iadd hx hb dL_law_1706 ?_
  refine l_sld hx hb hX hbl hS (by omega) hL dL_law_1707 ?_
  have hal1 : mAl ad := hal
  refine o_calli (o_runV (As := [.int (xs (8 * n + 1)), .int (xs (8 * n + 2))]) (rest := [.int (aChoose S (xs (8 * n + 1)) (xs (8 * n + 2)))]) ⟨hx, hb, hml, hown, hu⟩ (c_X10_choose l D cA s.heap.size ad hal1 S sr d1 hMm1 hRm1 (xs (8 * n + 1)) (xs (8 * n + 2))) (gV_L_162 (fun _ h => h)) (n0 := 2) rfl (by decide +kernel) rfl ⟨Nat.le_of_ble_eq_true rfl, Nat.le_of_ble_eq_true rfl⟩ (o_recv hK hW hal1.1 (kC_M _ _ _) rfl) hK hW hB hS hl.1 rfl (lv_room (Nat.le_of_ble_eq_true rfl)) ⟨by show 300 + 4 * n + 0 + 0 ≤ 601024; omega, by show 500000 + 100 * n + 0 + 0 ≤ 7293034; omega⟩ dL_law_1708) hS (fun r2 d2 hp2 H locs hW hS => ?_)
  obtain ⟨rfl, hP2⟩ := hp2
  refine lv_icmp_eq (tgt := 1797) hx hb dL_law_1711 (by decide) (fun _ => ?_) (fun h => absurd rfl h)
  exact nx _ _ _ _ _ _ _ _ _ (by omega) (by omega) (lw_end hI0 (AFr.refl ad) hP hP2) hW hS hl
set_option maxHeartbeats 400000 in
set_option maxRecDepth 100000 in
theorem lc_34 {p : Program} {l : Launch} {e : Env} {s : State} {m : MethodId} {below : List Frame} {meth : Method} {c : Code} {b L : Nat} {xs : Nat → Int32} {D : va_G} {cA : Nat → ClassId} (hF : lw_F p s m meth c b L xs D cA) {x0 m0 o0 n : Nat} (hn : 8 * n + 8 ≤ L) (nx : lw_NX p l e s m below meth c b D cA x0 m0 o0 n) {S : sS} {sr : Nat → Int32} {ad : kA} {d : kD} {H : Heap} {locs : List Loc} {ls : Array Slot} (hI : lw_I cA x0 m0 o0 S sr ad d) (hW : oW D cA s.heap.size ad d H) (hS : va_S (oA s.heap.size) s.heap H locs) (hl : lv_has ls 7 [(4, .int (nI (8 * n))), (3, .ref o0), (2, .ref m0), (1, .ref x0), (0, .ref b)]) : W p l e room_1 s m #[Value.ref b] below meth c H locs (300 + 4 * n) (500000 + 100 * n) (lw_Z below #[Value.ref b] s) (F0 m 1716 ls []) := by
  obtain ⟨⟨hx, hb, hr, hml, hown, hts, hX, hbl, hlocks, hgv⟩, hL, hK, hB, hu⟩ := hF
  have hI0 := hI
  obtain ⟨hM, hR, hMm, hRm, hal, h31, h30, rfl, rfl, rfl⟩ := hI
  have hA := hM.1.1
  refine lv_aload_n hx hb dL_law_1716 rfl (lv_at hl 3 rfl) ?_
  refine lv_aload_n hx hb dL_law_1717 rfl (lv_at hl 4 rfl) ?_
  refine lv_iload hx hb dL_law_1718 (lv_at hl 0 rfl) ?_
  refine n_iconst (v := 1) hx hb dL_law_1720 (by decide) ?_
  refine n_iadd hx hb dL_law_1721 ?_
  refine l_sld hx hb hX hbl hS (by omega) hL dL_law_1722 ?_
  refine o_calli (o_runV (As := [.int (xs (8 * n + 1))]) (rest := []) ⟨hx, hb, hml, hown, hu⟩ (c_X9_count l D cA s.heap.size ad hal S sr d hM hR h31 (xs (8 * n + 1))) (gV_L_163 (fun _ h => h)) (n0 := 1) rfl (by decide +kernel) rfl ⟨Nat.le_of_ble_eq_true rfl, Nat.le_of_ble_eq_true rfl⟩ (o_recv hK hW (hA.o (k := 0) rfl) (kX_0 _ _ _ _) rfl) hK hW hB hS hl.1 rfl (lv_room (Nat.le_of_ble_eq_true rfl)) ⟨by show 300 + 4 * n + 0 ≤ 601024; omega, by show 500000 + 100 * n + 0 ≤ 7293034; omega⟩ dL_law_1723) hS (fun r d1 hp H locs hW hS => ?_)
  obtain ⟨rfl, hP⟩ := hp
  obtain ⟨hMm1, hRm1⟩ := lw_mid hMm hRm hP.2.2
  refine lv_aload_n hx hb dL_law_1726 rfl (lv_at hl 2 rfl) ?_
  refine lv_aload_n hx hb dL_law_1727 rfl (lv_at hl 4 rfl) ?_
  refine lv_iload hx hb dL_law_1728 (lv_at hl 0 rfl) ?_
  refine n_iconst (v := 1) hx hb dL_law_1730 (by decide) ?_
  refine n_iadd hx hb dL_law_1731 ?_
  refine l_sld hx hb hX hbl hS (by omega) hL dL_law_1732 ?_
  have hal1 : mAl ad := hal
  refine o_calli (o_runV (As := [.int (xs (8 * n + 1))]) (rest := [.int (aCount S (xs (8 * n + 1)))]) ⟨hx, hb, hml, hown, hu⟩ (c_X10_count l D cA s.heap.size ad hal1 S sr d1 hMm1 hRm1 (xs (8 * n + 1))) (gV_L_166 (fun _ h => h)) (n0 := 1) rfl (by decide +kernel) rfl ⟨Nat.le_of_ble_eq_true rfl, Nat.le_of_ble_eq_true rfl⟩ (o_recv hK hW hal1.1 (kC_M _ _ _) rfl) hK hW hB hS hl.1 rfl (lv_room (Nat.le_of_ble_eq_true rfl)) ⟨by show 300 + 4 * n + 0 + 0 ≤ 601024; omega, by show 500000 + 100 * n + 0 + 0 ≤ 7293034; omega⟩ dL_law_1733) hS (fun r2 d2 hp2 H locs hW hS => ?_)
  obtain ⟨rfl, hP2⟩ := hp2
  refine lv_icmp_eq (tgt := 1797) hx hb dL_law_1736 (by decide) (fun _ => ?_) (fun h => absurd rfl h)
  exact nx _ _ _ _ _ _ _ _ _ (by omega) (by omega) (lw_end hI0 (AFr.refl ad) hP hP2) hW hS hl
