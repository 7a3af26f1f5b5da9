set_option maxHeartbeats 400000 in
set_option maxRecDepth 100000 in
theorem lc_18 {p : Program} {l : Launch} {e : Env} {s : State} {m : MethodId} {below : List Frame} {meth : Method} {c : Code} {b L : Nat} {xs : Nat → Int32} {D : va_G} {cA : Nat → ClassId} (hF : lw_F p s m meth c b L xs D cA) {x0 m0 o0 n : Nat} (hn : 8 * n + 8 ≤ L) (nx : lw_NX p l e s m below meth c b D cA x0 m0 o0 n) {S : sS} {sr : Nat → Int32} {ad : kA} {d : kD} {H : Heap} {locs : List Loc} {ls : Array Slot} (hI : lw_I cA x0 m0 o0 S sr ad d) (hW : oW D cA s.heap.size ad d H) (hS : va_S (oA s.heap.size) s.heap H locs) (hl : lv_has ls 7 [(4, .int (nI (8 * n))), (3, .ref o0), (2, .ref m0), (1, .ref x0), (0, .ref b)]) : W p l e room_1 s m #[Value.ref b] below meth c H locs (300 + 4 * n) (500000 + 100 * n) (lw_Z below #[Value.ref b] s) (F0 m 914 ls []) := by
  obtain ⟨⟨hx, hb, hr, hml, hown, hts, hX, hbl, hlocks, hgv⟩, hL, hK, hB, hu⟩ := hF
  have hI0 := hI
  obtain ⟨hM, hR, hMm, hRm, hal, h31, h30, rfl, rfl, rfl⟩ := hI
  have hA := hM.1.1
  refine lv_aload_n hx hb dL_law_914 rfl (lv_at hl 3 rfl) ?_
  refine lv_aload_n hx hb dL_law_915 rfl (lv_at hl 4 rfl) ?_
  refine lv_iload hx hb dL_law_916 (lv_at hl 0 rfl) ?_
  refine n_iconst (v := 1) hx hb dL_law_918 (by decide) ?_
  refine n_iadd hx hb dL_law_919 ?_
  refine l_sld hx hb hX hbl hS (by omega) hL dL_law_920 ?_
  refine lv_aload_n hx hb dL_law_921 rfl (lv_at hl 4 rfl) ?_
  refine lv_iload hx hb dL_law_922 (lv_at hl 0 rfl) ?_
  refine n_iconst (v := 2) hx hb dL_law_924 (by decide) ?_
  refine n_iadd hx hb dL_law_925 ?_
  refine l_sld hx hb hX hbl hS (by omega) hL dL_law_926 ?_
  refine lv_aload_n hx hb dL_law_927 rfl (lv_at hl 4 rfl) ?_
  refine lv_iload hx hb dL_law_928 (lv_at hl 0 rfl) ?_
  refine n_iconst (v := 3) hx hb dL_law_930 (by decide) ?_
  refine n_iadd hx hb dL_law_931 ?_
  refine l_sld hx hb hX hbl hS (by omega) hL dL_law_932 ?_
  refine o_calli (o_runV (As := [.int (xs (8 * n + 1)), .int (xs (8 * n + 2)), .int (xs (8 * n + 3))]) (rest := []) ⟨hx, hb, hml, hown, hu⟩ (c_X9_share l D cA s.heap.size ad hal S sr d hM hR (xs (8 * n + 1)) (xs (8 * n + 2)) (xs (8 * n + 3))) (gV_L_97 (fun _ h => h)) (n0 := 3) rfl (by decide +kernel) rfl ⟨Nat.le_of_ble_eq_true rfl, Nat.le_of_ble_eq_true rfl⟩ (o_recv hK hW (hA.o (k := 0) rfl) (kX_0 _ _ _ _) rfl) hK hW hB hS hl.1 rfl (lv_room (Nat.le_of_ble_eq_true rfl)) ⟨by show 300 + 4 * n + 0 ≤ 601024; omega, by show 500000 + 100 * n + 0 ≤ 7293034; omega⟩ dL_law_933) hS (fun r d1 hp H locs hW hS => ?_)
  obtain ⟨rfl, hP⟩ := hp
  obtain ⟨hMm1, hRm1⟩ := lw_mid hMm hRm hP.2.2
  refine lv_aload_n hx hb dL_law_936 rfl (lv_at hl 2 rfl) ?_
  refine lv_aload_n hx hb dL_law_937 rfl (lv_at hl 4 rfl) ?_
  refine lv_iload hx hb dL_law_938 (lv_at hl 0 rfl) ?_
  refine n_iconst (v := 1) hx hb dL_law_940 (by decide) ?_
  refine n_iadd hx hb dL_law_941 ?_
  refine l_sld hx hb hX hbl hS (by omega) hL dL_law_942 ?_
  refine lv_aload_n hx hb dL_law_943 rfl (lv_at hl 4 rfl) ?_
  refine lv_iload hx hb dL_law_944 (lv_at hl 0 rfl) ?_
  refine n_iconst (v := 2) hx hb dL_law_946 (by decide) ?_
  refine n_iadd hx hb dL_law_947 ?_
  refine l_sld hx hb hX hbl hS (by omega) hL dL_law_948 ?_
  refine lv_aload_n hx hb dL_law_949 rfl (lv_at hl 4 rfl) ?_
  refine lv_iload hx hb dL_law_950 (lv_at hl 0 rfl) ?_
  refine n_iconst (v := 3) hx hb dL_law_952 (by decide) ?_
  refine n_iadd hx hb dL_law_953 ?_
  refine l_sld hx hb hX hbl hS (by omega) hL dL_law_954 ?_
  have hal1 : mAl ad := hal
  refine o_calli (o_runV (As := [.int (xs (8 * n + 1)), .int (xs (8 * n + 2)), .int (xs (8 * n + 3))]) (rest := [.int (aShare S (xs (8 * n + 1)) (xs (8 * n + 2)) (xs (8 * n + 3)))]) ⟨hx, hb, hml, hown, hu⟩ (c_X10_share l D cA s.heap.size ad hal1 S sr d1 hMm1 hRm1 (xs (8 * n + 1)) (xs (8 * n + 2)) (xs (8 * n + 3))) (gV_L_100 (fun _ h => h)) (n0 := 3) rfl (by decide +kernel) rfl ⟨Nat.le_of_ble_eq_true rfl, Nat.le_of_ble_eq_true rfl⟩ (o_recv hK hW hal1.1 (kC_M _ _ _) rfl) hK hW hB hS hl.1 rfl (lv_room (Nat.le_of_ble_eq_true rfl)) ⟨by show 300 + 4 * n + 0 + 0 ≤ 601024; omega, by show 500000 + 100 * n + 0 + 0 ≤ 7293034; omega⟩ dL_law_955) hS (fun r2 d2 hp2 H locs hW hS => ?_)
  obtain ⟨rfl, hP2⟩ := hp2
  refine lv_icmp_eq (tgt := 1797) hx hb dL_law_958 (by decide) (fun _ => ?_) (fun h => absurd rfl h)
  exact nx _ _ _ _ _ _ _ _ _ (by omega) (by omega) (lw_end hI0 (AFr.refl ad) hP hP2) hW hS hl
set_option maxHeartbeats 400000 in
set_option maxRecDepth 100000 in
theorem lc_19 {p : Program} {l : Launch} {e : Env} {s : State} {m : MethodId} {below : List Frame} {meth : Method} {c : Code} {b L : Nat} {xs : Nat → Int32} {D : va_G} {cA : Nat → ClassId} (hF : lw_F p s m meth c b L xs D cA) {x0 m0 o0 n : Nat} (hn : 8 * n + 8 ≤ L) (nx : lw_NX p l e s m below meth c b D cA x0 m0 o0 n) {S : sS} {sr : Nat → Int32} {ad : kA} {d : kD} {H : Heap} {locs : List Loc} {ls : Array Slot} (hI : lw_I cA x0 m0 o0 S sr ad d) (hW : oW D cA s.heap.size ad d H) (hS : va_S (oA s.heap.size) s.heap H locs) (hl : lv_has ls 7 [(4, .int (nI (8 * n))), (3, .ref o0), (2, .ref m0), (1, .ref x0), (0, .ref b)]) : W p l e room_1 s m #[Value.ref b] below meth c H locs (300 + 4 * n) (500000 + 100 * n) (lw_Z below #[Value.ref b] s) (F0 m 963 ls []) := by
  obtain ⟨⟨hx, hb, hr, hml, hown, hts, hX, hbl, hlocks, hgv⟩, hL, hK, hB, hu⟩ := hF
  have hI0 := hI
  obtain ⟨hM, hR, hMm, hRm, hal, h31, h30, rfl, rfl, rfl⟩ := hI
  have hA := hM.1.1
  refine lv_aload_n hx hb dL_law_963 rfl (lv_at hl 3 rfl) ?_
  refine lv_aload_n hx hb dL_law_964 rfl (lv_at hl 4 rfl) ?_
  refine lv_iload hx hb dL_law_965 (lv_at hl 0 rfl) ?_
  refine n_iconst (v := 1) hx hb dL_law_967 (by decide) ?_
  refine n_iadd hx hb dL_law_968 ?_
  refine l_sld hx hb hX hbl hS (by omega) hL dL_law_969 ?_
  refine lv_aload_n hx hb dL_law_970 rfl (lv_at hl 4 rfl) ?_
  refine lv_iload hx hb dL_law_971 (lv_at hl 0 rfl) ?_
  refine n_iconst (v := 2) hx hb dL_law_973 (by decide) ?_
  refine n_iadd hx hb dL_law_974 ?_
  refine l_sld hx hb hX hbl hS (by omega) hL dL_law_975 ?_
  refine lv_aload_n hx hb dL_law_976 rfl (lv_at hl 4 rfl) ?_
  refine lv_iload hx hb dL_law_977 (lv_at hl 0 rfl) ?_
  refine n_iconst (v := 3) hx hb dL_law_979 (by decide) ?_
  refine n_iadd hx hb dL_law_980 ?_
  refine l_sld hx hb hX hbl hS (by omega) hL dL_law_981 ?_
  refine o_calli (o_runV (As := [.int (xs (8 * n + 1)), .int (xs (8 * n + 2)), .int (xs (8 * n + 3))]) (rest := []) ⟨hx, hb, hml, hown, hu⟩ (c_X9_worst l D cA s.heap.size ad hal S sr d hM hR (xs (8 * n + 1)) (xs (8 * n + 2)) (xs (8 * n + 3))) (gV_L_101 (fun _ h => h)) (n0 := 3) rfl (by decide +kernel) rfl ⟨Nat.le_of_ble_eq_true rfl, Nat.le_of_ble_eq_true rfl⟩ (o_recv hK hW (hA.o (k := 0) rfl) (kX_0 _ _ _ _) rfl) hK hW hB hS hl.1 rfl (lv_room (Nat.le_of_ble_eq_true rfl)) ⟨by show 300 + 4 * n + 0 ≤ 601024; omega, by show 500000 + 100 * n + 0 ≤ 7293034; omega⟩ dL_law_982) hS (fun r d1 hp H locs hW hS => ?_)
  obtain ⟨rfl, hP⟩ := hp
  obtain ⟨hMm1, hRm1⟩ := lw_mid hMm hRm hP.2.2
  refine lv_aload_n hx hb dL_law_985 rfl (lv_at hl 2 rfl) ?_
  refine lv_aload_n hx hb dL_law_986 rfl (lv_at hl 4 rfl) ?_
  refine lv_iload hx hb dL_law_987 (lv_at hl 0 rfl) ?_
  refine n_iconst (v := 1) hx hb dL_law_989 (by decide) ?_
  refine n_iadd hx hb dL_law_990 ?_
  refine l_sld hx hb hX hbl hS (by omega) hL dL_law_991 ?_
  refine lv_aload_n hx hb dL_law_992 rfl (lv_at hl 4 rfl) ?_
  refine lv_iload hx hb dL_law_993 (lv_at hl 0 rfl) ?_
  refine n_iconst (v := 2) hx hb dL_law_995 (by decide) ?_
  refine n_iadd hx hb dL_law_996 ?_
  refine l_sld hx hb hX hbl hS (by omega) hL dL_law_997 ?_
  refine lv_aload_n hx hb dL_law_998 rfl (lv_at hl 4 rfl) ?_
  refine lv_iload hx hb dL_law_999 (lv_at hl 0 rfl) ?_
  refine n_iconst (v := 3) hx hb dL_law_1001 (by decide) ?_
  refine n_iadd hx hb dL_law_1002 ?_
  refine l_sld hx hb hX hbl hS (by omega) hL dL_law_1003 ?_
  have hal1 : mAl ad := hal
  refine o_calli (o_runV (As := [.int (xs (8 * n + 1)), .int (xs (8 * n + 2)), .int (xs (8 * n + 3))]) (rest := [.int (aWorst S (xs (8 * n + 1)) (xs (8 * n + 2)) (xs (8 * n + 3)))]) ⟨hx, hb, hml, hown, hu⟩ (c_X10_worst l D cA s.heap.size ad hal1 S sr d1 hMm1 hRm1 (xs (8 * n + 1)) (xs (8 * n + 2)) (xs (8 * n + 3))) (gV_L_104 (fun _ h => h)) (n0 := 3) rfl (by decide +kernel) rfl ⟨Nat.le_of_ble_eq_true rfl, Nat.le_of_ble_eq_true rfl⟩ (o_recv hK hW hal1.1 (kC_M _ _ _) rfl) hK hW hB hS hl.1 rfl (lv_room (Nat.le_of_ble_eq_true rfl)) ⟨by show 300 + 4 * n + 0 + 0 ≤ 601024; omega, by show 500000 + 100 * n + 0 + 0 ≤ 7293034; omega⟩ dL_law_1004) hS (fun r2 d2 hp2 H locs hW hS => ?_)
  obtain ⟨rfl, hP2⟩ := hp2
  refine lv_icmp_eq (tgt := 1797) hx hb dL_law_1007 (by decide) (fun _ => ?_) (fun h => absurd rfl h)
  exact nx _ _ _ _ _ _ _ _ _ (by omega) (by omega) (lw_end hI0 (AFr.refl ad) hP hP2) hW hS hl
set_option maxHeartbeats 400000 in
set_option maxRecDepth 100000 in
theorem lc_20 {p : Program} {l : Launch} {e : Env} {s : State} {m : MethodId} {below : List Frame} {meth : Method} {c : Code} {b L : Nat} {xs : Nat → Int32} {D : va_G} {cA : Nat → ClassId} (hF : lw_F p s m meth c b L xs D cA) {x0 m0 o0 n : Nat} (hn : 8 * n + 8 ≤ L) (nx : lw_NX p l e s m below meth c b D cA x0 m0 o0 n) {S : sS} {sr : Nat → Int32} {ad : kA} {d : kD} {H : Heap} {locs : List Loc} {ls : Array Slot} (hI : lw_I cA x0 m0 o0 S sr ad d) (hW : oW D cA s.heap.size ad d H) (hS : va_S (oA s.heap.size) s.heap H locs) (hl : lv_has ls 7 [(4, .int (nI (8 * n))), (3, .ref o0), (2, .ref m0), (1, .ref x0), (0, .ref b)]) : W p l e room_1 s m #[Value.ref b] below meth c H locs (300 + 4 * n) (500000 + 100 * n) (lw_Z below #[Value.ref b] s) (F0 m 1012 ls []) := by
  obtain ⟨⟨hx, hb, hr, hml, hown, hts, hX, hbl, hlocks, hgv⟩, hL, hK, hB, hu⟩ := hF
  have hI0 := hI
  obtain ⟨hM, hR, hMm, hRm, hal, h31, h30, rfl, rfl, rfl⟩ := hI
  have hA := hM.1.1
  refine lv_aload_n hx hb dL_law_1012 rfl (lv_at hl 3 rfl) ?_
  refine lv_aload_n hx hb dL_law_1013 rfl (lv_at hl 4 rfl) ?_
  refine lv_iload hx hb dL_law_1014 (lv_at hl 0 rfl) ?_
  refine n_iconst (v := 1) hx hb dL_law_1016 (by decide) ?_
  refine n_iadd hx hb dL_law_1017 ?_
  refine l_sld hx hb hX hbl hS (by omega) hL dL_law_1018 ?_
  refine lv_aload_n hx hb dL_law_1019 rfl (lv_at hl 4 rfl) ?_
  refine lv_iload hx hb dL_law_1020 (lv_at hl 0 rfl) ?_
  refine n_iconst (v := 2) hx hb dL_law_1022 (by decide) ?_
  refine n_iadd hx hb dL_law_1023 ?_
  refine l_sld hx hb hX hbl hS (by omega) hL dL_law_1024 ?_
  refine lv_aload_n hx hb dL_law_1025 rfl (lv_at hl 4 rfl) ?_
  refine lv_iload hx hb dL_law_1026 (lv_at hl 0 rfl) ?_
  refine n_iconst (v := 3) hx hb dL_law_1028 (by decide) ?_
  refine n_iadd hx hb dL_law_1029 ?_
  refine l_sld hx hb hX hbl hS (by omega) hL dL_law_1030 ?_
  refine lv_aload_n hx hb dL_law_1031 rfl (lv_at hl 4 rfl) ?_
  refine lv_iload hx hb dL_law_1032 (lv_at hl 0 rfl) ?_
  refine n_iconst (v := 4) hx hb dL_law_1034 (by decide) ?_
  refine n_iadd hx hb dL_law_1035 ?_
  refine l_sld hx hb hX hbl hS (by omega) hL dL_law_1036 ?_
  refine o_calli (o_runV (As := [.int (xs (8 * n + 1)), .int (xs (8 * n + 2)), .int (xs (8 * n + 3)), .int (xs (8 * n + 4))]) (rest := []) ⟨hx, hb, hml, hown, hu⟩ (c_X9_next l D cA s.heap.size ad hal S sr d hM hR (xs (8 * n + 1)) (xs (8 * n + 2)) (xs (8 * n + 3)) (xs (8 * n + 4))) (gV_L_105 (fun _ h => h)) (n0 := 4) rfl (by decide +kernel) rfl ⟨Nat.le_of_ble_eq_true rfl, Nat.le_of_ble_eq_true rfl⟩ (o_recv hK hW (hA.o (k := 0) rfl) (kX_0 _ _ _ _) rfl) hK hW hB hS hl.1 rfl (lv_room (Nat.le_of_ble_eq_true rfl)) ⟨by show 300 + 4 * n + 0 ≤ 601024; omega, by show 500000 + 100 * n + 0 ≤ 7293034; omega⟩ dL_law_1037) hS (fun r d1 hp H locs hW hS => ?_)
  obtain ⟨rfl, hP⟩ := hp
  obtain ⟨hMm1, hRm1⟩ := lw_mid hMm hRm hP.2.2
  refine lv_aload_n hx hb dL_law_1040 rfl (lv_at hl 2 rfl) ?_
  refine lv_aload_n hx hb dL_law_1041 rfl (lv_at hl 4 rfl) ?_
  refine lv_iload hx hb dL_law_1042 (lv_at hl 0 rfl) ?_
  refine n_iconst (v := 1) hx hb dL_law_1044 (by decide) ?_
  refine n_iadd hx hb dL_law_1045 ?_
  refine l_sld hx hb hX hbl hS (by omega) hL dL_law_1046 ?_
  refine lv_aload_n hx hb dL_law_1047 rfl (lv_at hl 4 rfl) ?_
  refine lv_iload hx hb dL_law_1048 (lv_at hl 0 rfl) ?_
  refine n_iconst (v := 2) hx hb dL_law_1050 (by decide) ?_
  refine n_iadd hx hb dL_law_1051 ?_
  refine l_sld hx hb hX hbl hS (by omega) hL dL_law_1052 ?_
  refine lv_aload_n hx hb dL_law_1053 rfl (lv_at hl 4 rfl) ?_
  refine lv_iload hx hb dL_law_1054 (lv_at hl 0 rfl) ?_
  refine n_iconst (v := 3) hx hb dL_law_1056 (by decide) ?_
  refine n_iadd hx hb dL_law_1057 ?_
  refine l_sld hx hb hX hbl hS (by omega) hL dL_law_1058 ?_
  refine lv_aload_n hx hb dL_law_1059 rfl (lv_at hl 4 rfl) ?_
  refine lv_iload hx hb dL_law_1060 (lv_at hl 0 rfl) ?_
  refine n_iconst (v := 4) hx hb dL_law_1062 (by decide) ?_
  refine n_iadd hx hb dL_law_1063 ?_
  refine l_sld hx hb hX hbl hS (by omega) hL dL_law_1064 ?_
  have hal1 : mAl ad := hal
  refine o_calli (o_runV (As := [.int (xs (8 * n + 1)), .int (xs (8 * n + 2)), .int (xs (8 * n + 3)), .int (xs (8 * n + 4))]) (rest := [.int (aNext S (xs (8 * n + 1)) (xs (8 * n + 2)) (xs (8 * n + 3)) (xs (8 * n + 4)))]) ⟨hx, hb, hml, hown, hu⟩ (c_X10_next l D cA s.heap.size ad hal1 S sr d1 hMm1 hRm1 (xs (8 * n + 1)) (xs (8 * n + 2)) (xs (8 * n + 3)) (xs (8 * n + 4))) (gV_L_108 (fun _ h => h)) (n0 := 4) rfl (by decide +kernel) rfl ⟨Nat.le_of_ble_eq_true rfl, Nat.le_of_ble_eq_true rfl⟩ (o_recv hK hW hal1.1 (kC_M _ _ _) rfl) hK hW hB hS hl.1 rfl (lv_room (Nat.le_of_ble_eq_true rfl)) ⟨by show 300 + 4 * n + 0 + 0 ≤ 601024; omega, by show 500000 + 100 * n + 0 + 0 ≤ 7293034; omega⟩ dL_law_1065) hS (fun r2 d2 hp2 H locs hW hS => ?_)
  obtain ⟨rfl, hP2⟩ := hp2
  refine lv_icmp_eq (tgt := 1797) hx hb dL_law_1068 (by decide) (fun _ => ?_) (fun h => absurd rfl h)
  exact nx _ _ _ _ _ _ _ _ _ (by omega) (by omega) (lw_end hI0 (AFr.refl ad) hP hP2) hW hS hl
set_option maxHeartbeats 400000 in
set_option maxRecDepth 100000 in
theorem lc_21 {p : Program} {l : Launch} {e : Env} {s : State} {m : MethodId} {below : List Frame} {meth : Method} {c : Code} {b L : Nat} {xs : Nat → Int32} {D : va_G} {cA : Nat → ClassId} (hF : lw_F p s m meth c b L xs D cA) {x0 m0 o0 n : Nat} (hn : 8 * n + 8 ≤ L) (nx : lw_NX p l e s m below meth c b D cA x0 m0 o0 n) {S : sS} {sr : Nat → Int32} {ad : kA} {d : kD} {H : Heap} {locs : List Loc} {ls : Array Slot} (hI : lw_I cA x0 m0 o0 S sr ad d) (hW : oW D cA s.heap.size ad d H) (hS : va_S (oA s.heap.size) s.heap H locs) (hl : lv_has ls 7 [(4, .int (nI (8 * n))), (3, .ref o0), (2, .ref m0), (1, .ref x0), (0, .ref b)]) : W p l e room_1 s m #[Value.ref b] below meth c H locs (300 + 4 * n) (500000 + 100 * n) (lw_Z below #[Value.ref b] s) (F0 m 1073 ls []) := by
  obtain ⟨⟨hx, hb, hr, hml, hown, hts, hX, hbl, hlocks, hgv⟩, hL, hK, hB, hu⟩ := hF
  have hI0 := hI
  obtain ⟨hM, hR, hMm, hRm, hal, h31, h30, rfl, rfl, rfl⟩ := hI
  have hA := hM.1.1
  refine lv_aload_n hx hb dL_law_1073 rfl (lv_at hl 3 rfl) ?_
  refine lv_aload_n hx hb dL_law_1074 rfl (lv_at hl 4 rfl) ?_
  refine lv_iload hx hb dL_law_1075 (lv_at hl 0 rfl) ?_
  refine n_iconst (v := 1) hx hb dL_law_1077 (by decide) ?_
  refine n_iadd hx hb dL_law_1078 ?_
  refine l_sld hx hb hX hbl hS (by omega) hL dL_law_1079 ?_
  refine lv_aload_n hx hb dL_law_1080 rfl (lv_at hl 4 rfl) ?_
  refine lv_iload hx hb dL_law_1081 (lv_at hl 0 rfl) ?_
  refine n_iconst (v := 2) hx hb dL_law_1083 (by decide) ?_
  refine n_iadd hx hb dL_law_1084 ?_
  refine l_sld hx hb hX hbl hS (by omega) hL dL_law_1085 ?_
  refine lv_aload_n hx hb dL_law_1086 rfl (lv_at hl 4 rfl) ?_
  refine lv_iload hx hb dL_law_1087 (lv_at hl 0 rfl) ?_
  refine n_iconst (v := 3) hx hb dL_law_1089 (by decide) ?_
  refine n_iadd hx hb dL_law_1090 ?_
  refine l_sld hx hb hX hbl hS (by omega) hL dL_law_1091 ?_
  refine lv_aload_n hx hb dL_law_1092 rfl (lv_at hl 4 rfl) ?_
  refine lv_iload hx hb dL_law_1093 (lv_at hl 0 rfl) ?_
  refine n_iconst (v := 4) hx hb dL_law_1095 (by decide) ?_
  refine n_iadd hx hb dL_law_1096 ?_
  refine l_sld hx hb hX hbl hS (by omega) hL dL_law_1097 ?_
  refine lv_aload_n hx hb dL_law_1098 rfl (lv_at hl 4 rfl) ?_
  refine lv_iload hx hb dL_law_1099 (lv_at hl 0 rfl) ?_
  refine n_iconst (v := 5) hx hb dL_law_1101 (by decide) ?_
  refine n_iadd hx hb dL_law_1102 ?_
  refine l_sld hx hb hX hbl hS (by omega) hL dL_law_1103 ?_
  refine lv_aload_n hx hb dL_law_1104 rfl (lv_at hl 4 rfl) ?_
  refine lv_iload hx hb dL_law_1105 (lv_at hl 0 rfl) ?_
  refine n_bipush (v := 6) hx hb dL_law_1107 (by decide) ?_
  refine n_iadd hx hb dL_law_1109 ?_
  refine l_sld hx hb hX hbl hS (by omega) hL dL_law_1110 ?_
  refine o_calli (o_runV (As := [.int (xs (8 * n + 1)), .int (xs (8 * n + 2)), .int (xs (8 * n + 3)), .int (xs (8 * n + 4)), .int (xs (8 * n + 5)), .int (xs (8 * n + 6))]) (rest := []) ⟨hx, hb, hml, hown, hu⟩ (c_X9_plan l D cA s.heap.size ad hal S sr d hM hR (xs (8 * n + 1)) (xs (8 * n + 2)) (xs (8 * n + 3)) (xs (8 * n + 4)) (xs (8 * n + 5)) (xs (8 * n + 6))) (gV_L_109 (fun _ h => h)) (n0 := 6) rfl (by decide +kernel) rfl ⟨Nat.le_of_ble_eq_true rfl, Nat.le_of_ble_eq_true rfl⟩ (o_recv hK hW (hA.o (k := 0) rfl) (kX_0 _ _ _ _) rfl) hK hW hB hS hl.1 rfl (lv_room (Nat.le_of_ble_eq_true rfl)) ⟨by show 300 + 4 * n + 0 ≤ 601024; omega, by show 500000 + 100 * n + 0 ≤ 7293034; omega⟩ dL_law_1111) hS (fun r d1 hp H locs hW hS => ?_)
  obtain ⟨rfl, hP⟩ := hp
  obtain ⟨hMm1, hRm1⟩ := lw_mid hMm hRm hP.2.2
  refine lv_aload_n hx hb dL_law_1114 rfl (lv_at hl 2 rfl) ?_
  refine lv_aload_n hx hb dL_law_1115 rfl (lv_at hl 4 rfl) ?_
  refine lv_iload hx hb dL_law_1116 (lv_at hl 0 rfl) ?_
  refine n_iconst (v := 1) hx hb dL_law_1118 (by decide) ?_
  refine n_iadd hx hb dL_law_1119 ?_
  refine l_sld hx hb hX hbl hS (by omega) hL dL_law_1120 ?_
  refine lv_aload_n hx hb dL_law_1121 rfl (lv_at hl 4 rfl) ?_
  refine lv_iload hx hb dL_law_1122 (lv_at hl 0 rfl) ?_
  refine n_iconst (v := 2) hx hb dL_law_1124 (by decide) ?_
  refine n_iadd hx hb dL_law_1125 ?_
  refine l_sld hx hb hX hbl hS (by omega) hL dL_law_1126 ?_
  refine lv_aload_n hx hb dL_law_1127 rfl (lv_at hl 4 rfl) ?_
  refine lv_iload hx hb dL_law_1128 (lv_at hl 0 rfl) ?_
  refine n_iconst (v := 3) hx hb dL_law_1130 (by decide) ?_
  refine n_iadd hx hb dL_law_1131 ?_
  refine l_sld hx hb hX hbl hS (by omega) hL dL_law_1132 ?_
  refine lv_aload_n hx hb dL_law_1133 rfl (lv_at hl 4 rfl) ?_
  refine lv_iload hx hb dL_law_1134 (lv_at hl 0 rfl) ?_
  refine n_iconst (v := 4) hx hb dL_law_1136 (by decide) ?_
  refine n_iadd hx hb dL_law_1137 ?_
  refine l_sld hx hb hX hbl hS (by omega) hL dL_law_1138 ?_
  refine lv_aload_n hx hb dL_law_1139 rfl (lv_at hl 4 rfl) ?_
  refine lv_iload hx hb dL_law_1140 (lv_at hl 0 rfl) ?_
  refine n_iconst (v := 5) hx hb dL_law_1142 (by decide) ?_
  refine n_iadd hx hb dL_law_1143 ?_
  refine l_sld hx hb hX hbl hS (by omega) hL dL_law_1144 ?_
  refine lv_aload_n hx hb dL_law_1145 rfl (lv_at hl 4 rfl) ?_
  refine lv_iload hx hb dL_law_1146 (lv_at hl 0 rfl) ?_
  refine n_bipush (v := 6) hx hb dL_law_1148 (by decide) ?_
  refine n_iadd hx hb dL_law_1150 ?_
  refine l_sld hx hb hX hbl hS (by omega) hL dL_law_1151 ?_
  have hal1 : mAl ad := hal
  refine o_calli (o_runV (As := [.int (xs (8 * n + 1)), .int (xs (8 * n + 2)), .int (xs (8 * n + 3)), .int (xs (8 * n + 4)), .int (xs (8 * n + 5)), .int (xs (8 * n + 6))]) (rest := [.int (aPlan S (xs (8 * n + 1)) (xs (8 * n + 2)) (xs (8 * n + 3)) (xs (8 * n + 4)) (xs (8 * n + 5)) (xs (8 * n + 6)))]) ⟨hx, hb, hml, hown, hu⟩ (c_X10_plan l D cA s.heap.size ad hal1 S sr d1 hMm1 hRm1 (xs (8 * n + 1)) (xs (8 * n + 2)) (xs (8 * n + 3)) (xs (8 * n + 4)) (xs (8 * n + 5)) (xs (8 * n + 6))) (gV_L_113 (fun _ h => h)) (n0 := 6) rfl (by decide +kernel) rfl ⟨Nat.le_of_ble_eq_true rfl, Nat.le_of_ble_eq_true rfl⟩ (o_recv hK hW hal1.1 (kC_M _ _ _) rfl) hK hW hB hS hl.1 rfl (lv_room (Nat.le_of_ble_eq_true rfl)) ⟨by show 300 + 4 * n + 0 + 0 ≤ 601024; omega, by show 500000 + 100 * n + 0 + 0 ≤ 7293034; omega⟩ dL_law_1152) hS (fun r2 d2 hp2 H locs hW hS => ?_)
  obtain ⟨rfl, hP2⟩ := hp2
  refine lv_icmp_eq (tgt := 1797) hx hb dL_law_1155 (by decide) (fun _ => ?_) (fun h => absurd rfl h)
  exact nx _ _ _ _ _ _ _ _ _ (by omega) (by omega) (lw_end hI0 (AFr.refl ad) hP hP2) hW hS hl
set_option maxHeartbeats 400000 in
set_option maxRecDepth 100000 in
theorem lc_22 {p : Program} {l : Launch} {e : Env} {s : State} {m : MethodId} {below : List Frame} {meth : Method} {c : Code} {b L : Nat} {xs : Nat → Int32} {D : va_G} {cA : Nat → ClassId} (hF : lw_F p s m meth c b L xs D cA) {x0 m0 o0 n : Nat} (hn : 8 * n + 8 ≤ L) (nx : lw_NX p l e s m below meth c b D cA x0 m0 o0 n) {S : sS} {sr : Nat → Int32} {ad : kA} {d : kD} {H : Heap} {locs : List Loc} {ls : Array Slot} (hI : lw_I cA x0 m0 o0 S sr ad d) (hW : oW D cA s.heap.size ad d H) (hS : va_S (oA s.heap.size) s.heap H locs) (hl : lv_has ls 7 [(4, .int (nI (8 * n))), (3, .ref o0), (2, .ref m0), (1, .ref x0), (0, .ref b)]) : W p l e room_1 s m #[Value.ref b] below meth c H locs (300 + 4 * n) (500000 + 100 * n) (lw_Z below #[Value.ref b] s) (F0 m 1160 ls []) := by
  obtain ⟨⟨hx, hb, hr, hml, hown, hts, hX, hbl, hlocks, hgv⟩, hL, hK, hB, hu⟩ := hF
  have hI0 := hI
  obtain ⟨hM, hR, hMm, hRm, hal, h31, h30, rfl, rfl, rfl⟩ := hI
  have hA := hM.1.1
  refine lv_aload_n hx hb dL_law_1160 rfl (lv_at hl 3 rfl) ?_
  refine lv_aload_n hx hb dL_law_1161 rfl (lv_at hl 4 rfl) ?_
  refine lv_iload hx hb dL_law_1162 (lv_at hl 0 rfl) ?_
  refine n_iconst (v := 1) hx hb dL_law_1164 (by decide) ?_
  refine n_iadd hx hb dL_law_1165 ?_
  refine l_sld hx hb hX hbl hS (by omega) hL dL_law_1166 ?_
  refine lv_aload_n hx hb dL_law_1167 rfl (lv_at hl 4 rfl) ?_
  refine lv_iload hx hb dL_law_1168 (lv_at hl 0 rfl) ?_
  refine n_iconst (v := 2) hx hb dL_law_1170 (by decide) ?_
  refine n_iadd hx hb dL_law_1171 ?_
  refine l_sld hx hb hX hbl hS (by omega) hL dL_law_1172 ?_
  refine lv_aload_n hx hb dL_law_1173 rfl (lv_at hl 4 rfl) ?_
  refine lv_iload hx hb dL_law_1174 (lv_at hl 0 rfl) ?_
  refine n_iconst (v := 3) hx hb dL_law_1176 (by decide) ?_
  refine n_iadd hx hb dL_law_1177 ?_
  refine l_sld hx hb hX hbl hS (by omega) hL dL_law_1178 ?_
  refine lv_aload_n hx hb dL_law_1179 rfl (lv_at hl 4 rfl) ?_
  refine lv_iload hx hb dL_law_1180 (lv_at hl 0 rfl) ?_
  refine n_iconst (v := 4) hx hb dL_law_1182 (by decide) ?_
  refine n_iadd hx hb dL_law_1183 ?_
  refine l_sld hx hb hX hbl hS (by omega) hL dL_law_1184 ?_
  refine lv_aload_n hx hb dL_law_1185 rfl (lv_at hl 4 rfl) ?_
  refine lv_iload hx hb dL_law_1186 (lv_at hl 0 rfl) ?_
  refine n_iconst (v := 5) hx hb dL_law_1188 (by decide) ?_
  refine n_iadd hx hb dL_law_1189 ?_
  refine l_sld hx hb hX hbl hS (by omega) hL dL_law_1190 ?_
  refine lv_aload_n hx hb dL_law_1191 rfl (lv_at hl 4 rfl) ?_
  refine lv_iload hx hb dL_law_1192 (lv_at hl 0 rfl) ?_
  refine n_bipush (v := 6) hx hb dL_law_1194 (by decide) ?_
  refine n_iadd hx hb dL_law_1196 ?_
  refine l_sld hx hb hX hbl hS (by omega) hL dL_law_1197 ?_
  refine lv_aload_n hx hb dL_law_1198 rfl (lv_at hl 4 rfl) ?_
  refine lv_iload hx hb dL_law_1199 (lv_at hl 0 rfl) ?_
  refine n_bipush (v := 7) hx hb dL_law_1201 (by decide) ?_
  refine n_iadd hx hb dL_law_1203 ?_
  refine l_sld hx hb hX hbl hS (by omega) hL dL_law_1204 ?_
  refine o_calli (o_runV (As := [.int (xs (8 * n + 1)), .int (xs (8 * n + 2)), .int (xs (8 * n + 3)), .int (xs (8 * n + 4)), .int (xs (8 * n + 5)), .int (xs (8 * n + 6)), .int (xs (8 * n + 7))]) (rest := []) ⟨hx, hb, hml, hown, hu⟩ (c_X9_settles l D cA s.heap.size ad hal S sr d hM hR (xs (8 * n + 1)) (xs (8 * n + 2)) (xs (8 * n + 3)) (xs (8 * n + 4)) (xs (8 * n + 5)) (xs (8 * n + 6)) (xs (8 * n + 7))) (gV_L_114 (fun _ h => h)) (n0 := 7) rfl (by decide +kernel) rfl ⟨Nat.le_of_ble_eq_true rfl, Nat.le_of_ble_eq_true rfl⟩ (o_recv hK hW (hA.o (k := 0) rfl) (kX_0 _ _ _ _) rfl) hK hW hB hS hl.1 rfl (lv_room (Nat.le_of_ble_eq_true rfl)) ⟨by show 300 + 4 * n + 0 ≤ 601024; omega, by show 500000 + 100 * n + 0 ≤ 7293034; omega⟩ dL_law_1205) hS (fun r d1 hp H locs hW hS => ?_)
  obtain ⟨rfl, hP⟩ := hp
  obtain ⟨hMm1, hRm1⟩ := lw_mid hMm hRm hP.2.2
  refine lv_aload_n hx hb dL_law_1208 rfl (lv_at hl 2 rfl) ?_
  refine lv_aload_n hx hb dL_law_1209 rfl (lv_at hl 4 rfl) ?_
  refine lv_iload hx hb dL_law_1210 (lv_at hl 0 rfl) ?_
  refine n_iconst (v := 1) hx hb dL_law_1212 (by decide) ?_
  refine n_iadd hx hb dL_law_1213 ?_
  refine l_sld hx hb hX hbl hS (by omega) hL dL_law_1214 ?_
  refine lv_aload_n hx hb dL_law_1215 rfl (lv_at hl 4 rfl) ?_
  refine lv_iload hx hb dL_law_1216 (lv_at hl 0 rfl) ?_
  refine n_iconst (v := 2) hx hb dL_law_1218 (by decide) ?_
  refine n_iadd hx hb dL_law_1219 ?_
  refine l_sld hx hb hX hbl hS (by omega) hL dL_law_1220 ?_
  refine lv_aload_n hx hb dL_law_1221 rfl (lv_at hl 4 rfl) ?_
  refine lv_iload hx hb dL_law_1222 (lv_at hl 0 rfl) ?_
  refine n_iconst (v := 3) hx hb dL_law_1224 (by decide) ?_
  refine n_iadd hx hb dL_law_1225 ?_
  refine l_sld hx hb hX hbl hS (by omega) hL dL_law_1226 ?_
  refine lv_aload_n hx hb dL_law_1227 rfl (lv_at hl 4 rfl) ?_
  refine lv_iload hx hb dL_law_1228 (lv_at hl 0 rfl) ?_
  refine n_iconst (v := 4) hx hb dL_law_1230 (by decide) ?_
  refine n_iadd hx hb dL_law_1231 ?_
  refine l_sld hx hb hX hbl hS (by omega) hL dL_law_1232 ?_
  refine lv_aload_n hx hb dL_law_1233 rfl (lv_at hl 4 rfl) ?_
  refine lv_iload hx hb dL_law_1234 (lv_at hl 0 rfl) ?_
  refine n_iconst (v := 5) hx hb dL_law_1236 (by decide) ?_
  refine n_iadd hx hb dL_law_1237 ?_
  refine l_sld hx hb hX hbl hS (by omega) hL dL_law_1238 ?_
  refine lv_aload_n hx hb dL_law_1239 rfl (lv_at hl 4 rfl) ?_
  refine lv_iload hx hb dL_law_1240 (lv_at hl 0 rfl) ?_
  refine n_bipush (v := 6) hx hb dL_law_1242 (by decide) ?_
  refine n_iadd hx hb dL_law_1244 ?_
  refine l_sld hx hb hX hbl hS (by omega) hL dL_law_1245 ?_
  refine lv_aload_n hx hb dL_law_1246 rfl (lv_at hl 4 rfl) ?_
  refine lv_iload hx hb dL_law_1247 (lv_at hl 0 rfl) ?_
  refine n_bipush (v := 7) hx hb dL_law_1249 (by decide) ?_
  refine n_iadd hx hb dL_law_1251 ?_
  refine l_sld hx hb hX hbl hS (by omega) hL dL_law_1252 ?_
  have hal1 : mAl ad := hal
  refine o_calli (o_runV (As := [.int (xs (8 * n + 1)), .int (xs (8 * n + 2)), .int (xs (8 * n + 3)), .int (xs (8 * n + 4)), .int (xs (8 * n + 5)), .int (xs (8 * n + 6)), .int (xs (8 * n + 7))]) (rest := [.int (aSettles S (xs (8 * n + 1)) (xs (8 * n + 2)) (xs (8 * n + 3)) (xs (8 * n + 4)) (xs (8 * n + 5)) (xs (8 * n + 6)) (xs (8 * n + 7)))]) ⟨hx, hb, hml, hown, hu⟩ (c_X10_settles l D cA s.heap.size ad hal1 S sr d1 hMm1 hRm1 (xs (8 * n + 1)) (xs (8 * n + 2)) (xs (8 * n + 3)) (xs (8 * n + 4)) (xs (8 * n + 5)) (xs (8 * n + 6)) (xs (8 * n + 7))) (gV_L_118 (fun _ h => h)) (n0 := 7) rfl (by decide +kernel) rfl ⟨Nat.le_of_ble_eq_true rfl, Nat.le_of_ble_eq_true rfl⟩ (o_recv hK hW hal1.1 (kC_M _ _ _) rfl) hK hW hB hS hl.1 rfl (lv_room (Nat.le_of_ble_eq_true rfl)) ⟨by show 300 + 4 * n + 0 + 0 ≤ 601024; omega, by show 500000 + 100 * n + 0 + 0 ≤ 7293034; omega⟩ dL_law_1253) hS (fun r2 d2 hp2 H locs hW hS => ?_)
  obtain ⟨rfl, hP2⟩ := hp2
  refine lv_icmp_eq (tgt := 1797) hx hb dL_law_1256 (by decide) (fun _ => ?_) (fun h => absurd rfl h)
  exact nx _ _ _ _ _ _ _ _ _ (by omega) (by omega) (lw_end hI0 (AFr.refl ad) hP hP2) hW hS hl
set_option maxHeartbeats 400000 in
set_option maxRecDepth 100000 in
theorem lc_23 {p : Program} {l : Launch} {e : Env} {s : State} {m : MethodId} {below : List Frame} {meth : Method} {c : Code} {b L : Nat} {xs : Nat → Int32} {D : va_G} {cA : Nat → ClassId} (hF : lw_F p s m meth c b L xs D cA) {x0 m0 o0 n : Nat} (hn : 8 * n + 8 ≤ L) (nx : lw_NX p l e s m below meth c b D cA x0 m0 o0 n) {S : sS} {sr : Nat → Int32} {ad : kA} {d : kD} {H : Heap} {locs : List Loc} {ls : Array Slot} (hI : lw_I cA x0 m0 o0 S sr ad d) (hW : oW D cA s.heap.size ad d H) (hS : va_S (oA s.heap.size) s.heap H locs) (hl : lv_has ls 7 [(4, .int (nI (8 * n))), (3, .ref o0), (2, .ref m0), (1, .ref x0), (0, .ref b)]) : W p l e room_1 s m #[Value.ref b] below meth c H locs (300 + 4 * n) (500000 + 100 * n) (lw_Z below #[Value.ref b] s) (F0 m 1261 ls []) := by
  obtain ⟨⟨hx, hb, hr, hml, hown, hts, hX, hbl, hlocks, hgv⟩, hL, hK, hB, hu⟩ := hF
  have hI0 := hI
  obtain ⟨hM, hR, hMm, hRm, hal, h31, h30, rfl, rfl, rfl⟩ := hI
  have hA := hM.1.1
  refine lv_aload_n hx hb dL_law_1261 rfl (lv_at hl 3 rfl) ?_
  refine lv_aload_n hx hb dL_law_1262 rfl (lv_at hl 4 rfl) ?_
  refine lv_iload hx hb dL_law_1263 (lv_at hl 0 rfl) ?_
  refine n_iconst (v := 1) hx hb dL_law_1265 (by decide) ?_
  refine n_iadd hx hb dL_law_1266 ?_
  refine l_sld hx hb hX hbl hS (by omega) hL dL_law_1267 ?_
  refine lv_aload_n hx hb dL_law_1268 rfl (lv_at hl 4 rfl) ?_
  refine lv_iload hx hb dL_law_1269 (lv_at hl 0 rfl) ?_
  refine n_iconst (v := 2) hx hb dL_law_1271 (by decide) ?_
  refine n_iadd hx hb dL_law_1272 ?_
  refine l_sld hx hb hX hbl hS (by omega) hL dL_law_1273 ?_
  refine o_calli (o_runV (As := [.int (xs (8 * n + 1)), .int (xs (8 * n + 2))]) (rest := []) ⟨hx, hb, hml, hown, hu⟩ (c_X9_prove l D cA s.heap.size ad hal S sr d hM hR (xs (8 * n + 1)) (xs (8 * n + 2))) (gV_L_119 (fun _ h => h)) (n0 := 2) rfl (by decide +kernel) rfl ⟨Nat.le_of_ble_eq_true rfl, Nat.le_of_ble_eq_true rfl⟩ (o_recv hK hW (hA.o (k := 0) rfl) (kX_0 _ _ _ _) rfl) hK hW hB hS hl.1 rfl (lv_room (Nat.le_of_ble_eq_true rfl)) ⟨by show 300 + 4 * n + 0 ≤ 601024; omega, by show 500000 + 100 * n + 0 ≤ 7293034; omega⟩ dL_law_1274) hS (fun r d1 hp H locs hW hS => ?_)
  obtain ⟨rfl, hP⟩ := hp
  obtain ⟨hMm1, hRm1⟩ := lw_mid hMm hRm hP.2.2
  refine lv_aload_n hx hb dL_law_1277 rfl (lv_at hl 2 rfl) ?_
  refine lv_aload_n hx hb dL_law_1278 rfl (lv_at hl 4 rfl) ?_
  refine lv_iload hx hb dL_law_1279 (lv_at hl 0 rfl) ?_
  refine n_iconst (v := 1) hx hb dL_law_1281 (by decide) ?_
  refine n_iadd hx hb dL_law_1282 ?_
  refine l_sld hx hb hX hbl hS (by omega) hL dL_law_1283 ?_
  refine lv_aload_n hx hb dL_law_1284 rfl (lv_at hl 4 rfl) ?_
  refine lv_iload hx hb dL_law_1285 (lv_at hl 0 rfl) ?_
  refine n_iconst (v := 2) hx hb dL_law_1287 (by decide) ?_
  refine n_iadd hx hb dL_law_1288 ?_
  refine l_sld hx hb hX hbl hS (by omega) hL dL_law_1289 ?_
  have hal1 : mAl ad := hal
  refine o_calli (o_runV (As := [.int (xs (8 * n + 1)), .int (xs (8 * n + 2))]) (rest := [.int (aProve S (xs (8 * n + 1)) (xs (8 * n + 2)))]) ⟨hx, hb, hml, hown, hu⟩ (c_X10_prove l D cA s.heap.size ad hal1 S sr d1 hMm1 hRm1 (xs (8 * n + 1)) (xs (8 * n + 2))) (gV_L_122 (fun _ h => h)) (n0 := 2) rfl (by decide +kernel) rfl ⟨Nat.le_of_ble_eq_true rfl, Nat.le_of_ble_eq_true rfl⟩ (o_recv hK hW hal1.1 (kC_M _ _ _) rfl) hK hW hB hS hl.1 rfl (lv_room (Nat.le_of_ble_eq_true rfl)) ⟨by show 300 + 4 * n + 0 + 0 ≤ 601024; omega, by show 500000 + 100 * n + 0 + 0 ≤ 7293034; omega⟩ dL_law_1290) hS (fun r2 d2 hp2 H locs hW hS => ?_)
  obtain ⟨rfl, hP2⟩ := hp2
  refine lv_icmp_eq (tgt := 1797) hx hb dL_law_1293 (by decide) (fun _ => ?_) (fun h => absurd rfl h)
  exact nx _ _ _ _ _ _ _ _ _ (by omega) (by omega) (lw_end hI0 (AFr.refl ad) hP hP2) hW hS hl
set_option maxHeartbeats 400000 in
set_option maxRecDepth 100000 in
theorem lc_24 {p : Program} {l : Launch} {e : Env} {s : State} {m : MethodId} {below : List Frame} {meth : Method} {c : Code} {b L : Nat} {xs : Nat → Int32} {D : va_G} {cA : Nat → ClassId} (hF : lw_F p s m meth c b L xs D cA) {x0 m0 o0 n : Nat} (hn : 8 * n + 8 ≤ L) (nx : lw_NX p l e s m below meth c b D cA x0 m0 o0 n) {S : sS} {sr : Nat → Int32} {ad : kA} {d : kD} {H : Heap} {locs : List Loc} {ls : Array Slot} (hI : lw_I cA x0 m0 o0 S sr ad d) (hW : oW D cA s.heap.size ad d H) (hS : va_S (oA s.heap.size) s.heap H locs) (hl : lv_has ls 7 [(4, .int (nI (8 * n))), (3, .ref o0), (2, .ref m0), (1, .ref x0), (0, .ref b)]) : W p l e room_1 s m #[Value.ref b] below meth c H locs (300 + 4 * n) (500000 + 100 * n) (lw_Z below #[Value.ref b] s) (F0 m 1298 ls []) := by
  obtain ⟨⟨hx, hb, hr, hml, hown, hts, hX, hbl, hlocks, hgv⟩, hL, hK, hB, hu⟩ := hF
  have hI0 := hI
  obtain ⟨hM, hR, hMm, hRm, hal, h31, h30, rfl, rfl, rfl⟩ := hI
  have hA := hM.1.1
  refine lv_aload_n hx hb dL_law_1298 rfl (lv_at hl 3 rfl) ?_
  refine lv_aload_n hx hb dL_law_1299 rfl (lv_at hl 4 rfl) ?_
  refine lv_iload hx hb dL_law_1300 (lv_at hl 0 rfl) ?_
  refine n_iconst (v := 1) hx hb dL_law_1302 (by decide) ?_
  refine n_iadd hx hb dL_law_1303 ?_
  refine l_sld hx hb hX hbl hS (by omega) hL dL_law_1304 ?_
  refine o_calli (o_runV (As := [.int (xs (8 * n + 1))]) (rest := []) ⟨hx, hb, hml, hown, hu⟩ (c_X9_check l D cA s.heap.size ad hal S sr d hM hR (xs (8 * n + 1))) (gV_L_123 (fun _ h => h)) (n0 := 1) rfl (by decide +kernel) rfl ⟨Nat.le_of_ble_eq_true rfl, Nat.le_of_ble_eq_true rfl⟩ (o_recv hK hW (hA.o (k := 0) rfl) (kX_0 _ _ _ _) rfl) hK hW hB hS hl.1 rfl (lv_room (Nat.le_of_ble_eq_true rfl)) ⟨by show 300 + 4 * n + 0 ≤ 601024; omega, by show 500000 + 100 * n + 0 ≤ 7293034; omega⟩ dL_law_1305) hS (fun r d1 hp H locs hW hS => ?_)
  obtain ⟨rfl, hP⟩ := hp
  obtain ⟨hMm1, hRm1⟩ := lw_mid hMm hRm hP.2.2
  refine lv_aload_n hx hb dL_law_1308 rfl (lv_at hl 2 rfl) ?_
  refine lv_aload_n hx hb dL_law_1309 rfl (lv_at hl 4 rfl) ?_
  refine lv_iload hx hb dL_law_1310 (lv_at hl 0 rfl) ?_
  refine n_iconst (v := 1) hx hb dL_law_1312 (by decide) ?_
  refine n_iadd hx hb dL_law_1313 ?_
  refine l_sld hx hb hX hbl hS (by omega) hL dL_law_1314 ?_
  have hal1 : mAl ad := hal
  refine o_calli (o_runV (As := [.int (xs (8 * n + 1))]) (rest := [.int (aCheck S (xs (8 * n + 1)))]) ⟨hx, hb, hml, hown, hu⟩ (c_X10_check l D cA s.heap.size ad hal1 S sr d1 hMm1 hRm1 (xs (8 * n + 1))) (gV_L_126 (fun _ h => h)) (n0 := 1) rfl (by decide +kernel) rfl ⟨Nat.le_of_ble_eq_true rfl, Nat.le_of_ble_eq_true rfl⟩ (o_recv hK hW hal1.1 (kC_M _ _ _) rfl) hK hW hB hS hl.1 rfl (lv_room (Nat.le_of_ble_eq_true rfl)) ⟨by show 300 + 4 * n + 0 + 0 ≤ 601024; omega, by show 500000 + 100 * n + 0 + 0 ≤ 7293034; omega⟩ dL_law_1315) hS (fun r2 d2 hp2 H locs hW hS => ?_)
  obtain ⟨rfl, hP2⟩ := hp2
  refine lv_icmp_eq (tgt := 1797) hx hb dL_law_1318 (by decide) (fun _ => ?_) (fun h => absurd rfl h)
  exact nx _ _ _ _ _ _ _ _ _ (by omega) (by omega) (lw_end hI0 (AFr.refl ad) hP hP2) hW hS hl
set_option maxHeartbeats 400000 in
set_option maxRecDepth 100000 in
theorem lc_25 {p : Program} {l : Launch} {e : Env} {s : State} {m : MethodId} {below : List Frame} {meth : Method} {c : Code} {b L : Nat} {xs : Nat → Int32} {D : va_G} {cA : Nat → ClassId} (hF : lw_F p s m meth c b L xs D cA) {x0 m0 o0 n : Nat} (hn : 8 * n + 8 ≤ L) (nx : lw_NX p l e s m below meth c b D cA x0 m0 o0 n) {S : sS} {sr : Nat → Int32} {ad : kA} {d : kD} {H : Heap} {locs : List Loc} {ls : Array Slot} (hI : lw_I cA x0 m0 o0 S sr ad d) (hW : oW D cA s.heap.size ad d H) (hS : va_S (oA s.heap.size) s.heap H locs) (hl : lv_has ls 7 [(4, .int (nI (8 * n))), (3, .ref o0), (2, .ref m0), (1, .ref x0), (0, .ref b)]) : W p l e room_1 s m #[Value.ref b] below meth c H locs (300 + 4 * n) (500000 + 100 * n) (lw_Z below #[Value.ref b] s) (F0 m 1323 ls []) := by
  obtain ⟨⟨hx, hb, hr, hml, hown, hts, hX, hbl, hlocks, hgv⟩, hL, hK, hB, hu⟩ := hF
  have hI0 := hI
  obtain ⟨hM, hR, hMm, hRm, hal, h31, h30, rfl, rfl, rfl⟩ := hI
  have hA := hM.1.1
  refine lv_aload_n hx hb dL_law_1323 rfl (lv_at hl 3 rfl) ?_
  refine lv_aload_n hx hb dL_law_1324 rfl (lv_at hl 4 rfl) ?_
  refine lv_iload hx hb dL_law_1325 (lv_at hl 0 rfl) ?_
  refine n_iconst (v := 1) hx hb dL_law_1327 (by decide) ?_
  refine n_iadd hx hb dL_law_1328 ?_
  refine l_sld hx hb hX hbl hS (by omega) hL dL_law_1329 ?_
  refine o_calli (o_runV (As := [.int (xs (8 * n + 1))]) (rest := []) ⟨hx, hb, hml, hown, hu⟩ (c_X9_lay l D cA s.heap.size ad hal S sr d hM hR (xs (8 * n + 1))) (gV_L_127 (fun _ h => h)) (n0 := 1) rfl (by decide +kernel) rfl ⟨Nat.le_of_ble_eq_true rfl, Nat.le_of_ble_eq_true rfl⟩ (o_recv hK hW (hA.o (k := 0) rfl) (kX_0 _ _ _ _) rfl) hK hW hB hS hl.1 rfl (lv_room (Nat.le_of_ble_eq_true rfl)) ⟨by show 300 + 4 * n + 0 ≤ 601024; omega, by show 500000 + 100 * n + 0 ≤ 7293034; omega⟩ dL_law_1330) hS (fun r d1 hp H locs hW hS => ?_)
  obtain ⟨rfl, hP⟩ := hp
  obtain ⟨hMm1, hRm1⟩ := lw_mid hMm hRm hP.2.2
  refine lv_aload_n hx hb dL_law_1333 rfl (lv_at hl 2 rfl) ?_
  refine lv_aload_n hx hb dL_law_1334 rfl (lv_at hl 4 rfl) ?_
  refine lv_iload hx hb dL_law_1335 (lv_at hl 0 rfl) ?_
  refine n_iconst (v := 1) hx hb dL_law_1337 (by decide) ?_
  refine n_iadd hx hb dL_law_1338 ?_
  refine l_sld hx hb hX hbl hS (by omega) hL dL_law_1339 ?_
  have hal1 : mAl ad := hal
  refine o_calli (o_runV (As := [.int (xs (8 * n + 1))]) (rest := [.int (aLay S (xs (8 * n + 1)))]) ⟨hx, hb, hml, hown, hu⟩ (c_X10_lay l D cA s.heap.size ad hal1 S sr d1 hMm1 hRm1 (xs (8 * n + 1))) (gV_L_130 (fun _ h => h)) (n0 := 1) rfl (by decide +kernel) rfl ⟨Nat.le_of_ble_eq_true rfl, Nat.le_of_ble_eq_true rfl⟩ (o_recv hK hW hal1.1 (kC_M _ _ _) rfl) hK hW hB hS hl.1 rfl (lv_room (Nat.le_of_ble_eq_true rfl)) ⟨by show 300 + 4 * n + 0 + 0 ≤ 601024; omega, by show 500000 + 100 * n + 0 + 0 ≤ 7293034; omega⟩ dL_law_1340) hS (fun r2 d2 hp2 H locs hW hS => ?_)
  obtain ⟨rfl, hP2⟩ := hp2
  refine lv_icmp_eq (tgt := 1797) hx hb dL_law_1343 (by decide) (fun _ => ?_) (fun h => absurd rfl h)
  exact nx _ _ _ _ _ _ _ _ _ (by omega) (by omega) (lw_end hI0 (AFr.refl ad) hP hP2) hW hS hl
set_option maxHeartbeats 400000 in
set_option maxRecDepth 100000 in
theorem lc_26 {p : Program} {l : Launch} {e : Env} {s : State} {m : MethodId} {below : List Frame} {meth : Method} {c : Code} {b L : Nat} {xs : Nat → Int32} {D : va_G} {cA : Nat → ClassId} (hF : lw_F p s m meth c b L xs D cA) {x0 m0 o0 n : Nat} (hn : 8 * n + 8 ≤ L) (nx : lw_NX p l e s m below meth c b D cA x0 m0 o0 n) {S : sS} {sr : Nat → Int32} {ad : kA} {d : kD} {H : Heap} {locs : List Loc} {ls : Array Slot} (hI : lw_I cA x0 m0 o0 S sr ad d) (hW : oW D cA s.heap.size ad d H) (hS : va_S (oA s.heap.size) s.heap H locs) (hl : lv_has ls 7 [(4, .int (nI (8 * n))), (3, .ref o0), (2, .ref m0), (1, .ref x0), (0, .ref b)]) : W p l e room_1 s m #[Value.ref b] below meth c H locs (300 + 4 * n) (500000 + 100 * n) (lw_Z below #[Value.ref b] s) (F0 m 1348 ls []) := by
  obtain ⟨⟨hx, hb, hr, hml, hown, hts, hX, hbl, hlocks, hgv⟩, hL, hK, hB, hu⟩ := hF
  have hI0 := hI
  obtain ⟨hM, hR, hMm, hRm, hal, h31, h30, rfl, rfl, rfl⟩ := hI
  have hA := hM.1.1
  refine lv_aload_n hx hb dL_law_1348 rfl (lv_at hl 3 rfl) ?_
  refine lv_aload_n hx hb dL_law_1349 rfl (lv_at hl 4 rfl) ?_
  refine lv_iload hx hb dL_law_1350 (lv_at hl 0 rfl) ?_
  refine n_iconst (v := 1) hx hb dL_law_1352 (by decide) ?_
  refine n_iadd hx hb dL_law_1353 ?_
  refine l_sld hx hb hX hbl hS (by omega) hL dL_law_1354 ?_
  refine lv_aload_n hx hb dL_law_1355 rfl (lv_at hl 4 rfl) ?_
  refine lv_iload hx hb dL_law_1356 (lv_at hl 0 rfl) ?_
  refine n_iconst (v := 2) hx hb dL_law_1358 (by decide) ?_
  refine n_iadd hx hb dL_law_1359 ?_
  refine l_sld hx hb hX hbl hS (by omega) hL dL_law_1360 ?_
  refine o_calli (o_runV (As := [.int (xs (8 * n + 1)), .int (xs (8 * n + 2))]) (rest := []) ⟨hx, hb, hml, hown, hu⟩ (c_X9_proof l D cA s.heap.size ad hal S sr d hM hR (xs (8 * n + 1)) (xs (8 * n + 2))) (gV_L_131 (fun _ h => h)) (n0 := 2) rfl (by decide +kernel) rfl ⟨Nat.le_of_ble_eq_true rfl, Nat.le_of_ble_eq_true rfl⟩ (o_recv hK hW (hA.o (k := 0) rfl) (kX_0 _ _ _ _) rfl) hK hW hB hS hl.1 rfl (lv_room (Nat.le_of_ble_eq_true rfl)) ⟨by show 300 + 4 * n + 0 ≤ 601024; omega, by show 500000 + 100 * n + 0 ≤ 7293034; omega⟩ dL_law_1361) hS (fun r d1 hp H locs hW hS => ?_)
  obtain ⟨rfl, hP⟩ := hp
  obtain ⟨hMm1, hRm1⟩ := lw_mid hMm hRm hP.2.2
  refine lv_aload_n hx hb dL_law_1364 rfl (lv_at hl 2 rfl) ?_
  refine lv_aload_n hx hb dL_law_1365 rfl (lv_at hl 4 rfl) ?_
  refine lv_iload hx hb dL_law_1366 (lv_at hl 0 rfl) ?_
  refine n_iconst (v := 1) hx hb dL_law_1368 (by decide) ?_
  refine n_iadd hx hb dL_law_1369 ?_
  refine l_sld hx hb hX hbl hS (by omega) hL dL_law_1370 ?_
  refine lv_aload_n hx hb dL_law_1371 rfl (lv_at hl 4 rfl) ?_
  refine lv_iload hx hb dL_law_1372 (lv_at hl 0 rfl) ?_
  refine n_iconst (v := 2) hx hb dL_law_1374 (by decide) ?_
  refine n_iadd hx hb dL_law_1375 ?_
  refine l_sld hx hb hX hbl hS (by omega) hL dL_law_1376 ?_
  have hal1 : mAl ad := hal
  refine o_calli (o_runV (As := [.int (xs (8 * n + 1)), .int (xs (8 * n + 2))]) (rest := [.int (aProof S (xs (8 * n + 1)) (xs (8 * n + 2)))]) ⟨hx, hb, hml, hown, hu⟩ (c_X10_proof l D cA s.heap.size ad hal1 S sr d1 hMm1 hRm1 (xs (8 * n + 1)) (xs (8 * n + 2))) (gV_L_134 (fun _ h => h)) (n0 := 2) rfl (by decide +kernel) rfl ⟨Nat.le_of_ble_eq_true rfl, Nat.le_of_ble_eq_true rfl⟩ (o_recv hK hW hal1.1 (kC_M _ _ _) rfl) hK hW hB hS hl.1 rfl (lv_room (Nat.le_of_ble_eq_true rfl)) ⟨by show 300 + 4 * n + 0 + 0 ≤ 601024; omega, by show 500000 + 100 * n + 0 + 0 ≤ 7293034; omega⟩ dL_law_1377) hS (fun r2 d2 hp2 H locs hW hS => ?_)
  obtain ⟨rfl, hP2⟩ := hp2
  refine lv_icmp_eq (tgt := 1797) hx hb dL_law_1380 (by decide) (fun _ => ?_) (fun h => absurd rfl h)
  exact nx _ _ _ _ _ _ _ _ _ (by omega) (by omega) (lw_end hI0 (AFr.refl ad) hP hP2) hW hS hl
