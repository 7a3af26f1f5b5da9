set_option maxHeartbeats 400000 in
set_option maxRecDepth 100000 in
theorem lc_0 {p : Program} {l : Launch} {e : Env} {s : State} {m : MethodId} {below : List Frame} {meth : Method} {c : Code} {b L : Nat} {xs : Nat → Int32} {D : va_G} {cA : Nat → ClassId} (hF : lw_F p s m meth c b L xs D cA) {x0 m0 o0 n : Nat} (hn : 8 * n + 8 ≤ L) (nx : lw_NX p l e s m below meth c b D cA x0 m0 o0 n) {S : sS} {sr : Nat → Int32} {ad : kA} {d : kD} {H : Heap} {locs : List Loc} {ls : Array Slot} (hI : lw_I cA x0 m0 o0 S sr ad d) (hW : oW D cA s.heap.size ad d H) (hS : va_S (oA s.heap.size) s.heap H locs) (hl : lv_has ls 7 [(4, .int (nI (8 * n))), (3, .ref o0), (2, .ref m0), (1, .ref x0), (0, .ref b)]) : W p l e room_1 s m #[Value.ref b] below meth c H locs (300 + 4 * n) (500000 + 100 * n) (lw_Z below #[Value.ref b] s) (F0 m 200 ls []) := by
  obtain ⟨⟨hx, hb, hr, hml, hown, hts, hX, hbl, hlocks, hgv⟩, hL, hK, hB, hu⟩ := hF
  have hI0 := hI
  obtain ⟨hM, hR, hMm, hRm, hal, h31, h30, rfl, rfl, rfl⟩ := hI
  have hA := hM.1.1
  refine lv_aload_n hx hb dL_law_200 rfl (lv_at hl 3 rfl) ?_
  refine lv_aload_n hx hb dL_law_201 rfl (lv_at hl 4 rfl) ?_
  refine lv_iload hx hb dL_law_202 (lv_at hl 0 rfl) ?_
  refine n_iconst (v := 1) hx hb dL_law_204 (by decide) ?_
  refine n_iadd hx hb dL_law_205 ?_
  refine l_sld hx hb hX hbl hS (by omega) hL dL_law_206 ?_
  refine lv_aload_n hx hb dL_law_207 rfl (lv_at hl 4 rfl) ?_
  refine lv_iload hx hb dL_law_208 (lv_at hl 0 rfl) ?_
  refine n_iconst (v := 2) hx hb dL_law_210 (by decide) ?_
  refine n_iadd hx hb dL_law_211 ?_
  refine l_sld hx hb hX hbl hS (by omega) hL dL_law_212 ?_
  refine lv_aload_n hx hb dL_law_213 rfl (lv_at hl 4 rfl) ?_
  refine lv_iload hx hb dL_law_214 (lv_at hl 0 rfl) ?_
  refine n_iconst (v := 3) hx hb dL_law_216 (by decide) ?_
  refine n_iadd hx hb dL_law_217 ?_
  refine l_sld hx hb hX hbl hS (by omega) hL dL_law_218 ?_
  refine lv_aload_n hx hb dL_law_219 rfl (lv_at hl 4 rfl) ?_
  refine lv_iload hx hb dL_law_220 (lv_at hl 0 rfl) ?_
  refine n_iconst (v := 4) hx hb dL_law_222 (by decide) ?_
  refine n_iadd hx hb dL_law_223 ?_
  refine l_sld hx hb hX hbl hS (by omega) hL dL_law_224 ?_
  refine lv_aload_n hx hb dL_law_225 rfl (lv_at hl 4 rfl) ?_
  refine lv_iload hx hb dL_law_226 (lv_at hl 0 rfl) ?_
  refine n_iconst (v := 5) hx hb dL_law_228 (by decide) ?_
  refine n_iadd hx hb dL_law_229 ?_
  refine l_sld hx hb hX hbl hS (by omega) hL dL_law_230 ?_
  refine o_calli (o_runV (As := [.int (xs (8 * n + 1)), .int (xs (8 * n + 2)), .int (xs (8 * n + 3)), .int (xs (8 * n + 4)), .int (xs (8 * n + 5))]) (rest := []) ⟨hx, hb, hml, hown, hu⟩ (c_X9_flows l D cA s.heap.size ad hal S sr d hM hR (xs (8 * n + 1)) (xs (8 * n + 2)) (xs (8 * n + 3)) (xs (8 * n + 4)) (xs (8 * n + 5))) (gV_L_19 (fun _ h => h)) (n0 := 5) rfl (by decide +kernel) rfl ⟨Nat.le_of_ble_eq_true rfl, Nat.le_of_ble_eq_true rfl⟩ (o_recv hK hW (hA.o (k := 0) rfl) (kX_0 _ _ _ _) rfl) hK hW hB hS hl.1 rfl (lv_room (Nat.le_of_ble_eq_true rfl)) ⟨by show 300 + 4 * n + 0 ≤ 601024; omega, by show 500000 + 100 * n + 0 ≤ 7293034; omega⟩ dL_law_231) hS (fun r d1 hp H locs hW hS => ?_)
  obtain ⟨rfl, hP⟩ := hp
  obtain ⟨hMm1, hRm1⟩ := lw_mid hMm hRm hP.2.2
  refine lv_aload_n hx hb dL_law_234 rfl (lv_at hl 2 rfl) ?_
  refine lv_aload_n hx hb dL_law_235 rfl (lv_at hl 4 rfl) ?_
  refine lv_iload hx hb dL_law_236 (lv_at hl 0 rfl) ?_
  refine n_iconst (v := 1) hx hb dL_law_238 (by decide) ?_
  refine n_iadd hx hb dL_law_239 ?_
  refine l_sld hx hb hX hbl hS (by omega) hL dL_law_240 ?_
  refine lv_aload_n hx hb dL_law_241 rfl (lv_at hl 4 rfl) ?_
  refine lv_iload hx hb dL_law_242 (lv_at hl 0 rfl) ?_
  refine n_iconst (v := 2) hx hb dL_law_244 (by decide) ?_
  refine n_iadd hx hb dL_law_245 ?_
  refine l_sld hx hb hX hbl hS (by omega) hL dL_law_246 ?_
  refine lv_aload_n hx hb dL_law_247 rfl (lv_at hl 4 rfl) ?_
  refine lv_iload hx hb dL_law_248 (lv_at hl 0 rfl) ?_
  refine n_iconst (v := 3) hx hb dL_law_250 (by decide) ?_
  refine n_iadd hx hb dL_law_251 ?_
  refine l_sld hx hb hX hbl hS (by omega) hL dL_law_252 ?_
  refine lv_aload_n hx hb dL_law_253 rfl (lv_at hl 4 rfl) ?_
  refine lv_iload hx hb dL_law_254 (lv_at hl 0 rfl) ?_
  refine n_iconst (v := 4) hx hb dL_law_256 (by decide) ?_
  refine n_iadd hx hb dL_law_257 ?_
  refine l_sld hx hb hX hbl hS (by omega) hL dL_law_258 ?_
  refine lv_aload_n hx hb dL_law_259 rfl (lv_at hl 4 rfl) ?_
  refine lv_iload hx hb dL_law_260 (lv_at hl 0 rfl) ?_
  refine n_iconst (v := 5) hx hb dL_law_262 (by decide) ?_
  refine n_iadd hx hb dL_law_263 ?_
  refine l_sld hx hb hX hbl hS (by omega) hL dL_law_264 ?_
  have hal1 : mAl ad := hal
  refine o_calli (o_runV (As := [.int (xs (8 * n + 1)), .int (xs (8 * n + 2)), .int (xs (8 * n + 3)), .int (xs (8 * n + 4)), .int (xs (8 * n + 5))]) (rest := [.int (aFlows S (xs (8 * n + 1)) (xs (8 * n + 2)) (xs (8 * n + 3)) (xs (8 * n + 4)) (xs (8 * n + 5)))]) ⟨hx, hb, hml, hown, hu⟩ (c_X10_flows l D cA s.heap.size ad hal1 S sr d1 hMm1 hRm1 (xs (8 * n + 1)) (xs (8 * n + 2)) (xs (8 * n + 3)) (xs (8 * n + 4)) (xs (8 * n + 5))) (gV_L_23 (fun _ h => h)) (n0 := 5) rfl (by decide +kernel) rfl ⟨Nat.le_of_ble_eq_true rfl, Nat.le_of_ble_eq_true rfl⟩ (o_recv hK hW hal1.1 (kC_M _ _ _) rfl) hK hW hB hS hl.1 rfl (lv_room (Nat.le_of_ble_eq_true rfl)) ⟨by show 300 + 4 * n + 0 + 0 ≤ 601024; omega, by show 500000 + 100 * n + 0 + 0 ≤ 7293034; omega⟩ dL_law_265) hS (fun r2 d2 hp2 H locs hW hS => ?_)
  obtain ⟨rfl, hP2⟩ := hp2
  refine lv_icmp_eq (tgt := 1797) hx hb dL_law_268 (by decide) (fun _ => ?_) (fun h => absurd rfl h)
  exact nx _ _ _ _ _ _ _ _ _ (by omega) (by omega) (lw_end hI0 (AFr.refl ad) hP hP2) hW hS hl
set_option maxHeartbeats 400000 in
set_option maxRecDepth 100000 in
theorem lc_1 {p : Program} {l : Launch} {e : Env} {s : State} {m : MethodId} {below : List Frame} {meth : Method} {c : Code} {b L : Nat} {xs : Nat → Int32} {D : va_G} {cA : Nat → ClassId} (hF : lw_F p s m meth c b L xs D cA) {x0 m0 o0 n : Nat} (hn : 8 * n + 8 ≤ L) (nx : lw_NX p l e s m below meth c b D cA x0 m0 o0 n) {S : sS} {sr : Nat → Int32} {ad : kA} {d : kD} {H : Heap} {locs : List Loc} {ls : Array Slot} (hI : lw_I cA x0 m0 o0 S sr ad d) (hW : oW D cA s.heap.size ad d H) (hS : va_S (oA s.heap.size) s.heap H locs) (hl : lv_has ls 7 [(4, .int (nI (8 * n))), (3, .ref o0), (2, .ref m0), (1, .ref x0), (0, .ref b)]) : W p l e room_1 s m #[Value.ref b] below meth c H locs (300 + 4 * n) (500000 + 100 * n) (lw_Z below #[Value.ref b] s) (F0 m 273 ls []) := by
  obtain ⟨⟨hx, hb, hr, hml, hown, hts, hX, hbl, hlocks, hgv⟩, hL, hK, hB, hu⟩ := hF
  have hI0 := hI
  obtain ⟨hM, hR, hMm, hRm, hal, h31, h30, rfl, rfl, rfl⟩ := hI
  have hA := hM.1.1
  refine lv_aload_n hx hb dL_law_273 rfl (lv_at hl 3 rfl) ?_
  refine lv_aload_n hx hb dL_law_274 rfl (lv_at hl 4 rfl) ?_
  refine lv_iload hx hb dL_law_275 (lv_at hl 0 rfl) ?_
  refine n_iconst (v := 1) hx hb dL_law_277 (by decide) ?_
  refine n_iadd hx hb dL_law_278 ?_
  refine l_sld hx hb hX hbl hS (by omega) hL dL_law_279 ?_
  refine o_calli (o_runV (As := [.int (xs (8 * n + 1))]) (rest := []) ⟨hx, hb, hml, hown, hu⟩ (c_X9_flow l D cA s.heap.size ad hal S sr d hM hR (xs (8 * n + 1))) (gV_L_24 (fun _ h => h)) (n0 := 1) rfl (by decide +kernel) rfl ⟨Nat.le_of_ble_eq_true rfl, Nat.le_of_ble_eq_true rfl⟩ (o_recv hK hW (hA.o (k := 0) rfl) (kX_0 _ _ _ _) rfl) hK hW hB hS hl.1 rfl (lv_room (Nat.le_of_ble_eq_true rfl)) ⟨by show 300 + 4 * n + 0 ≤ 601024; omega, by show 500000 + 100 * n + 0 ≤ 7293034; omega⟩ dL_law_280) hS (fun r d1 hp H locs hW hS => ?_)
  obtain ⟨rfl, hP⟩ := hp
  obtain ⟨hMm1, hRm1⟩ := lw_mid hMm hRm hP.2.2
  refine lv_aload_n hx hb dL_law_283 rfl (lv_at hl 2 rfl) ?_
  refine lv_aload_n hx hb dL_law_284 rfl (lv_at hl 4 rfl) ?_
  refine lv_iload hx hb dL_law_285 (lv_at hl 0 rfl) ?_
  refine n_iconst (v := 1) hx hb dL_law_287 (by decide) ?_
  refine n_iadd hx hb dL_law_288 ?_
  refine l_sld hx hb hX hbl hS (by omega) hL dL_law_289 ?_
  have hal1 : mAl ad := hal
  refine o_calli (o_runV (As := [.int (xs (8 * n + 1))]) (rest := [.int (aFlow S (xs (8 * n + 1)))]) ⟨hx, hb, hml, hown, hu⟩ (c_X10_flow l D cA s.heap.size ad hal1 S sr d1 hMm1 hRm1 (xs (8 * n + 1))) (gV_L_27 (fun _ h => h)) (n0 := 1) rfl (by decide +kernel) rfl ⟨Nat.le_of_ble_eq_true rfl, Nat.le_of_ble_eq_true rfl⟩ (o_recv hK hW hal1.1 (kC_M _ _ _) rfl) hK hW hB hS hl.1 rfl (lv_room (Nat.le_of_ble_eq_true rfl)) ⟨by show 300 + 4 * n + 0 + 0 ≤ 601024; omega, by show 500000 + 100 * n + 0 + 0 ≤ 7293034; omega⟩ dL_law_290) hS (fun r2 d2 hp2 H locs hW hS => ?_)
  obtain ⟨rfl, hP2⟩ := hp2
  refine lv_icmp_eq (tgt := 1797) hx hb dL_law_293 (by decide) (fun _ => ?_) (fun h => absurd rfl h)
  exact nx _ _ _ _ _ _ _ _ _ (by omega) (by omega) (lw_end hI0 (AFr.refl ad) hP hP2) hW hS hl
set_option maxHeartbeats 400000 in
set_option maxRecDepth 100000 in
theorem lc_2 {p : Program} {l : Launch} {e : Env} {s : State} {m : MethodId} {below : List Frame} {meth : Method} {c : Code} {b L : Nat} {xs : Nat → Int32} {D : va_G} {cA : Nat → ClassId} (hF : lw_F p s m meth c b L xs D cA) {x0 m0 o0 n : Nat} (hn : 8 * n + 8 ≤ L) (nx : lw_NX p l e s m below meth c b D cA x0 m0 o0 n) {S : sS} {sr : Nat → Int32} {ad : kA} {d : kD} {H : Heap} {locs : List Loc} {ls : Array Slot} (hI : lw_I cA x0 m0 o0 S sr ad d) (hW : oW D cA s.heap.size ad d H) (hS : va_S (oA s.heap.size) s.heap H locs) (hl : lv_has ls 7 [(4, .int (nI (8 * n))), (3, .ref o0), (2, .ref m0), (1, .ref x0), (0, .ref b)]) : W p l e room_1 s m #[Value.ref b] below meth c H locs (300 + 4 * n) (500000 + 100 * n) (lw_Z below #[Value.ref b] s) (F0 m 298 ls []) := by
  obtain ⟨⟨hx, hb, hr, hml, hown, hts, hX, hbl, hlocks, hgv⟩, hL, hK, hB, hu⟩ := hF
  have hI0 := hI
  obtain ⟨hM, hR, hMm, hRm, hal, h31, h30, rfl, rfl, rfl⟩ := hI
  have hA := hM.1.1
  refine lv_aload_n hx hb dL_law_298 rfl (lv_at hl 3 rfl) ?_
  refine o_calli (o_runV (As := []) (rest := []) ⟨hx, hb, hml, hown, hu⟩ (c_X9_bed l D cA s.heap.size ad hal S sr d hM hR ) (gV_L_28 (fun _ h => h)) (n0 := 0) rfl (by decide +kernel) rfl ⟨Nat.le_of_ble_eq_true rfl, Nat.le_of_ble_eq_true rfl⟩ (o_recv hK hW (hA.o (k := 0) rfl) (kX_0 _ _ _ _) rfl) hK hW hB hS hl.1 rfl (lv_room (Nat.le_of_ble_eq_true rfl)) ⟨by show 300 + 4 * n + 0 ≤ 601024; omega, by show 500000 + 100 * n + 0 ≤ 7293034; omega⟩ dL_law_299) hS (fun r d1 hp H locs hW hS => ?_)
  obtain ⟨rfl, hP⟩ := hp
  obtain ⟨hMm1, hRm1⟩ := lw_mid hMm hRm hP.2.2
  refine lv_aload_n hx hb dL_law_302 rfl (lv_at hl 2 rfl) ?_
  have hal1 : mAl ad := hal
  refine o_calli (o_runV (As := []) (rest := [.int (aBed S)]) ⟨hx, hb, hml, hown, hu⟩ (c_X10_bed l D cA s.heap.size ad hal1 S sr d1 hMm1 hRm1 ) (gV_L_32 (fun _ h => h)) (n0 := 0) rfl (by decide +kernel) rfl ⟨Nat.le_of_ble_eq_true rfl, Nat.le_of_ble_eq_true rfl⟩ (o_recv hK hW hal1.1 (kC_M _ _ _) rfl) hK hW hB hS hl.1 rfl (lv_room (Nat.le_of_ble_eq_true rfl)) ⟨by show 300 + 4 * n + 0 + 0 ≤ 601024; omega, by show 500000 + 100 * n + 0 + 0 ≤ 7293034; omega⟩ dL_law_303) hS (fun r2 d2 hp2 H locs hW hS => ?_)
  obtain ⟨rfl, hP2⟩ := hp2
  refine lv_icmp_eq (tgt := 1797) hx hb dL_law_306 (by decide) (fun _ => ?_) (fun h => absurd rfl h)
  exact nx _ _ _ _ _ _ _ _ _ (by omega) (by omega) (lw_end hI0 (AFr.refl ad) hP hP2) hW hS hl
set_option maxHeartbeats 400000 in
set_option maxRecDepth 100000 in
theorem lc_3 {p : Program} {l : Launch} {e : Env} {s : State} {m : MethodId} {below : List Frame} {meth : Method} {c : Code} {b L : Nat} {xs : Nat → Int32} {D : va_G} {cA : Nat → ClassId} (hF : lw_F p s m meth c b L xs D cA) {x0 m0 o0 n : Nat} (hn : 8 * n + 8 ≤ L) (nx : lw_NX p l e s m below meth c b D cA x0 m0 o0 n) {S : sS} {sr : Nat → Int32} {ad : kA} {d : kD} {H : Heap} {locs : List Loc} {ls : Array Slot} (hI : lw_I cA x0 m0 o0 S sr ad d) (hW : oW D cA s.heap.size ad d H) (hS : va_S (oA s.heap.size) s.heap H locs) (hl : lv_has ls 7 [(4, .int (nI (8 * n))), (3, .ref o0), (2, .ref m0), (1, .ref x0), (0, .ref b)]) : W p l e room_1 s m #[Value.ref b] below meth c H locs (300 + 4 * n) (500000 + 100 * n) (lw_Z below #[Value.ref b] s) (F0 m 311 ls []) := by
  obtain ⟨⟨hx, hb, hr, hml, hown, hts, hX, hbl, hlocks, hgv⟩, hL, hK, hB, hu⟩ := hF
  have hI0 := hI
  obtain ⟨hM, hR, hMm, hRm, hal, h31, h30, rfl, rfl, rfl⟩ := hI
  have hA := hM.1.1
  refine lv_aload_n hx hb dL_law_311 rfl (lv_at hl 3 rfl) ?_
  refine lv_aload_n hx hb dL_law_312 rfl (lv_at hl 4 rfl) ?_
  refine lv_iload hx hb dL_law_313 (lv_at hl 0 rfl) ?_
  refine n_iconst (v := 1) hx hb dL_law_315 (by decide) ?_
  refine n_iadd hx hb dL_law_316 ?_
  refine l_sld hx hb hX hbl hS (by omega) hL dL_law_317 ?_
  refine lv_aload_n hx hb dL_law_318 rfl (lv_at hl 4 rfl) ?_
  refine lv_iload hx hb dL_law_319 (lv_at hl 0 rfl) ?_
  refine n_iconst (v := 2) hx hb dL_law_321 (by decide) ?_
  refine n_iadd hx hb dL_law_322 ?_
  refine l_sld hx hb hX hbl hS (by omega) hL dL_law_323 ?_
  refine lv_aload_n hx hb dL_law_324 rfl (lv_at hl 4 rfl) ?_
  refine lv_iload hx hb dL_law_325 (lv_at hl 0 rfl) ?_
  refine n_iconst (v := 3) hx hb dL_law_327 (by decide) ?_
  refine n_iadd hx hb dL_law_328 ?_
  refine l_sld hx hb hX hbl hS (by omega) hL dL_law_329 ?_
  refine lv_aload_n hx hb dL_law_330 rfl (lv_at hl 4 rfl) ?_
  refine lv_iload hx hb dL_law_331 (lv_at hl 0 rfl) ?_
  refine n_iconst (v := 4) hx hb dL_law_333 (by decide) ?_
  refine n_iadd hx hb dL_law_334 ?_
  refine l_sld hx hb hX hbl hS (by omega) hL dL_law_335 ?_
  refine lv_aload_n hx hb dL_law_336 rfl (lv_at hl 4 rfl) ?_
  refine lv_iload hx hb dL_law_337 (lv_at hl 0 rfl) ?_
  refine n_iconst (v := 5) hx hb dL_law_339 (by decide) ?_
  refine n_iadd hx hb dL_law_340 ?_
  refine l_sld hx hb hX hbl hS (by omega) hL dL_law_341 ?_
  refine o_calliA (o_runV (As := [.int (xs (8 * n + 1)), .int (xs (8 * n + 2)), .int (xs (8 * n + 3)), .int (xs (8 * n + 4)), .int (xs (8 * n + 5))]) (rest := []) ⟨hx, hb, hml, hown, hu⟩ (c_X9_pier l D cA s.heap.size ad hal S sr d hM hR (xs (8 * n + 1)) (xs (8 * n + 2)) (xs (8 * n + 3)) (xs (8 * n + 4)) (xs (8 * n + 5))) (gV_L_33 (fun _ h => h)) (n0 := 5) rfl (by decide +kernel) rfl ⟨Nat.le_of_ble_eq_true rfl, Nat.le_of_ble_eq_true rfl⟩ (o_recv hK hW (hA.o (k := 0) rfl) (kX_0 _ _ _ _) rfl) hK hW hB hS hl.1 rfl (lv_room (Nat.le_of_ble_eq_true rfl)) ⟨by show 300 + 4 * n + 2 ≤ 601024; omega, by show 500000 + 100 * n + 80 ≤ 7293034; omega⟩ dL_law_342) hS (fun r u hp H locs hW hS => ?_)
  obtain ⟨a, d1⟩ := u
  obtain ⟨rfl, hP, hAF⟩ := hp
  have e40 : a.1 40 0 = ad.1 40 0 := by rw [hAF.1 40 (by omega)]
  obtain ⟨hMm1, hRm1⟩ := lw_mid hMm hRm hP.2.2
  refine lv_aload_n hx hb dL_law_345 rfl (lv_at hl 2 rfl) ?_
  refine lv_aload_n hx hb dL_law_346 rfl (lv_at hl 4 rfl) ?_
  refine lv_iload hx hb dL_law_347 (lv_at hl 0 rfl) ?_
  refine n_iconst (v := 1) hx hb dL_law_349 (by decide) ?_
  refine n_iadd hx hb dL_law_350 ?_
  refine l_sld hx hb hX hbl hS (by omega) hL dL_law_351 ?_
  refine lv_aload_n hx hb dL_law_352 rfl (lv_at hl 4 rfl) ?_
  refine lv_iload hx hb dL_law_353 (lv_at hl 0 rfl) ?_
  refine n_iconst (v := 2) hx hb dL_law_355 (by decide) ?_
  refine n_iadd hx hb dL_law_356 ?_
  refine l_sld hx hb hX hbl hS (by omega) hL dL_law_357 ?_
  refine lv_aload_n hx hb dL_law_358 rfl (lv_at hl 4 rfl) ?_
  refine lv_iload hx hb dL_law_359 (lv_at hl 0 rfl) ?_
  refine n_iconst (v := 3) hx hb dL_law_361 (by decide) ?_
  refine n_iadd hx hb dL_law_362 ?_
  refine l_sld hx hb hX hbl hS (by omega) hL dL_law_363 ?_
  refine lv_aload_n hx hb dL_law_364 rfl (lv_at hl 4 rfl) ?_
  refine lv_iload hx hb dL_law_365 (lv_at hl 0 rfl) ?_
  refine n_iconst (v := 4) hx hb dL_law_367 (by decide) ?_
  refine n_iadd hx hb dL_law_368 ?_
  refine l_sld hx hb hX hbl hS (by omega) hL dL_law_369 ?_
  refine lv_aload_n hx hb dL_law_370 rfl (lv_at hl 4 rfl) ?_
  refine lv_iload hx hb dL_law_371 (lv_at hl 0 rfl) ?_
  refine n_iconst (v := 5) hx hb dL_law_373 (by decide) ?_
  refine n_iadd hx hb dL_law_374 ?_
  refine l_sld hx hb hX hbl hS (by omega) hL dL_law_375 ?_
  refine W.eq (g2 := F0 m 376 ls [.int (xs (8 * n + 5)), .int (xs (8 * n + 4)), .int (xs (8 * n + 3)), .int (xs (8 * n + 2)), .int (xs (8 * n + 1)), .ref (a.1 40 0), .int (aPier S (xs (8 * n + 1)) (xs (8 * n + 2)) (xs (8 * n + 3)) (xs (8 * n + 4)) (xs (8 * n + 5)))]) (by rw [e40]) ?_
  have hal1 : mAl a := (hAF.mal hal)
  refine o_calli (o_runV (As := [.int (xs (8 * n + 1)), .int (xs (8 * n + 2)), .int (xs (8 * n + 3)), .int (xs (8 * n + 4)), .int (xs (8 * n + 5))]) (rest := [.int (aPier S (xs (8 * n + 1)) (xs (8 * n + 2)) (xs (8 * n + 3)) (xs (8 * n + 4)) (xs (8 * n + 5)))]) ⟨hx, hb, hml, hown, hu⟩ (c_X10_pier l D cA s.heap.size a hal1 S sr d1 hMm1 hRm1 (xs (8 * n + 1)) (xs (8 * n + 2)) (xs (8 * n + 3)) (xs (8 * n + 4)) (xs (8 * n + 5))) (gV_L_36 (fun _ h => h)) (n0 := 5) rfl (by decide +kernel) rfl ⟨Nat.le_of_ble_eq_true rfl, Nat.le_of_ble_eq_true rfl⟩ (o_recv hK hW hal1.1 (kC_M _ _ _) rfl) hK hW hB hS hl.1 rfl (lv_room (Nat.le_of_ble_eq_true rfl)) ⟨by show 300 + 4 * n + 2 + 0 ≤ 601024; omega, by show 500000 + 100 * n + 80 + 0 ≤ 7293034; omega⟩ dL_law_376) hS (fun r2 d2 hp2 H locs hW hS => ?_)
  obtain ⟨rfl, hP2⟩ := hp2
  refine lv_icmp_eq (tgt := 1797) hx hb dL_law_379 (by decide) (fun _ => ?_) (fun h => absurd rfl h)
  exact nx _ _ _ _ _ _ _ _ _ (by omega) (by omega) (lw_end hI0 hAF hP hP2) hW hS hl
set_option maxHeartbeats 400000 in
set_option maxRecDepth 100000 in
theorem lc_4 {p : Program} {l : Launch} {e : Env} {s : State} {m : MethodId} {below : List Frame} {meth : Method} {c : Code} {b L : Nat} {xs : Nat → Int32} {D : va_G} {cA : Nat → ClassId} (hF : lw_F p s m meth c b L xs D cA) {x0 m0 o0 n : Nat} (hn : 8 * n + 8 ≤ L) (nx : lw_NX p l e s m below meth c b D cA x0 m0 o0 n) {S : sS} {sr : Nat → Int32} {ad : kA} {d : kD} {H : Heap} {locs : List Loc} {ls : Array Slot} (hI : lw_I cA x0 m0 o0 S sr ad d) (hW : oW D cA s.heap.size ad d H) (hS : va_S (oA s.heap.size) s.heap H locs) (hl : lv_has ls 7 [(4, .int (nI (8 * n))), (3, .ref o0), (2, .ref m0), (1, .ref x0), (0, .ref b)]) : W p l e room_1 s m #[Value.ref b] below meth c H locs (300 + 4 * n) (500000 + 100 * n) (lw_Z below #[Value.ref b] s) (F0 m 384 ls []) := by
  obtain ⟨⟨hx, hb, hr, hml, hown, hts, hX, hbl, hlocks, hgv⟩, hL, hK, hB, hu⟩ := hF
  have hI0 := hI
  obtain ⟨hM, hR, hMm, hRm, hal, h31, h30, rfl, rfl, rfl⟩ := hI
  have hA := hM.1.1
  refine lv_aload_n hx hb dL_law_384 rfl (lv_at hl 3 rfl) ?_
  refine lv_aload_n hx hb dL_law_385 rfl (lv_at hl 4 rfl) ?_
  refine lv_iload hx hb dL_law_386 (lv_at hl 0 rfl) ?_
  refine n_iconst (v := 1) hx hb dL_law_388 (by decide) ?_
  refine n_iadd hx hb dL_law_389 ?_
  refine l_sld hx hb hX hbl hS (by omega) hL dL_law_390 ?_
  refine lv_aload_n hx hb dL_law_391 rfl (lv_at hl 4 rfl) ?_
  refine lv_iload hx hb dL_law_392 (lv_at hl 0 rfl) ?_
  refine n_iconst (v := 2) hx hb dL_law_394 (by decide) ?_
  refine n_iadd hx hb dL_law_395 ?_
  refine l_sld hx hb hX hbl hS (by omega) hL dL_law_396 ?_
  refine lv_aload_n hx hb dL_law_397 rfl (lv_at hl 4 rfl) ?_
  refine lv_iload hx hb dL_law_398 (lv_at hl 0 rfl) ?_
  refine n_iconst (v := 3) hx hb dL_law_400 (by decide) ?_
  refine n_iadd hx hb dL_law_401 ?_
  refine l_sld hx hb hX hbl hS (by omega) hL dL_law_402 ?_
  refine o_calliA (o_runV (As := [.int (xs (8 * n + 1)), .int (xs (8 * n + 2)), .int (xs (8 * n + 3))]) (rest := []) ⟨hx, hb, hml, hown, hu⟩ (c_X9_tree l D cA s.heap.size ad hal S sr d hM hR h31 (xs (8 * n + 1)) (xs (8 * n + 2)) (xs (8 * n + 3))) (gV_L_37 (fun _ h => h)) (n0 := 3) rfl (by decide +kernel) rfl ⟨Nat.le_of_ble_eq_true rfl, Nat.le_of_ble_eq_true rfl⟩ (o_recv hK hW (hA.o (k := 0) rfl) (kX_0 _ _ _ _) rfl) hK hW hB hS hl.1 rfl (lv_room (Nat.le_of_ble_eq_true rfl)) ⟨by show 300 + 4 * n + 2 ≤ 601024; omega, by show 500000 + 100 * n + 80 ≤ 7293034; omega⟩ dL_law_403) hS (fun r u hp H locs hW hS => ?_)
  obtain ⟨a, d1⟩ := u
  obtain ⟨rfl, hP, hAF⟩ := hp
  have e40 : a.1 40 0 = ad.1 40 0 := by rw [hAF.1 40 (by omega)]
  obtain ⟨hMm1, hRm1⟩ := lw_mid hMm hRm hP.2.2
  refine lv_aload_n hx hb dL_law_406 rfl (lv_at hl 2 rfl) ?_
  refine lv_aload_n hx hb dL_law_407 rfl (lv_at hl 4 rfl) ?_
  refine lv_iload hx hb dL_law_408 (lv_at hl 0 rfl) ?_
  refine n_iconst (v := 1) hx hb dL_law_410 (by decide) ?_
  refine n_iadd hx hb dL_law_411 ?_
  refine l_sld hx hb hX hbl hS (by omega) hL dL_law_412 ?_
  refine lv_aload_n hx hb dL_law_413 rfl (lv_at hl 4 rfl) ?_
  refine lv_iload hx hb dL_law_414 (lv_at hl 0 rfl) ?_
  refine n_iconst (v := 2) hx hb dL_law_416 (by decide) ?_
  refine n_iadd hx hb dL_law_417 ?_
  refine l_sld hx hb hX hbl hS (by omega) hL dL_law_418 ?_
  refine lv_aload_n hx hb dL_law_419 rfl (lv_at hl 4 rfl) ?_
  refine lv_iload hx hb dL_law_420 (lv_at hl 0 rfl) ?_
  refine n_iconst (v := 3) hx hb dL_law_422 (by decide) ?_
  refine n_iadd hx hb dL_law_423 ?_
  refine l_sld hx hb hX hbl hS (by omega) hL dL_law_424 ?_
  refine W.eq (g2 := F0 m 425 ls [.int (xs (8 * n + 3)), .int (xs (8 * n + 2)), .int (xs (8 * n + 1)), .ref (a.1 40 0), .int (aTree S (xs (8 * n + 1)) (xs (8 * n + 2)) (xs (8 * n + 3)))]) (by rw [e40]) ?_
  have hal1 : mAl a := (hAF.mal hal)
  refine o_calli (o_runV (As := [.int (xs (8 * n + 1)), .int (xs (8 * n + 2)), .int (xs (8 * n + 3))]) (rest := [.int (aTree S (xs (8 * n + 1)) (xs (8 * n + 2)) (xs (8 * n + 3)))]) ⟨hx, hb, hml, hown, hu⟩ (c_X10_tree l D cA s.heap.size a hal1 S sr d1 hMm1 hRm1 (xs (8 * n + 1)) (xs (8 * n + 2)) (xs (8 * n + 3))) (gV_L_41 (fun _ h => h)) (n0 := 3) rfl (by decide +kernel) rfl ⟨Nat.le_of_ble_eq_true rfl, Nat.le_of_ble_eq_true rfl⟩ (o_recv hK hW hal1.1 (kC_M _ _ _) rfl) hK hW hB hS hl.1 rfl (lv_room (Nat.le_of_ble_eq_true rfl)) ⟨by show 300 + 4 * n + 2 + 0 ≤ 601024; omega, by show 500000 + 100 * n + 80 + 0 ≤ 7293034; omega⟩ dL_law_425) hS (fun r2 d2 hp2 H locs hW hS => ?_)
  obtain ⟨rfl, hP2⟩ := hp2
  refine lv_icmp_eq (tgt := 1797) hx hb dL_law_428 (by decide) (fun _ => ?_) (fun h => absurd rfl h)
  exact nx _ _ _ _ _ _ _ _ _ (by omega) (by omega) (lw_end hI0 hAF hP hP2) hW hS hl
set_option maxHeartbeats 400000 in
set_option maxRecDepth 100000 in
theorem lc_5 {p : Program} {l : Launch} {e : Env} {s : State} {m : MethodId} {below : List Frame} {meth : Method} {c : Code} {b L : Nat} {xs : Nat → Int32} {D : va_G} {cA : Nat → ClassId} (hF : lw_F p s m meth c b L xs D cA) {x0 m0 o0 n : Nat} (hn : 8 * n + 8 ≤ L) (nx : lw_NX p l e s m below meth c b D cA x0 m0 o0 n) {S : sS} {sr : Nat → Int32} {ad : kA} {d : kD} {H : Heap} {locs : List Loc} {ls : Array Slot} (hI : lw_I cA x0 m0 o0 S sr ad d) (hW : oW D cA s.heap.size ad d H) (hS : va_S (oA s.heap.size) s.heap H locs) (hl : lv_has ls 7 [(4, .int (nI (8 * n))), (3, .ref o0), (2, .ref m0), (1, .ref x0), (0, .ref b)]) : W p l e room_1 s m #[Value.ref b] below meth c H locs (300 + 4 * n) (500000 + 100 * n) (lw_Z below #[Value.ref b] s) (F0 m 433 ls []) := by
  obtain ⟨⟨hx, hb, hr, hml, hown, hts, hX, hbl, hlocks, hgv⟩, hL, hK, hB, hu⟩ := hF
  have hI0 := hI
  obtain ⟨hM, hR, hMm, hRm, hal, h31, h30, rfl, rfl, rfl⟩ := hI
  have hA := hM.1.1
  refine lv_aload_n hx hb dL_law_433 rfl (lv_at hl 3 rfl) ?_
  refine lv_aload_n hx hb dL_law_434 rfl (lv_at hl 4 rfl) ?_
  refine lv_iload hx hb dL_law_435 (lv_at hl 0 rfl) ?_
  refine n_iconst (v := 1) hx hb dL_law_437 (by decide) ?_
  refine n_iadd hx hb dL_law_438 ?_
  refine l_sld hx hb hX hbl hS (by omega) hL dL_law_439 ?_
  refine lv_aload_n hx hb dL_law_440 rfl (lv_at hl 4 rfl) ?_
  refine lv_iload hx hb dL_law_441 (lv_at hl 0 rfl) ?_
  refine n_iconst (v := 2) hx hb dL_law_443 (by decide) ?_
  refine n_iadd hx hb dL_law_444 ?_
  refine l_sld hx hb hX hbl hS (by omega) hL dL_law_445 ?_
  refine lv_aload_n hx hb dL_law_446 rfl (lv_at hl 4 rfl) ?_
  refine lv_iload hx hb dL_law_447 (lv_at hl 0 rfl) ?_
  refine n_iconst (v := 3) hx hb dL_law_449 (by decide) ?_
  refine n_iadd hx hb dL_law_450 ?_
  refine l_sld hx hb hX hbl hS (by omega) hL dL_law_451 ?_
  refine lv_aload_n hx hb dL_law_452 rfl (lv_at hl 4 rfl) ?_
  refine lv_iload hx hb dL_law_453 (lv_at hl 0 rfl) ?_
  refine n_iconst (v := 4) hx hb dL_law_455 (by decide) ?_
  refine n_iadd hx hb dL_law_456 ?_
  refine l_sld hx hb hX hbl hS (by omega) hL dL_law_457 ?_
  refine o_calli (o_runV (As := [.int (xs (8 * n + 1)), .int (xs (8 * n + 2)), .int (xs (8 * n + 3)), .int (xs (8 * n + 4))]) (rest := []) ⟨hx, hb, hml, hown, hu⟩ (c_X9_hole l D cA s.heap.size ad hal S sr d hM hR (xs (8 * n + 1)) (xs (8 * n + 2)) (xs (8 * n + 3)) (xs (8 * n + 4))) (gV_L_42 (fun _ h => h)) (n0 := 4) rfl (by decide +kernel) rfl ⟨Nat.le_of_ble_eq_true rfl, Nat.le_of_ble_eq_true rfl⟩ (o_recv hK hW (hA.o (k := 0) rfl) (kX_0 _ _ _ _) rfl) hK hW hB hS hl.1 rfl (lv_room (Nat.le_of_ble_eq_true rfl)) ⟨by show 300 + 4 * n + 0 ≤ 601024; omega, by show 500000 + 100 * n + 0 ≤ 7293034; omega⟩ dL_law_458) hS (fun r d1 hp H locs hW hS => ?_)
  obtain ⟨rfl, hP⟩ := hp
  obtain ⟨hMm1, hRm1⟩ := lw_mid hMm hRm hP.2.2
  refine lv_aload_n hx hb dL_law_461 rfl (lv_at hl 2 rfl) ?_
  refine lv_aload_n hx hb dL_law_462 rfl (lv_at hl 4 rfl) ?_
  refine lv_iload hx hb dL_law_463 (lv_at hl 0 rfl) ?_
  refine n_iconst (v := 1) hx hb dL_law_465 (by decide) ?_
  refine n_iadd hx hb dL_law_466 ?_
  refine l_sld hx hb hX hbl hS (by omega) hL dL_law_467 ?_
  refine lv_aload_n hx hb dL_law_468 rfl (lv_at hl 4 rfl) ?_
  refine lv_iload hx hb dL_law_469 (lv_at hl 0 rfl) ?_
  refine n_iconst (v := 2) hx hb dL_law_471 (by decide) ?_
  refine n_iadd hx hb dL_law_472 ?_
  refine l_sld hx hb hX hbl hS (by omega) hL dL_law_473 ?_
  refine lv_aload_n hx hb dL_law_474 rfl (lv_at hl 4 rfl) ?_
  refine lv_iload hx hb dL_law_475 (lv_at hl 0 rfl) ?_
  refine n_iconst (v := 3) hx hb dL_law_477 (by decide) ?_
  refine n_iadd hx hb dL_law_478 ?_
  refine l_sld hx hb hX hbl hS (by omega) hL dL_law_479 ?_
  refine lv_aload_n hx hb dL_law_480 rfl (lv_at hl 4 rfl) ?_
  refine lv_iload hx hb dL_law_481 (lv_at hl 0 rfl) ?_
  refine n_iconst (v := 4) hx hb dL_law_483 (by decide) ?_
  refine n_iadd hx hb dL_law_484 ?_
  refine l_sld hx hb hX hbl hS (by omega) hL dL_law_485 ?_
  have hal1 : mAl ad := hal
  refine o_calli (o_runV (As := [.int (xs (8 * n + 1)), .int (xs (8 * n + 2)), .int (xs (8 * n + 3)), .int (xs (8 * n + 4))]) (rest := [.int (aHole S (xs (8 * n + 1)) (xs (8 * n + 2)) (xs (8 * n + 3)) (xs (8 * n + 4)))]) ⟨hx, hb, hml, hown, hu⟩ (c_X10_hole l D cA s.heap.size ad hal1 S sr d1 hMm1 hRm1 (xs (8 * n + 1)) (xs (8 * n + 2)) (xs (8 * n + 3)) (xs (8 * n + 4))) (gV_L_46 (fun _ h => h)) (n0 := 4) rfl (by decide +kernel) rfl ⟨Nat.le_of_ble_eq_true rfl, Nat.le_of_ble_eq_true rfl⟩ (o_recv hK hW hal1.1 (kC_M _ _ _) rfl) hK hW hB hS hl.1 rfl (lv_room (Nat.le_of_ble_eq_true rfl)) ⟨by show 300 + 4 * n + 0 + 0 ≤ 601024; omega, by show 500000 + 100 * n + 0 + 0 ≤ 7293034; omega⟩ dL_law_486) hS (fun r2 d2 hp2 H locs hW hS => ?_)
  obtain ⟨rfl, hP2⟩ := hp2
  refine lv_icmp_eq (tgt := 1797) hx hb dL_law_489 (by decide) (fun _ => ?_) (fun h => absurd rfl h)
  exact nx _ _ _ _ _ _ _ _ _ (by omega) (by omega) (lw_end hI0 (AFr.refl ad) hP hP2) hW hS hl
set_option maxHeartbeats 400000 in
set_option maxRecDepth 100000 in
theorem lc_6 {p : Program} {l : Launch} {e : Env} {s : State} {m : MethodId} {below : List Frame} {meth : Method} {c : Code} {b L : Nat} {xs : Nat → Int32} {D : va_G} {cA : Nat → ClassId} (hF : lw_F p s m meth c b L xs D cA) {x0 m0 o0 n : Nat} (hn : 8 * n + 8 ≤ L) (nx : lw_NX p l e s m below meth c b D cA x0 m0 o0 n) {S : sS} {sr : Nat → Int32} {ad : kA} {d : kD} {H : Heap} {locs : List Loc} {ls : Array Slot} (hI : lw_I cA x0 m0 o0 S sr ad d) (hW : oW D cA s.heap.size ad d H) (hS : va_S (oA s.heap.size) s.heap H locs) (hl : lv_has ls 7 [(4, .int (nI (8 * n))), (3, .ref o0), (2, .ref m0), (1, .ref x0), (0, .ref b)]) : W p l e room_1 s m #[Value.ref b] below meth c H locs (300 + 4 * n) (500000 + 100 * n) (lw_Z below #[Value.ref b] s) (F0 m 494 ls []) := by
  obtain ⟨⟨hx, hb, hr, hml, hown, hts, hX, hbl, hlocks, hgv⟩, hL, hK, hB, hu⟩ := hF
  have hI0 := hI
  obtain ⟨hM, hR, hMm, hRm, hal, h31, h30, rfl, rfl, rfl⟩ := hI
  have hA := hM.1.1
  refine lv_aload_n hx hb dL_law_494 rfl (lv_at hl 3 rfl) ?_
  refine lv_aload_n hx hb dL_law_495 rfl (lv_at hl 4 rfl) ?_
  refine lv_iload hx hb dL_law_496 (lv_at hl 0 rfl) ?_
  refine n_iconst (v := 1) hx hb dL_law_498 (by decide) ?_
  refine n_iadd hx hb dL_law_499 ?_
  refine l_sld hx hb hX hbl hS (by omega) hL dL_law_500 ?_
  refine lv_aload_n hx hb dL_law_501 rfl (lv_at hl 4 rfl) ?_
  refine lv_iload hx hb dL_law_502 (lv_at hl 0 rfl) ?_
  refine n_iconst (v := 2) hx hb dL_law_504 (by decide) ?_
  refine n_iadd hx hb dL_law_505 ?_
  refine l_sld hx hb hX hbl hS (by omega) hL dL_law_506 ?_
  refine lv_aload_n hx hb dL_law_507 rfl (lv_at hl 4 rfl) ?_
  refine lv_iload hx hb dL_law_508 (lv_at hl 0 rfl) ?_
  refine n_iconst (v := 3) hx hb dL_law_510 (by decide) ?_
  refine n_iadd hx hb dL_law_511 ?_
  refine l_sld hx hb hX hbl hS (by omega) hL dL_law_512 ?_
  refine o_calli (o_runV (As := [.int (xs (8 * n + 1)), .int (xs (8 * n + 2)), .int (xs (8 * n + 3))]) (rest := []) ⟨hx, hb, hml, hown, hu⟩ (c_X9_when l D cA s.heap.size ad hal S sr d hM hR (xs (8 * n + 1)) (xs (8 * n + 2)) (xs (8 * n + 3))) (gV_L_47 (fun _ h => h)) (n0 := 3) rfl (by decide +kernel) rfl ⟨Nat.le_of_ble_eq_true rfl, Nat.le_of_ble_eq_true rfl⟩ (o_recv hK hW (hA.o (k := 0) rfl) (kX_0 _ _ _ _) rfl) hK hW hB hS hl.1 rfl (lv_room (Nat.le_of_ble_eq_true rfl)) ⟨by show 300 + 4 * n + 0 ≤ 601024; omega, by show 500000 + 100 * n + 0 ≤ 7293034; omega⟩ dL_law_513) hS (fun r d1 hp H locs hW hS => ?_)
  obtain ⟨rfl, hP⟩ := hp
  obtain ⟨hMm1, hRm1⟩ := lw_mid hMm hRm hP.2.2
  refine lv_aload_n hx hb dL_law_516 rfl (lv_at hl 2 rfl) ?_
  refine lv_aload_n hx hb dL_law_517 rfl (lv_at hl 4 rfl) ?_
  refine lv_iload hx hb dL_law_518 (lv_at hl 0 rfl) ?_
  refine n_iconst (v := 1) hx hb dL_law_520 (by decide) ?_
  refine n_iadd hx hb dL_law_521 ?_
  refine l_sld hx hb hX hbl hS (by omega) hL dL_law_522 ?_
  refine lv_aload_n hx hb dL_law_523 rfl (lv_at hl 4 rfl) ?_
  refine lv_iload hx hb dL_law_524 (lv_at hl 0 rfl) ?_
  refine n_iconst (v := 2) hx hb dL_law_526 (by decide) ?_
  refine n_iadd hx hb dL_law_527 ?_
  refine l_sld hx hb hX hbl hS (by omega) hL dL_law_528 ?_
  refine lv_aload_n hx hb dL_law_529 rfl (lv_at hl 4 rfl) ?_
  refine lv_iload hx hb dL_law_530 (lv_at hl 0 rfl) ?_
  refine n_iconst (v := 3) hx hb dL_law_532 (by decide) ?_
  refine n_iadd hx hb dL_law_533 ?_
  refine l_sld hx hb hX hbl hS (by omega) hL dL_law_534 ?_
  have hal1 : mAl ad := hal
  refine o_calli (o_runV (As := [.int (xs (8 * n + 1)), .int (xs (8 * n + 2)), .int (xs (8 * n + 3))]) (rest := [.int (aWhen S (xs (8 * n + 1)) (xs (8 * n + 2)) (xs (8 * n + 3)))]) ⟨hx, hb, hml, hown, hu⟩ (c_X10_when l D cA s.heap.size ad hal1 S sr d1 hMm1 hRm1 (xs (8 * n + 1)) (xs (8 * n + 2)) (xs (8 * n + 3))) (gV_L_50 (fun _ h => h)) (n0 := 3) rfl (by decide +kernel) rfl ⟨Nat.le_of_ble_eq_true rfl, Nat.le_of_ble_eq_true rfl⟩ (o_recv hK hW hal1.1 (kC_M _ _ _) rfl) hK hW hB hS hl.1 rfl (lv_room (Nat.le_of_ble_eq_true rfl)) ⟨by show 300 + 4 * n + 0 + 0 ≤ 601024; omega, by show 500000 + 100 * n + 0 + 0 ≤ 7293034; omega⟩ dL_law_535) hS (fun r2 d2 hp2 H locs hW hS => ?_)
  obtain ⟨rfl, hP2⟩ := hp2
  refine lv_icmp_eq (tgt := 1797) hx hb dL_law_538 (by decide) (fun _ => ?_) (fun h => absurd rfl h)
  exact nx _ _ _ _ _ _ _ _ _ (by omega) (by omega) (lw_end hI0 (AFr.refl ad) hP hP2) hW hS hl
set_option maxHeartbeats 400000 in
set_option maxRecDepth 100000 in
theorem lc_7 {p : Program} {l : Launch} {e : Env} {s : State} {m : MethodId} {below : List Frame} {meth : Method} {c : Code} {b L : Nat} {xs : Nat → Int32} {D : va_G} {cA : Nat → ClassId} (hF : lw_F p s m meth c b L xs D cA) {x0 m0 o0 n : Nat} (hn : 8 * n + 8 ≤ L) (nx : lw_NX p l e s m below meth c b D cA x0 m0 o0 n) {S : sS} {sr : Nat → Int32} {ad : kA} {d : kD} {H : Heap} {locs : List Loc} {ls : Array Slot} (hI : lw_I cA x0 m0 o0 S sr ad d) (hW : oW D cA s.heap.size ad d H) (hS : va_S (oA s.heap.size) s.heap H locs) (hl : lv_has ls 7 [(4, .int (nI (8 * n))), (3, .ref o0), (2, .ref m0), (1, .ref x0), (0, .ref b)]) : W p l e room_1 s m #[Value.ref b] below meth c H locs (300 + 4 * n) (500000 + 100 * n) (lw_Z below #[Value.ref b] s) (F0 m 543 ls []) := by
  obtain ⟨⟨hx, hb, hr, hml, hown, hts, hX, hbl, hlocks, hgv⟩, hL, hK, hB, hu⟩ := hF
  have hI0 := hI
  obtain ⟨hM, hR, hMm, hRm, hal, h31, h30, rfl, rfl, rfl⟩ := hI
  have hA := hM.1.1
  refine lv_aload_n hx hb dL_law_543 rfl (lv_at hl 3 rfl) ?_
  refine lv_aload_n hx hb dL_law_544 rfl (lv_at hl 4 rfl) ?_
  refine lv_iload hx hb dL_law_545 (lv_at hl 0 rfl) ?_
  refine n_iconst (v := 1) hx hb dL_law_547 (by decide) ?_
  refine n_iadd hx hb dL_law_548 ?_
  refine l_sld hx hb hX hbl hS (by omega) hL dL_law_549 ?_
  refine lv_aload_n hx hb dL_law_550 rfl (lv_at hl 4 rfl) ?_
  refine lv_iload hx hb dL_law_551 (lv_at hl 0 rfl) ?_
  refine n_iconst (v := 2) hx hb dL_law_553 (by decide) ?_
  refine n_iadd hx hb dL_law_554 ?_
  refine l_sld hx hb hX hbl hS (by omega) hL dL_law_555 ?_
  refine o_calli (o_runV (As := [.int (xs (8 * n + 1)), .int (xs (8 * n + 2))]) (rest := []) ⟨hx, hb, hml, hown, hu⟩ (c_X9_kept l D cA s.heap.size ad hal S sr d hM hR (xs (8 * n + 1)) (xs (8 * n + 2))) (gV_L_51 (fun _ h => h)) (n0 := 2) rfl (by decide +kernel) rfl ⟨Nat.le_of_ble_eq_true rfl, Nat.le_of_ble_eq_true rfl⟩ (o_recv hK hW (hA.o (k := 0) rfl) (kX_0 _ _ _ _) rfl) hK hW hB hS hl.1 rfl (lv_room (Nat.le_of_ble_eq_true rfl)) ⟨by show 300 + 4 * n + 0 ≤ 601024; omega, by show 500000 + 100 * n + 0 ≤ 7293034; omega⟩ dL_law_556) hS (fun r d1 hp H locs hW hS => ?_)
  obtain ⟨rfl, hP⟩ := hp
  obtain ⟨hMm1, hRm1⟩ := lw_mid hMm hRm hP.2.2
  refine lv_aload_n hx hb dL_law_559 rfl (lv_at hl 2 rfl) ?_
  refine lv_aload_n hx hb dL_law_560 rfl (lv_at hl 4 rfl) ?_
  refine lv_iload hx hb dL_law_561 (lv_at hl 0 rfl) ?_
  refine n_iconst (v := 1) hx hb dL_law_563 (by decide) ?_
  refine n_iadd hx hb dL_law_564 ?_
  refine l_sld hx hb hX hbl hS (by omega) hL dL_law_565 ?_
  refine lv_aload_n hx hb dL_law_566 rfl (lv_at hl 4 rfl) ?_
  refine lv_iload hx hb dL_law_567 (lv_at hl 0 rfl) ?_
  refine n_iconst (v := 2) hx hb dL_law_569 (by decide) ?_
  refine n_iadd hx hb dL_law_570 ?_
  refine l_sld hx hb hX hbl hS (by omega) hL dL_law_571 ?_
  have hal1 : mAl ad := hal
  refine o_calli (o_runV (As := [.int (xs (8 * n + 1)), .int (xs (8 * n + 2))]) (rest := [.int (aKept S (xs (8 * n + 1)) (xs (8 * n + 2)))]) ⟨hx, hb, hml, hown, hu⟩ (c_X10_kept l D cA s.heap.size ad hal1 S sr d1 hMm1 hRm1 (xs (8 * n + 1)) (xs (8 * n + 2))) (gV_L_55 (fun _ h => h)) (n0 := 2) rfl (by decide +kernel) rfl ⟨Nat.le_of_ble_eq_true rfl, Nat.le_of_ble_eq_true rfl⟩ (o_recv hK hW hal1.1 (kC_M _ _ _) rfl) hK hW hB hS hl.1 rfl (lv_room (Nat.le_of_ble_eq_true rfl)) ⟨by show 300 + 4 * n + 0 + 0 ≤ 601024; omega, by show 500000 + 100 * n + 0 + 0 ≤ 7293034; omega⟩ dL_law_572) hS (fun r2 d2 hp2 H locs hW hS => ?_)
  obtain ⟨rfl, hP2⟩ := hp2
  refine lv_icmp_eq (tgt := 1797) hx hb dL_law_575 (by decide) (fun _ => ?_) (fun h => absurd rfl h)
  exact nx _ _ _ _ _ _ _ _ _ (by omega) (by omega) (lw_end hI0 (AFr.refl ad) hP hP2) hW hS hl
set_option maxHeartbeats 400000 in
set_option maxRecDepth 100000 in
theorem lc_8 {p : Program} {l : Launch} {e : Env} {s : State} {m : MethodId} {below : List Frame} {meth : Method} {c : Code} {b L : Nat} {xs : Nat → Int32} {D : va_G} {cA : Nat → ClassId} (hF : lw_F p s m meth c b L xs D cA) {x0 m0 o0 n : Nat} (hn : 8 * n + 8 ≤ L) (nx : lw_NX p l e s m below meth c b D cA x0 m0 o0 n) {S : sS} {sr : Nat → Int32} {ad : kA} {d : kD} {H : Heap} {locs : List Loc} {ls : Array Slot} (hI : lw_I cA x0 m0 o0 S sr ad d) (hW : oW D cA s.heap.size ad d H) (hS : va_S (oA s.heap.size) s.heap H locs) (hl : lv_has ls 7 [(4, .int (nI (8 * n))), (3, .ref o0), (2, .ref m0), (1, .ref x0), (0, .ref b)]) : W p l e room_1 s m #[Value.ref b] below meth c H locs (300 + 4 * n) (500000 + 100 * n) (lw_Z below #[Value.ref b] s) (F0 m 580 ls []) := by
  obtain ⟨⟨hx, hb, hr, hml, hown, hts, hX, hbl, hlocks, hgv⟩, hL, hK, hB, hu⟩ := hF
  have hI0 := hI
  obtain ⟨hM, hR, hMm, hRm, hal, h31, h30, rfl, rfl, rfl⟩ := hI
  have hA := hM.1.1
  refine lv_aload_n hx hb dL_law_580 rfl (lv_at hl 3 rfl) ?_
  refine lv_aload_n hx hb dL_law_581 rfl (lv_at hl 4 rfl) ?_
  refine lv_iload hx hb dL_law_582 (lv_at hl 0 rfl) ?_
  refine n_iconst (v := 1) hx hb dL_law_584 (by decide) ?_
  refine n_iadd hx hb dL_law_585 ?_
  refine l_sld hx hb hX hbl hS (by omega) hL dL_law_586 ?_
  refine o_calli (o_runV (As := [.int (xs (8 * n + 1))]) (rest := []) ⟨hx, hb, hml, hown, hu⟩ (c_X9_minds l D cA s.heap.size ad hal S sr d hM hR (xs (8 * n + 1))) (gV_L_56 (fun _ h => h)) (n0 := 1) rfl (by decide +kernel) rfl ⟨Nat.le_of_ble_eq_true rfl, Nat.le_of_ble_eq_true rfl⟩ (o_recv hK hW (hA.o (k := 0) rfl) (kX_0 _ _ _ _) rfl) hK hW hB hS hl.1 rfl (lv_room (Nat.le_of_ble_eq_true rfl)) ⟨by show 300 + 4 * n + 0 ≤ 601024; omega, by show 500000 + 100 * n + 0 ≤ 7293034; omega⟩ dL_law_587) hS (fun r d1 hp H locs hW hS => ?_)
  obtain ⟨rfl, hP⟩ := hp
  obtain ⟨hMm1, hRm1⟩ := lw_mid hMm hRm hP.2.2
  refine lv_aload_n hx hb dL_law_590 rfl (lv_at hl 2 rfl) ?_
  refine lv_aload_n hx hb dL_law_591 rfl (lv_at hl 4 rfl) ?_
  refine lv_iload hx hb dL_law_592 (lv_at hl 0 rfl) ?_
  refine n_iconst (v := 1) hx hb dL_law_594 (by decide) ?_
  refine n_iadd hx hb dL_law_595 ?_
  refine l_sld hx hb hX hbl hS (by omega) hL dL_law_596 ?_
  have hal1 : mAl ad := hal
  refine o_calli (o_runV (As := [.int (xs (8 * n + 1))]) (rest := [.int (aMinds S (xs (8 * n + 1)))]) ⟨hx, hb, hml, hown, hu⟩ (c_X10_minds l D cA s.heap.size ad hal1 S sr d1 hMm1 hRm1 (xs (8 * n + 1))) (gV_L_59 (fun _ h => h)) (n0 := 1) rfl (by decide +kernel) rfl ⟨Nat.le_of_ble_eq_true rfl, Nat.le_of_ble_eq_true rfl⟩ (o_recv hK hW hal1.1 (kC_M _ _ _) rfl) hK hW hB hS hl.1 rfl (lv_room (Nat.le_of_ble_eq_true rfl)) ⟨by show 300 + 4 * n + 0 + 0 ≤ 601024; omega, by show 500000 + 100 * n + 0 + 0 ≤ 7293034; omega⟩ dL_law_597) hS (fun r2 d2 hp2 H locs hW hS => ?_)
  obtain ⟨rfl, hP2⟩ := hp2
  refine lv_icmp_eq (tgt := 1797) hx hb dL_law_600 (by decide) (fun _ => ?_) (fun h => absurd rfl h)
  exact nx _ _ _ _ _ _ _ _ _ (by omega) (by omega) (lw_end hI0 (AFr.refl ad) hP hP2) hW hS hl
