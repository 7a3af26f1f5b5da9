/-! Arrays.copyOf of a list's array -/
/-- the word's place in the list of words -/
theorem uV_arraycopy : Cond.native arraycopyName ∈ UW := uw_at 429 (by decide +kernel)
set_option maxHeartbeats 400000 in
set_option maxRecDepth 100000 in
theorem c_J7_copyOf_6403c (l : Launch) (D : va_G) (cA : Nat → ClassId) (B0 : Nat) (ad : kA) (d0 : kD) (j n kd ci N : Nat) {C : String} {T : u_T} {fs : Nat → List Value} (ha5 : ad.1 5 j ≠ 0) (hdead : ad.1 28 0 = 0) (hcap : ad.2 5 j 100 ≤ n) (hn : n ≤ 100) (hel : ∀ i, i < ad.2 5 j 100 → ad.2 5 j i = ad.1 kd i ∧ ad.1 kd i ≠ 0) (hkd : kd < 28) (hce : ∀ (a : kA), a.2 kd = ad.2 kd → ∀ i, kC cA a d0 kd i = some (.inr (ci, fs i))) (hcl : vwCl[ci]? = some (C, T, N)) (hca : Cond.castable C "java/lang/Object" ∈ nW) : oM l yJ7_copyOf_6403c wJ7_copyOf_6403c 2 1 n D cA B0 ad d0 ([.ref (ad.1 5 j), .int (nI n), .ref (cA 101)] : List Value) (oQqA D cA B0 (fun r u => ∃ q, r = some q ∧ CpP ad j n q u.1 ∧ u.2 = d0)) := by
  refine o_ofW (cc := cJ7_copyOf_6403c) (maxL := 4) (ret := some (.array (.object "java/lang/Object"))) (by decide) rfl (Nat.le_of_ble_eq_true rfl) ?_
  intro p e s m below meth c hx hb hr hml hts hown hlocks hnm hK hW hB hS ls hl
  have hu : ∀ w ∈ UW, w.before _ s = true := fun w h => hts w (uw_c w h)
  have hl : lv_has ls 4 [(0, .ref (ad.1 5 j)), (1, .int (nI n)), (2, .ref (cA 101))] := hl
  refine lv_aload_n hx hb dJ7_copyOf_6403c_0 rfl (lv_at hl 2 rfl) ?_
  refine va_ldcM hx hb hown (hu _ uL_J7_110) hB.2.2.2.2.2.1 dJ7_copyOf_6403c_1 ?_
  refine lv_acmp_ne (rx := some (cA 101)) (ry := some (cA 101)) (tgt := 13) hx hb dJ7_copyOf_6403c_3 (by decide) (fun h => absurd rfl h) (fun _ => ?_)
  refine lv_iload_n hx hb dJ7_copyOf_6403c_6 rfl (lv_at hl 1 rfl) ?_
  refine x_newq hx hb hu hown uL_J7_2 hK hW hS hB hdead hn (by constructor <;> simp [oR]) dJ7_copyOf_6403c_7 (fun q H1 hq hW1 hS1 => ?_)
  refine lv_goto (tgt := 24) hx hb dJ7_copyOf_6403c_10 (by decide) ?_
  generalize had : ad1 (adR ad 28 0 (fun f => if f = 100 then n else 0)) 28 0 q = ad' at hW1
  have e28 : ad'.1 28 0 = q := by rw [← had]; exact ad1_s _ _ _ _
  have e1 : ∀ k i, ¬ (k = 28 ∧ i = 0) → ad'.1 k i = ad.1 k i := fun k i h => by rw [← had]; exact ad1_n _ _ h
  have e2 : ∀ k i, ¬ (k = 28 ∧ i = 0) → ad'.2 k i = ad.2 k i := fun k i h => by rw [← had]; exact adR_n ad _ h
  have e3 : ad'.2 28 0 = fun f => if f = 100 then n else 0 := by rw [← had]; exact adR_s ad 28 0 (fun f => if f = 100 then n else 0)
  have e5 : ad'.1 5 j = ad.1 5 j := e1 5 j (by omega)
  have c5 : ad'.2 5 j = ad.2 5 j := e2 5 j (by omega)
  refine lv_astore_n (lv' := [(3, .ref q), (0, .ref (ad.1 5 j)), (1, .int (nI n)), (2, .ref (cA 101))]) hx hb dJ7_copyOf_6403c_24 rfl hl (by decide) rfl (fun ls hl => ?_)
  refine lv_aload_n hx hb dJ7_copyOf_6403c_25 rfl (lv_at hl 1 rfl) ?_
  refine n_iconst (v := 0) hx hb dJ7_copyOf_6403c_26 (by decide) ?_
  refine lv_aload_n hx hb dJ7_copyOf_6403c_27 rfl (lv_at hl 0 rfl) ?_
  refine n_iconst (v := 0) hx hb dJ7_copyOf_6403c_28 (by decide) ?_
  refine lv_aload_n hx hb dJ7_copyOf_6403c_29 rfl (lv_at hl 1 rfl) ?_
  refine W.eq (g2 := F0 m 30 ls [.ref (ad'.1 5 j), .int (nI 0), .ref (ad'.1 28 0), .int (nI 0), .ref (ad'.1 5 j)]) (by rw [e5, e28]) ?_
  refine x_len hx hb hK hW1 (by rw [e5]; exact ha5) 3 (kX_5 _ _ _ _) rfl dJ7_copyOf_6403c_30 ?_
  refine lv_iload_n hx hb dJ7_copyOf_6403c_31 rfl (lv_at hl 2 rfl) ?_
  refine va_mmin hx hb (hml.trans hl.1.symm) hown (hu _ uM_J7_304) (hu _ uT_J9_min_7cf53) (hu _ uI_J9) (hu _ uC_J9_min_7cf53) (by first | exact Nat.le_of_ble_eq_true rfl | simp [oR]) (by first | exact Nat.le_of_ble_eq_true rfl | simp [oR]) (by first | exact Nat.le_of_ble_eq_true rfl | simp [oR]) (by first | exact Nat.le_of_ble_eq_true rfl | simp [oR]) dJ7_copyOf_6403c_32 ?_
  refine n_topi (y := nI (ad.2 5 j 100)) (by show (if nI n < nI (ad'.2 5 j 100) then nI n else nI (ad'.2 5 j 100)) = _; rw [c5, n_min (by omega) (by omega)]; congr 1; omega) ?_
  refine x_copyq (kd := kd) hx hb (hml.trans hl.1.symm) hu hown uM_J7_150 uV_arraycopy uT_J10_arraycopy_Ljava_lang_Object_ILjava_lang_Object_II_V uI_J10 hK hW1 hS1 (by rw [e28]; exact hq) (by rw [e5]; exact ha5) (by rw [c5]; exact Nat.le_refl _) (by rw [e3]; exact hcap) (by omega) (fun i hi => by rw [c5, e1 kd i (by omega)]; exact hel i hi) (hce ad' (by funext i; exact e2 kd i (by omega))) hcl hca ⟨Nat.le_of_ble_eq_true rfl, by show 0 + (nativeFrameWords "java/lang/System" "arraycopy" 5 + 11) ≤ 200; decide⟩ dJ7_copyOf_6403c_35 (fun H2 locs2 hW2 hS2 => ?_)
  refine lv_aload_n hx hb dJ7_copyOf_6403c_38 rfl (lv_at hl 0 rfl) ?_
  refine W.widen (k := 1) (n := n) (by decide) (by omega) ?_
  refine o_qretA (r := some q) rfl hx hb hr hlocks (Or.inr ⟨_, rfl⟩) hW2 hS2 ⟨q, rfl, ⟨hq, ?_, fun k i h => ?_, ?_, fun f hf => ?_⟩, rfl⟩ dJ7_copyOf_6403c_39
  · show ad'.1 = _
    rw [← had]; rfl
  · rw [adR_n _ _ h]; exact e2 k i h
  · rw [adR_s, if_neg (by omega), e3]; rfl
  · rw [adR_s, if_pos hf, c5]
theorem uV_getClass : Cond.native ⟨"java/lang/Object", "getClass", "()Ljava/lang/Class;"⟩ ∈ UW := uw_at 419 (by decide +kernel)
theorem uS_getClass : Cond.selects "[Ljava/lang/Object;" ⟨"java/lang/Object", "getClass", "()Ljava/lang/Class;"⟩ ⟨"java/lang/Object", "getClass", "()Ljava/lang/Class;"⟩ ∈ UW := uw_at 1460 (by decide +kernel)
set_option maxHeartbeats 400000 in
set_option maxRecDepth 100000 in
theorem c_J7_copyOf_1904c (l : Launch) (D : va_G) (cA : Nat → ClassId) (B0 : Nat) (ad : kA) (d0 : kD) (j n kd ci N : Nat) {C : String} {T : u_T} {fs : Nat → List Value} (ha5 : ad.1 5 j ≠ 0) (hdead : ad.1 28 0 = 0) (hcap : ad.2 5 j 100 ≤ n) (hn : n ≤ 100) (hel : ∀ i, i < ad.2 5 j 100 → ad.2 5 j i = ad.1 kd i ∧ ad.1 kd i ≠ 0) (hkd : kd < 28) (hce : ∀ (a : kA), a.2 kd = ad.2 kd → ∀ i, kC cA a d0 kd i = some (.inr (ci, fs i))) (hcl : vwCl[ci]? = some (C, T, N)) (hca : Cond.castable C "java/lang/Object" ∈ nW) : oM l yJ7_copyOf_1904c wJ7_copyOf_1904c 3 1 n D cA B0 ad d0 ([.ref (ad.1 5 j), .int (nI n)] : List Value) (oQqA D cA B0 (fun r u => ∃ q, r = some q ∧ CpP ad j n q u.1 ∧ u.2 = d0)) := by
  refine o_ofW (cc := cJ7_copyOf_1904c) (maxL := 2) (ret := some (.array (.object "java/lang/Object"))) (by decide) rfl (Nat.le_of_ble_eq_true rfl) ?_
  intro p e s m below meth c hx hb hr hml hts hown hlocks hnm hK hW hB hS ls hl
  have hu : ∀ w ∈ UW, w.before _ s = true := fun w h => hts w (uw_c w h)
  have hl : lv_has ls 2 [(0, .ref (ad.1 5 j)), (1, .int (nI n))] := hl
  refine lv_aload_n hx hb dJ7_copyOf_1904c_0 rfl (lv_at hl 0 rfl) ?_
  refine lv_iload_n hx hb dJ7_copyOf_1904c_1 rfl (lv_at hl 1 rfl) ?_
  refine lv_aload_n hx hb dJ7_copyOf_1904c_2 rfl (lv_at hl 0 rfl) ?_
  refine va_getC (C := "[Ljava/lang/Object;") hx hb (hml.trans hl.1.symm) hown (hu _ uM_J7_86) (va_Dc.use hB.2.2.2.2.2.2) (hu _ uS_getClass) (hu _ uN_java_lang_Object_getClass__Ljava_lang_Class_) (hu _ uV_getClass) hB.2.2.2.2.2.1 ⟨_, (hW.1 5 j _ ha5 (kX_5 _ _ _ _)).1, rfl, va_nmO (hK.1.2 3 _ rfl).2 (by first | rfl | decide)⟩ (Nat.le_of_ble_eq_true rfl) (Nat.le_of_ble_eq_true rfl) dJ7_copyOf_1904c_3 ?_
  refine o_callqA (o_runS (As := [.ref (ad.1 5 j), .int (nI n), .ref (cA 101)]) (rest := []) ⟨hx, hb, hml, hown, hu⟩ (c_J7_copyOf_6403c l D cA B0 ad d0 j n kd ci N ha5 hdead hcap hn hel hkd hce hcl hca) (gS_J7_300 (fun _ h => h)) (n0 := 3) rfl (by decide +kernel) rfl ⟨Nat.le_of_ble_eq_true rfl, Nat.le_of_ble_eq_true rfl⟩ hK hW hB hS hl.1 rfl (lv_room (Nat.le_of_ble_eq_true rfl)) ⟨by simp [oR], by simp [oR]⟩ dJ7_copyOf_1904c_6) hS (fun r u hp H1 locs1 hW1 hS1 => ?_)
  refine W.widen (k := 1) (n := n) (by decide) (by omega) ?_
  exact o_qretA (r := r) rfl hx hb hr hlocks (Or.inr ⟨_, rfl⟩) hW1 hS1 hp dJ7_copyOf_1904c_9
