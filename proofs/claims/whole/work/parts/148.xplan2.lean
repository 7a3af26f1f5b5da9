set_option maxHeartbeats 400000 in
set_option maxRecDepth 100000 in
theorem c_X9_isRowOfDays (l : Launch) (D : va_G) (cA : Nat → ClassId) (B0 : Nat) (ad : kA) (hal : mAl ad) (d0 : kD) (ai : Int32) (bi : Int32) (ni : Int32)  : oM l yX9_isRowOfDays wX9_isRowOfDays 3 0 0 D cA B0 ad d0 ([.int ai, .int bi, .int ni] : List Value) (oQi D cA B0 ad (fun r d1 => r = bI (isRw ai bi ni) ∧ d0 = d1)) := by
  refine o_ofW (cc := cX9_isRowOfDays) (maxL := 3) (ret := some .boolean) (by decide) rfl (Nat.le_of_ble_eq_true rfl) ?_
  intro p e s m below meth c hx hb hr hml hts hown hlocks hnm hK hW hB hS ls hl
  have hu : ∀ w ∈ UW, w.before _ s = true := fun w h => hts w (uw_c w h)
  have hl : lv_has ls 3 [(0, .int ai), (1, .int bi), (2, .int ni)] := hl
  refine lv_iload_n hx hb dX9_isRowOfDays_0 rfl (lv_at hl 0 rfl) ?_
  refine o_calli (o_runS (As := [.int ai]) (rest := []) ⟨hx, hb, hml, hown, hu⟩ (c_X9_isDay l D cA B0 ad hal d0 ai) (gS_X9_81 (fun _ h => h)) (n0 := 1) rfl (by decide +kernel) rfl ⟨Nat.le_of_ble_eq_true rfl, Nat.le_of_ble_eq_true rfl⟩ hK hW hB hS hl.1 rfl (lv_room (Nat.le_of_ble_eq_true rfl)) ⟨Nat.zero_le _, Nat.zero_le _⟩ dX9_isRowOfDays_1) hS (fun r_2 d_1 q_3 H locs hW hS => ?_)
  obtain ⟨rfl, rfl⟩ := q_3
  refine lv_if_eq (tgt := 44) hx hb dX9_isRowOfDays_4 (by decide) (fun c_4 => ?_) (fun c_4 => ?_)
  · refine n_iconst (v := 0) hx hb dX9_isRowOfDays_44 (by decide) ?_
    exact o_zret hx hb hr hlocks (by first | rfl | exact z_bI _ | (split <;> first | rfl | (split <;> rfl))) hW hS (⟨by first | (simp only [isRw, bI_z c_4, eq_self, ↓reduceIte, Bool.false_eq_true, Bool.false_and, Bool.and_false, Bool.true_and]; done) | (simp only [isRw, bI_z c_4, eq_self, ↓reduceIte, Bool.false_eq_true, Bool.false_and, Bool.and_false, Bool.true_and]; rfl), rfl⟩) dX9_isRowOfDays_45
  · obtain ⟨ain, hain, rfl⟩ := ix_t (bI_n c_4) (by omega)
    refine lv_iload_n hx hb dX9_isRowOfDays_7 rfl (lv_at hl 1 rfl) ?_
    refine n_iconst (v := 1) hx hb dX9_isRowOfDays_8 (by decide) ?_
    refine n_bipush (v := 50) hx hb dX9_isRowOfDays_9 (by decide) ?_
    refine o_calli (o_runS (As := [.int bi, .int (nI 1), .int (nI 50)]) (rest := []) ⟨hx, hb, hml, hown, hu⟩ (c_X9_within l D cA B0 ad hal d0 bi (nI 1) (nI 50)) (gS_X9_85 (fun _ h => h)) (n0 := 3) rfl (by decide +kernel) rfl ⟨Nat.le_of_ble_eq_true rfl, Nat.le_of_ble_eq_true rfl⟩ hK hW hB hS hl.1 rfl (lv_room (Nat.le_of_ble_eq_true rfl)) ⟨Nat.zero_le _, Nat.zero_le _⟩ dX9_isRowOfDays_11) hS (fun r_6 d_5 q_7 H locs hW hS => ?_)
    obtain ⟨rfl, rfl⟩ := q_7
    refine n_topi (y := bI (rx bi 1 50)) (in_rx (by omega) (by omega)) ?_
    refine lv_if_eq (tgt := 44) hx hb dX9_isRowOfDays_14 (by decide) (fun c_8 => ?_) (fun c_8 => ?_)
    · refine n_iconst (v := 0) hx hb dX9_isRowOfDays_44 (by decide) ?_
      exact o_zret hx hb hr hlocks (by first | rfl | exact z_bI _ | (split <;> first | rfl | (split <;> rfl))) hW hS (⟨by first | (simp only [isRw, ix_nI hain (by omega), nx_nI (j := ain) (by omega), bI_z c_8, eq_self, ↓reduceIte, Bool.false_eq_true, Bool.false_and, Bool.and_false, Bool.true_and]; done) | (simp only [isRw, ix_nI hain (by omega), nx_nI (j := ain) (by omega), bI_z c_8, eq_self, ↓reduceIte, Bool.false_eq_true, Bool.false_and, Bool.and_false, Bool.true_and]; rfl), rfl⟩) dX9_isRowOfDays_45
    · obtain ⟨bin, hbina, hbin, rfl⟩ := rx_t (bI_n c_8) (by omega)
      refine lv_iload_n hx hb dX9_isRowOfDays_17 rfl (lv_at hl 2 rfl) ?_
      refine n_iconst (v := 1) hx hb dX9_isRowOfDays_18 (by decide) ?_
      refine n_bipush (v := 6) hx hb dX9_isRowOfDays_19 (by decide) ?_
      refine o_calli (o_runS (As := [.int ni, .int (nI 1), .int (nI 6)]) (rest := []) ⟨hx, hb, hml, hown, hu⟩ (c_X9_within l D cA B0 ad hal d0 ni (nI 1) (nI 6)) (gS_X9_85 (fun _ h => h)) (n0 := 3) rfl (by decide +kernel) rfl ⟨Nat.le_of_ble_eq_true rfl, Nat.le_of_ble_eq_true rfl⟩ hK hW hB hS hl.1 rfl (lv_room (Nat.le_of_ble_eq_true rfl)) ⟨Nat.zero_le _, Nat.zero_le _⟩ dX9_isRowOfDays_21) hS (fun r_10 d_9 q_11 H locs hW hS => ?_)
      obtain ⟨rfl, rfl⟩ := q_11
      refine n_topi (y := bI (rx ni 1 6)) (in_rx (by omega) (by omega)) ?_
      refine lv_if_eq (tgt := 44) hx hb dX9_isRowOfDays_24 (by decide) (fun c_12 => ?_) (fun c_12 => ?_)
      · refine n_iconst (v := 0) hx hb dX9_isRowOfDays_44 (by decide) ?_
        exact o_zret hx hb hr hlocks (by first | rfl | exact z_bI _ | (split <;> first | rfl | (split <;> rfl))) hW hS (⟨by first | (simp only [isRw, ix_nI hain (by omega), nx_nI (j := ain) (by omega), rx_nI hbina hbin (by omega), nx_nI (j := bin) (by omega), bI_z c_12, eq_self, ↓reduceIte, Bool.false_eq_true, Bool.false_and, Bool.and_false, Bool.true_and]; done) | (simp only [isRw, ix_nI hain (by omega), nx_nI (j := ain) (by omega), rx_nI hbina hbin (by omega), nx_nI (j := bin) (by omega), bI_z c_12, eq_self, ↓reduceIte, Bool.false_eq_true, Bool.false_and, Bool.and_false, Bool.true_and]; rfl), rfl⟩) dX9_isRowOfDays_45
      · obtain ⟨nin, hnina, hnin, rfl⟩ := rx_t (bI_n c_12) (by omega)
        refine lv_iload_n hx hb dX9_isRowOfDays_27 rfl (lv_at hl 0 rfl) ?_
        refine lv_iload_n hx hb dX9_isRowOfDays_28 rfl (lv_at hl 1 rfl) ?_
        refine lv_iload_n hx hb dX9_isRowOfDays_29 rfl (lv_at hl 2 rfl) ?_
        refine n_iconst (v := 1) hx hb dX9_isRowOfDays_30 (by decide) ?_
        refine n_isub hx hb (by omega) dX9_isRowOfDays_31 ?_
        refine n_imul hx hb dX9_isRowOfDays_32 ?_
        have hpr : bin * (nin - 1) ≤ 50 * 5 := Nat.mul_le_mul (by omega) (by omega)
        refine n_iadd hx hb dX9_isRowOfDays_33 ?_
        refine o_calli (o_runS (As := [.int (nI (ain + (bin * (nin - 1))))]) (rest := []) ⟨hx, hb, hml, hown, hu⟩ (c_X9_isDay l D cA B0 ad hal d0 (nI (ain + (bin * (nin - 1))))) (gS_X9_81 (fun _ h => h)) (n0 := 1) rfl (by decide +kernel) rfl ⟨Nat.le_of_ble_eq_true rfl, Nat.le_of_ble_eq_true rfl⟩ hK hW hB hS hl.1 rfl (lv_room (Nat.le_of_ble_eq_true rfl)) ⟨Nat.zero_le _, Nat.zero_le _⟩ dX9_isRowOfDays_34) hS (fun r_14 d_13 q_15 H locs hW hS => ?_)
        obtain ⟨rfl, rfl⟩ := q_15
        refine lv_if_eq (tgt := 44) hx hb dX9_isRowOfDays_37 (by decide) (fun c_d => ?_) (fun c_d => ?_)
        · have hdd : decide (dyF ain bin (nin - 1) < 400) = false := decide_eq_false (fun q => by have z := bI_z c_d; rw [ix_nI (show ain + bin * (nin - 1) < 400 from q) (by omega)] at z; cases z)
          refine n_iconst (v := 0) hx hb dX9_isRowOfDays_44 (by decide) ?_
          exact o_zret hx hb hr hlocks (by first | rfl | exact z_bI _ | (split <;> first | rfl | (split <;> rfl))) hW hS (⟨by first | (simp only [isRw, ix_nI hain (by omega), nx_nI (j := ain) (by omega), rx_nI hbina hbin (by omega), nx_nI (j := bin) (by omega), rx_nI hnina hnin (by omega), nx_nI (j := nin) (by omega), hdd, eq_self, ↓reduceIte, Bool.false_eq_true, Bool.false_and, Bool.and_false, Bool.true_and]; done) | (simp only [isRw, ix_nI hain (by omega), nx_nI (j := ain) (by omega), rx_nI hbina hbin (by omega), nx_nI (j := bin) (by omega), rx_nI hnina hnin (by omega), nx_nI (j := nin) (by omega), hdd, eq_self, ↓reduceIte, Bool.false_eq_true, Bool.false_and, Bool.and_false, Bool.true_and]; rfl), rfl⟩) dX9_isRowOfDays_45
        · have hdd : decide (dyF ain bin (nin - 1) < 400) = true := decide_eq_true (show ain + bin * (nin - 1) < 400 from ix_lt (bI_n c_d) (by omega))
          refine n_iconst (v := 1) hx hb dX9_isRowOfDays_40 (by decide) ?_
          refine lv_goto (tgt := 45) hx hb dX9_isRowOfDays_41 (by decide) ?_
          exact o_zret hx hb hr hlocks (by first | rfl | exact z_bI _ | (split <;> first | rfl | (split <;> rfl))) hW hS (⟨by first | (simp only [isRw, ix_nI hain (by omega), nx_nI (j := ain) (by omega), rx_nI hbina hbin (by omega), nx_nI (j := bin) (by omega), rx_nI hnina hnin (by omega), nx_nI (j := nin) (by omega), hdd, eq_self, ↓reduceIte, Bool.false_eq_true, Bool.false_and, Bool.and_false, Bool.true_and]; done) | (simp only [isRw, ix_nI hain (by omega), nx_nI (j := ain) (by omega), rx_nI hbina hbin (by omega), nx_nI (j := bin) (by omega), rx_nI hnina hnin (by omega), nx_nI (j := nin) (by omega), hdd, eq_self, ↓reduceIte, Bool.false_eq_true, Bool.false_and, Bool.and_false, Bool.true_and]; rfl), rfl⟩) dX9_isRowOfDays_45

set_option maxHeartbeats 400000 in
set_option maxRecDepth 100000 in
theorem c_X9_prepareAhead (l : Launch) (D : va_G) (cA : Nat → ClassId) (B0 : Nat) (ad : kA) (hal : mAl ad) (S : sS) (d0 : kD) (hM : InvX cA ad S d0) (pp aa bb nn er : Nat) (x : Int64) (hp : pp < S 7 0) (hn6 : nn ≤ 6) (her : er ≤ 50) (hdy : ∀ i, i < nn → dyF aa bb i < 400) (hx0 : d0.2.1 6 pp 12 = x) : oM l yX9_prepareAhead wX9_prepareAhead 6 0 0 D cA B0 ad d0 ([.ref (ad.1 0 0), .ref (ad.1 6 pp), .int (nI aa), .int (nI bb), .int (nI nn), .int (nI er)] : List Value) (oQv D cA B0 ad (fun d1 => XA cA ad S d0 d1 ∧ AL S pp er x (dyF aa bb) nn d1)) := by
  refine o_ofW (cc := cX9_prepareAhead) (maxL := 7) (ret := none) (by decide) rfl (Nat.le_of_ble_eq_true rfl) ?_
  intro p e s m below meth c hx hb hr hml hts hown hlocks hnm hK hW hB hS ls hl
  have hu : ∀ w ∈ UW, w.before _ s = true := fun w h => hts w (uw_c w h)
  have hl : lv_has ls 7 [(0, .ref (ad.1 0 0)), (1, .ref (ad.1 6 pp)), (2, .int (nI aa)), (3, .int (nI bb)), (4, .int (nI nn)), (5, .int (nI er))] := hl
  have hX := hM.1
  have hA := hX.1
  have hG := hX.2.2
  have hb7 : S 7 0 ≤ 8 := hG.f 7 (mx := 8) (by decide)
  have hb11 : S 11 0 ≤ 20 := hG.f 11 (mx := 20) (by decide)
  have hb18 : S 18 0 ≤ 40 := hG.f 18 (mx := 40) (by decide)
  have hI : XA cA ad S d0 d0 := XA.start hM
  refine lv_aload_n hx hb dX9_prepareAhead_0 rfl (lv_at hl 0 rfl) ?_
  refine x_gr hx hb hu in_X9 hown hK hW (hA.o (k := 0) rfl) (kX_0 _ _ _ _) rfl 8 (by decide) uF_X9_51 (hA.f 8 (k := 16) (i := 0) (by decide) (hA.o (k := 16) rfl)) dX9_prepareAhead_1 ?_
  refine o_callv (o_runV (As := []) (rest := []) ⟨hx, hb, hml, hown, hu⟩ (c_X0_clear l D cA B0 ad hal S d0 hI.1.1) (gV_X9_269 (fun _ h => h)) (n0 := 0) rfl (by decide +kernel) rfl ⟨Nat.le_of_ble_eq_true rfl, Nat.le_of_ble_eq_true rfl⟩ (o_recv hK hW (hA.o (k := 16) rfl) (kX_16 _ _ _ _) rfl) hK hW hB hS hl.1 rfl (lv_room (Nat.le_of_ble_eq_true rfl)) ⟨Nat.zero_le _, Nat.zero_le _⟩ dX9_prepareAhead_4) hS (fun d_1 q_3 H locs hW hS => ?_)
  subst q_3
  have hI := hI.uI 16 0 5 (nI 0) (Or.inl rfl)
  have hkx : (uI d0 16 0 5 (nI 0)).2.1 6 pp 12 = x := hx0
  have hAL : AL S pp er x (dyF aa bb) 0 (uI d0 16 0 5 (nI 0)) := ⟨uI_s _ _ _ _ _, fun _ h => absurd h (Nat.not_lt_zero _)⟩
  refine n_iconst (v := 0) hx hb dX9_prepareAhead_7 (by decide) ?_
  refine lv_istore (lv' := [(6, .int (nI 0)), (0, .ref (ad.1 0 0)), (1, .ref (ad.1 6 pp)), (2, .int (nI aa)), (3, .int (nI bb)), (4, .int (nI nn)), (5, .int (nI er))]) hx hb dX9_prepareAhead_8 hl (by decide) rfl (fun ls hl => ?_)
  have lp10 : ∀ (n : Nat) (k : Nat)  (d : kD) (H : Heap) (locs : List Loc) (ls : Array Slot), nn - k < n → (k ≤ nn) → (XA cA ad S d0 d) → (d.2.1 6 pp 12 = x) → (AL S pp er x (dyF aa bb) k d) → oW D cA B0 ad d H → va_S (oA B0) s.heap H locs → lv_has ls 7 [(0, .ref (ad.1 0 0)), (1, .ref (ad.1 6 pp)), (2, .int (nI aa)), (3, .int (nI bb)), (4, .int (nI nn)), (5, .int (nI er)), (6, .int (nI k))] → W p l e (oR 6 0 0) s m ([.ref (ad.1 0 0), .ref (ad.1 6 pp), .int (nI aa), .int (nI bb), .int (nI nn), .int (nI er)] : List Value).toArray below meth c H locs 0 0 (MQ below (oQv D cA B0 ad (fun d1 => XA cA ad S d0 d1 ∧ AL S pp er x (dyF aa bb) nn d1)) ([.ref (ad.1 0 0), .ref (ad.1 6 pp), .int (nI aa), .int (nI bb), .int (nI nn), .int (nI er)] : List Value).toArray s 0 0 (oA B0)) (F0 m 10 ls []) := by
    intro n
    induction n with
    | zero => intro k  d H locs ls hmu; exact absurd hmu (Nat.not_lt_zero _)
    | succ n ih_lp10 =>
      intro k  d H locs ls hmu hk hI hkx hAL hW hS hl
      refine lv_iload hx hb dX9_prepareAhead_10 (lv_at hl 6 rfl) ?_
      refine lv_iload hx hb dX9_prepareAhead_12 (lv_at hl 4 rfl) ?_
      refine n_icmp_ge (tgt := 39) hx hb (by omega) (by omega) dX9_prepareAhead_14 (by decide) (fun c_4 => ?_) (fun c_4 => ?_)
      · exact o_vret hx hb hr hlocks hW hS (⟨hI, (show k = nn by omega) ▸ hAL⟩) dX9_prepareAhead_39
      · refine lv_aload_n hx hb dX9_prepareAhead_17 rfl (lv_at hl 0 rfl) ?_
        refine x_gr hx hb hu in_X9 hown hK hW (hA.o (k := 0) rfl) (kX_0 _ _ _ _) rfl 8 (by decide) uF_X9_51 (hA.f 8 (k := 16) (i := 0) (by decide) (hA.o (k := 16) rfl)) dX9_prepareAhead_18 ?_
        refine lv_aload_n hx hb dX9_prepareAhead_21 rfl (lv_at hl 1 rfl) ?_
        refine lv_iload_n hx hb dX9_prepareAhead_22 rfl (lv_at hl 2 rfl) ?_
        refine lv_iload_n hx hb dX9_prepareAhead_23 rfl (lv_at hl 3 rfl) ?_
        refine lv_iload hx hb dX9_prepareAhead_24 (lv_at hl 6 rfl) ?_
        refine n_imul hx hb dX9_prepareAhead_26 ?_
        refine n_iadd hx hb dX9_prepareAhead_27 ?_
        refine lv_iload hx hb dX9_prepareAhead_28 (lv_at hl 5 rfl) ?_
        refine o_callv (o_runV (As := [.ref (ad.1 6 pp), .int (nI (aa + (bb * k))), .int (nI er)]) (rest := []) ⟨hx, hb, hml, hown, hu⟩ (c_X0_addDay l D cA B0 ad hal S d hI.1 pp (aa + (bb * k)) x er k hp (hdy k (by omega)) hkx her hAL.1 (by omega)) (gV_X9_270 (fun _ h => h)) (n0 := 3) rfl (by decide +kernel) rfl ⟨Nat.le_of_ble_eq_true rfl, Nat.le_of_ble_eq_true rfl⟩ (o_recv hK hW (hA.o (k := 16) rfl) (kX_16 _ _ _ _) rfl) hK hW hB hS hl.1 rfl (lv_room (Nat.le_of_ble_eq_true rfl)) ⟨Nat.zero_le _, Nat.zero_le _⟩ dX9_prepareAhead_30) hS (fun d_5 q_7 H locs hW hS => ?_)
        obtain ⟨hq, hSL, hsl, hOL⟩ := q_7
        have hI := hI.trans hq
        have hAL := hAL.add hsl hSL hOL
        have hkx : d_5.2.1 6 pp 12 = x := by rw [hq.2.2.1 6 pp 12 rfl]; exact hkx
        refine n_iinc (q := 1) (lv' := [(6, .int (nI (k + 1))), (0, .ref (ad.1 0 0)), (1, .ref (ad.1 6 pp)), (2, .int (nI aa)), (3, .int (nI bb)), (4, .int (nI nn)), (5, .int (nI er))]) hx hb dX9_prepareAhead_33 hl (k := 6) rfl (by decide) (by decide) rfl (fun ls hl => ?_)
        refine lv_goto (tgt := 10) hx hb dX9_prepareAhead_36 (by decide) ?_
        exact ih_lp10 (k + 1) d_5 _ _ ls (by omega) (by omega) hI hkx hAL hW hS (lv_sub hl [1, 2, 3, 4, 5, 6, 0] rfl)
  exact lp10 (nn + 1) 0 (uI d0 16 0 5 (nI 0)) _ _ ls (by omega) (by omega) hI hkx hAL hW hS (lv_sub hl [1, 2, 3, 4, 5, 6, 0] rfl)

set_option maxHeartbeats 400000 in
set_option maxRecDepth 100000 in
theorem c_X0_planFrom (l : Launch) (D : va_G) (cA : Nat → ClassId) (B0 : Nat) (ad : kA) (hal : mAl ad) (S : sS) (d0 : kD) (hM : InvX cA ad S d0) (pp er nn : Nat) (dy : Nat → Nat) (x : Int64) (hp : pp < S 7 0) (hn6 : nn ≤ 6) (hAL : AL S pp er x dy nn d0) (hz : ¬ x = 0) (k0 : Nat) (hk1 : 1 ≤ k0) (hk3 : k0 ≤ 3) : oM l yX0_planFrom wX0_planFrom 8 0 0 D cA B0 ad d0 ([.ref (ad.1 16 0), .long x, .int (nI k0)] : List Value) (oQi D cA B0 ad (fun r d1 => r = nI (plB S pp er dy nn (k0 - 1) x nn).1 ∧ XA cA ad S d0 d1 ∧ FS dy nn (d1.1 16 0 6) (plB S pp er dy nn (k0 - 1) x nn).2)) := by
  refine o_ofW (cc := cX0_planFrom) (maxL := 7) (ret := some .int) (by decide) rfl (Nat.le_of_ble_eq_true rfl) ?_
  intro p e s m below meth c hx hb hr hml hts hown hlocks hnm hK hW hB hS ls hl
  have hu : ∀ w ∈ UW, w.before _ s = true := fun w h => hts w (uw_c w h)
  have hl : lv_has ls 7 [(0, .ref (ad.1 16 0)), (1, .long x), (3, .int (nI k0))] := hl
  have hX := hM.1
  have hA := hX.1
  have hG := hX.2.2
  have hb7 : S 7 0 ≤ 8 := hG.f 7 (mx := 8) (by decide)
  have hb11 : S 11 0 ≤ 20 := hG.f 11 (mx := 20) (by decide)
  have hb18 : S 18 0 ≤ 40 := hG.f 18 (mx := 40) (by decide)
  have hI : XA cA ad S d0 d0 := XA.start hM
  refine lv_lload_n hx hb dX0_planFrom_0 rfl (lv_at hl 1 rfl) ?_
  refine o_calli (o_runS (As := [.long x]) (rest := []) ⟨hx, hb, hml, hown, hu⟩ (c_J13_bitCount_95d88 l D cA B0 ad hal d0 x) (gS_X0_81 (fun _ h => h)) (n0 := 1) rfl (by decide +kernel) rfl ⟨Nat.le_of_ble_eq_true rfl, Nat.le_of_ble_eq_true rfl⟩ hK hW hB hS hl.1 rfl (lv_room (Nat.le_of_ble_eq_true rfl)) ⟨Nat.zero_le _, Nat.zero_le _⟩ dX0_planFrom_1) hS (fun r_2 d_1 q_3 H locs hW hS => ?_)
  obtain ⟨rfl, rfl⟩ := q_3
  have b_4 := popN_le x
  refine lv_istore (lv' := [(4, .int (nI (popN x))), (0, .ref (ad.1 16 0)), (1, .long x), (3, .int (nI k0))]) hx hb dX0_planFrom_4 hl (by decide) rfl (fun ls hl => ?_)
  refine lv_aload_n hx hb dX0_planFrom_6 rfl (lv_at hl 1 rfl) ?_
  refine lv_iconst (v := -1) hx hb dX0_planFrom_7 (by decide) ?_
  refine x_pi hx hb hu in_X0 tyX0 tyX0_ok nmX0 hown hK hW hS (hA.o (k := 16) rfl) (kI_16 _ _ _ _) rfl 6 (ty := .int) (by decide +kernel) uF_X0_32 ⟨rfl, rfl⟩ dX0_planFrom_8 (fun H locs hW hS => ?_)
  have hI := hI.uI 16 0 6 (-1) (Or.inl rfl)
  have hAL := hAL.uI6 (-1)
  refine n_iconst (v := 0) hx hb dX0_planFrom_11 (by decide) ?_
  refine lv_istore (lv' := [(5, .int (nI 0)), (4, .int (nI (popN x))), (0, .ref (ad.1 16 0)), (1, .long x), (3, .int (nI k0))]) hx hb dX0_planFrom_12 hl (by decide) rfl (fun ls hl => ?_)
  have lp14 : ∀ (n : Nat) (le : Nat) (sl : Nat)  (d : kD) (H : Heap) (locs : List Loc) (ls : Array Slot), nn - sl < n → (sl ≤ nn) → (XA cA ad S d0 d) → (AL S pp er x dy nn d) → (le = (plB S pp er dy nn (k0 - 1) x sl).1) → (FS dy nn (d.1 16 0 6) (plB S pp er dy nn (k0 - 1) x sl).2) → oW D cA B0 ad d H → va_S (oA B0) s.heap H locs → lv_has ls 7 [(0, .ref (ad.1 16 0)), (1, .long x), (3, .int (nI k0)), (4, .int (nI le)), (5, .int (nI sl))] → W p l e (oR 8 0 0) s m ([.ref (ad.1 16 0), .long x, .int (nI k0)] : List Value).toArray below meth c H locs 0 0 (MQ below (oQi D cA B0 ad (fun r d1 => r = nI (plB S pp er dy nn (k0 - 1) x nn).1 ∧ XA cA ad S d0 d1 ∧ FS dy nn (d1.1 16 0 6) (plB S pp er dy nn (k0 - 1) x nn).2)) ([.ref (ad.1 16 0), .long x, .int (nI k0)] : List Value).toArray s 0 0 (oA B0)) (F0 m 14 ls []) := by
    intro n
    induction n with
    | zero => intro le sl  d H locs ls hmu; exact absurd hmu (Nat.not_lt_zero _)
    | succ n ih_lp14 =>
      intro le sl  d H locs ls hmu hsl hI hAL hle hFS hW hS hl
      have hpl := plB_le S pp er dy nn (k0 - 1) x sl
      refine lv_iload hx hb dX0_planFrom_14 (lv_at hl 4 rfl) ?_
      refine lv_aload_n hx hb dX0_planFrom_16 rfl (lv_at hl 0 rfl) ?_
      refine x_gi hx hb hu in_X0 hown hK hW (hA.o (k := 16) rfl) (kX_16 _ _ _ _) rfl 5 (by decide) uF_X0_28 dX0_planFrom_17 ?_
      refine n_topi (y := nI nn) (hAL.1) ?_
      refine n_icmp_ge (tgt := 65) hx hb (by omega) (by omega) dX0_planFrom_20 (by decide) (fun c_j => ?_) (fun c_j => ?_)
      · have hend : plB S pp er dy nn (k0 - 1) x nn = plB S pp er dy nn (k0 - 1) x sl := by rw [show nn = sl by omega]
        refine lv_iload hx hb dX0_planFrom_65 (lv_at hl 3 rfl) ?_
        exact o_iret hx hb hr hlocks hW hS (⟨by rw [hend, hle], hI, by rw [hend]; exact hFS⟩) dX0_planFrom_67
      · refine lv_iload hx hb dX0_planFrom_23 (lv_at hl 3 rfl) ?_
        refine n_iconst (v := 1) hx hb dX0_planFrom_25 (by decide) ?_
        refine n_icmp_le (tgt := 65) hx hb (by omega) (by omega) dX0_planFrom_26 (by decide) (fun c_1 => ?_) (fun c_1 => ?_)
        · have hend : plB S pp er dy nn (k0 - 1) x nn = plB S pp er dy nn (k0 - 1) x sl := plB_stop hz (by rw [← hle]; omega) _ (by omega)
          refine lv_iload hx hb dX0_planFrom_65 (lv_at hl 3 rfl) ?_
          exact o_iret hx hb hr hlocks hW hS (⟨by rw [hend, hle], hI, by rw [hend]; exact hFS⟩) dX0_planFrom_67
        · refine lv_aload_n hx hb dX0_planFrom_29 rfl (lv_at hl 0 rfl) ?_
          refine lv_lload_n hx hb dX0_planFrom_30 rfl (lv_at hl 1 rfl) ?_
          refine lv_iload hx hb dX0_planFrom_31 (lv_at hl 4 rfl) ?_
          refine lv_iload_n hx hb dX0_planFrom_33 rfl (lv_at hl 2 rfl) ?_
          refine n_iconst (v := 1) hx hb dX0_planFrom_34 (by decide) ?_
          refine lv_iload hx hb dX0_planFrom_35 (lv_at hl 3 rfl) ?_
          refine o_calli (o_runV (As := [.long x, .int (nI sl), .int (nI k0), .int (nI 1), .int (nI le)]) (rest := []) ⟨hx, hb, hml, hown, hu⟩ (c_X0_worstBehind_u l D cA B0 ad hal S d hI.1.1 pp er nn dy x hp hn6 hAL x (fun _ _ h => h) sl k0 1 le (by omega) (by omega) (by omega) (by omega) (by omega)) (gV_X0_87 (fun _ h => h)) (n0 := 5) rfl (by decide +kernel) rfl ⟨Nat.le_of_ble_eq_true rfl, Nat.le_of_ble_eq_true rfl⟩ (o_recv hK hW (hA.o (k := 16) rfl) (kX_16 _ _ _ _) rfl) hK hW hB hS hl.1 rfl (lv_room (Nat.le_of_ble_eq_true rfl)) ⟨Nat.zero_le _, Nat.zero_le _⟩ dX0_planFrom_37) hS (fun r_6 d_5 q_7 H locs hW hS => ?_)
          obtain ⟨rfl, rfl⟩ := q_7
          have hbp := bhV_pos S pp er dy nn (k0 - 1) hz sl
          refine lv_istore (lv' := [(6, .int (nI (max 1 (min le (bhV S pp er dy nn (k0 - 1) x sl))))), (0, .ref (ad.1 16 0)), (1, .long x), (3, .int (nI k0)), (4, .int (nI le)), (5, .int (nI sl))]) hx hb dX0_planFrom_40 hl (by decide) rfl (fun ls hl => ?_)
          refine lv_iload hx hb dX0_planFrom_42 (lv_at hl 0 rfl) ?_
          refine lv_iload hx hb dX0_planFrom_44 (lv_at hl 4 rfl) ?_
          refine n_icmp_ge (tgt := 59) hx hb (by omega) (by omega) dX0_planFrom_46 (by decide) (fun c_w => ?_) (fun c_w => ?_)
          · have hst : plB S pp er dy nn (k0 - 1) x (sl + 1) = plB S pp er dy nn (k0 - 1) x sl := by rw [plB, if_neg (by rw [← hle]; omega)]
            refine n_iinc (q := 1) (lv' := [(5, .int (nI (sl + 1))), (6, .int (nI (max 1 (min le (bhV S pp er dy nn (k0 - 1) x sl))))), (0, .ref (ad.1 16 0)), (1, .long x), (3, .int (nI k0)), (4, .int (nI le))]) hx hb dX0_planFrom_59 hl (k := 5) rfl (by decide) (by decide) rfl (fun ls hl => ?_)
            refine lv_goto (tgt := 14) hx hb dX0_planFrom_62 (by decide) ?_
            exact ih_lp14 le (sl + 1) d _ _ ls (by omega) (by omega) hI hAL (by first | (rw [hst]; exact hle) | (rw [hst]; show _ = bhV S pp er dy nn (k0 - 1) x sl; omega)) (by first | (rw [hst]; exact hFS) | (rw [hst]; done)) hW hS (lv_sub hl [2, 3, 4, 5, 0] rfl)
          · have hst : plB S pp er dy nn (k0 - 1) x (sl + 1) = (bhV S pp er dy nn (k0 - 1) x sl, nI (dy sl)) := by rw [plB, if_pos (by rw [← hle]; omega)]
            refine lv_iload hx hb dX0_planFrom_49 (lv_at hl 0 rfl) ?_
            refine lv_istore (lv' := [(4, .int (nI (max 1 (min le (bhV S pp er dy nn (k0 - 1) x sl))))), (6, .int (nI (max 1 (min le (bhV S pp er dy nn (k0 - 1) x sl))))), (0, .ref (ad.1 16 0)), (1, .long x), (3, .int (nI k0)), (5, .int (nI sl))]) hx hb dX0_planFrom_51 hl (by decide) rfl (fun ls hl => ?_)
            refine lv_aload_n hx hb dX0_planFrom_53 rfl (lv_at hl 2 rfl) ?_
            refine lv_iload hx hb dX0_planFrom_54 (lv_at hl 5 rfl) ?_
            refine x_pi hx hb hu in_X0 tyX0 tyX0_ok nmX0 hown hK hW hS (hA.o (k := 16) rfl) (kI_16 _ _ _ _) rfl 6 (ty := .int) (by decide +kernel) uF_X0_32 ⟨rfl, rfl⟩ dX0_planFrom_56 (fun H locs hW hS => ?_)
            have hI := hI.uI 16 0 6 (nI sl) (Or.inl rfl)
            have hAL := hAL.uI6 (nI sl)
            have hFS : FS dy nn ((uI d 16 0 6 (nI sl)).1 16 0 6) (nI (dy sl)) := Or.inr ⟨sl, by omega, uI_s _ _ _ _ _, rfl⟩
            refine n_iinc (q := 1) (lv' := [(5, .int (nI (sl + 1))), (4, .int (nI (max 1 (min le (bhV S pp er dy nn (k0 - 1) x sl))))), (6, .int (nI (max 1 (min le (bhV S pp er dy nn (k0 - 1) x sl))))), (0, .ref (ad.1 16 0)), (1, .long x), (3, .int (nI k0))]) hx hb dX0_planFrom_59 hl (k := 5) rfl (by decide) (by decide) rfl (fun ls hl => ?_)
            refine lv_goto (tgt := 14) hx hb dX0_planFrom_62 (by decide) ?_
            exact ih_lp14 (max 1 (min le (bhV S pp er dy nn (k0 - 1) x sl))) (sl + 1) (uI d 16 0 6 (nI sl)) _ _ ls (by omega) (by omega) hI hAL (by first | (rw [hst]; exact hle) | (rw [hst]; show _ = bhV S pp er dy nn (k0 - 1) x sl; omega)) (by first | (rw [hst]; exact hFS) | (rw [hst]; done)) hW hS (lv_sub hl [3, 4, 5, 1, 0] rfl)
  exact lp14 (nn + 1) (popN x) 0 (uI d0 16 0 6 (-1)) _ _ ls (by omega) (by omega) hI hAL rfl (Or.inl ⟨uI_s _ _ _ _ _, rfl⟩) hW hS (lv_sub hl [2, 3, 4, 1, 0] rfl)

set_option maxHeartbeats 400000 in
set_option maxRecDepth 100000 in
theorem c_X9_plan (l : Launch) (D : va_G) (cA : Nat → ClassId) (B0 : Nat) (ad : kA) (hal : mAl ad) (S : sS) (sr : Nat → Int32) (d0 : kD) (hM : InvX cA ad S d0) (hR : RowX S sr d0) (pi ai bi ni ki ei : Int32) : oM l yX9_plan wX9_plan 9 0 0 D cA B0 ad d0 ([.ref (ad.1 0 0), .int pi, .int ai, .int bi, .int ni, .int ki, .int ei] : List Value) (oQi D cA B0 ad (fun r d1 => r = aPlan S pi ai bi ni ki ei ∧ PX cA ad (nPlan S pi ai bi ni ki ei) (rPlan S sr pi ai bi ni ki ei) d0 d1)) := by
  refine o_ofW (cc := cX9_plan) (maxL := 9) (ret := some .int) (by decide) rfl (Nat.le_of_ble_eq_true rfl) ?_
  intro p e s m below meth c hx hb hr hml hts hown hlocks hnm hK hW hB hS ls hl
  have hu : ∀ w ∈ UW, w.before _ s = true := fun w h => hts w (uw_c w h)
  have hl : lv_has ls 9 [(0, .ref (ad.1 0 0)), (1, .int pi), (2, .int ai), (3, .int bi), (4, .int ni), (5, .int ki), (6, .int ei)] := hl
  have hX := hM.1
  have hA := hX.1
  have hG := hX.2.2
  have hb7 : S 7 0 ≤ 8 := hG.f 7 (mx := 8) (by decide)
  have hb11 : S 11 0 ≤ 20 := hG.f 11 (mx := 20) (by decide)
  have hb18 : S 18 0 ≤ 40 := hG.f 18 (mx := 40) (by decide)
  have hI : XX cA ad S d0 d0 := XX.start hM
  have hb1 : S 1 0 ≤ 4 := hG.f 1 (mx := 4) (by decide)
  have hb19 : S 19 0 ≤ 399 := hG.f 19 (mx := 399) (by decide)
  have hb22 : S 22 0 ≤ 64 := hG.f 22 (mx := 64) (by decide)
  have hb25 : S 25 0 ≤ 4 := hG.f 25 (mx := 4) (by decide)
  have hb30 : S 30 0 ≤ 10 := hG.f 30 (mx := 10) (by decide)
  have hb32 : S 32 0 ≤ 64 := hG.f 32 (mx := 64) (by decide)
  refine lv_aload_n hx hb dX9_plan_0 rfl (lv_at hl 0 rfl) ?_
  refine lv_iload_n hx hb dX9_plan_1 rfl (lv_at hl 1 rfl) ?_
  refine o_callq (o_runV (As := [.int pi]) (rest := []) ⟨hx, hb, hml, hown, hu⟩ (c_X9_pierOf l D cA B0 ad hal S d0 hI.1.1 pi) (gV_X9_126 (fun _ h => h)) (n0 := 1) rfl (by decide +kernel) rfl ⟨Nat.le_of_ble_eq_true rfl, Nat.le_of_ble_eq_true rfl⟩ (o_recv hK hW (hA.o (k := 0) rfl) (kX_0 _ _ _ _) rfl) hK hW hB hS hl.1 rfl (lv_room (Nat.le_of_ble_eq_true rfl)) ⟨Nat.zero_le _, Nat.zero_le _⟩ dX9_plan_2) hS (fun r_2 d_1 q_3 H locs hW hS => ?_)
  obtain ⟨rfl, rfl⟩ := q_3
  cases o_4 : ix pi (S 7 0) with
  | false =>
    refine W.eq (g2 := F0 m 5 ls [.null]) rfl ?_
    refine lv_astoreN (lv' := [(7, .null), (0, .ref (ad.1 0 0)), (1, .int pi), (2, .int ai), (3, .int bi), (4, .int ni), (5, .int ki), (6, .int ei)]) hx hb dX9_plan_5 hl (by decide) rfl (fun ls hl => ?_)
    refine lv_aloadN hx hb dX9_plan_7 (lv_at hl 0 rfl) ?_
    refine lv_ifnullN (tgt := 43) hx hb dX9_plan_9 (by decide) ?_
    refine lv_iconst (v := -1) hx hb dX9_plan_43 (by decide) ?_
    exact o_iret hx hb hr hlocks hW hS (⟨by simp only [aPlan, isPl_rw, Bool.false_and, Bool.and_false, Bool.true_and, Bool.and_true, ite_self, o_4, eq_self, ↓reduceIte, Bool.false_eq_true], by simp only [nPlan, rPlan, isPl_rw, Bool.false_and, Bool.and_false, Bool.true_and, Bool.and_true, ite_self, o_4, eq_self, ↓reduceIte, Bool.false_eq_true]; exact hI.pub hR⟩) dX9_plan_44
  | true =>
    obtain ⟨pin, hpin, rfl⟩ := ix_t o_4 (by omega)
    refine W.eq (g2 := F0 m 5 ls [.ref (ad.1 6 pin)]) (by rw [if_pos rfl, nx_nI (by omega)]; rfl) ?_
    refine lv_astore (lv' := [(7, .ref (ad.1 6 pin)), (0, .ref (ad.1 0 0)), (1, .int (nI pin)), (2, .int ai), (3, .int bi), (4, .int ni), (5, .int ki), (6, .int ei)]) hx hb dX9_plan_5 hl (by decide) rfl (fun ls hl => ?_)
    refine lv_aload hx hb dX9_plan_7 (lv_at hl 0 rfl) ?_
    refine lv_ifnull hx hb dX9_plan_9 ?_
    refine lv_iload_n hx hb dX9_plan_12 rfl (lv_at hl 3 rfl) ?_
    refine lv_iload_n hx hb dX9_plan_13 rfl (lv_at hl 4 rfl) ?_
    refine lv_iload hx hb dX9_plan_14 (lv_at hl 5 rfl) ?_
    refine o_calli (o_runS (As := [.int ai, .int bi, .int ni]) (rest := []) ⟨hx, hb, hml, hown, hu⟩ (c_X9_isRowOfDays l D cA B0 ad hal d0 ai bi ni ) (gS_X9_252 (fun _ h => h)) (n0 := 3) rfl (by decide +kernel) rfl ⟨Nat.le_of_ble_eq_true rfl, Nat.le_of_ble_eq_true rfl⟩ hK hW hB hS hl.1 rfl (lv_room (Nat.le_of_ble_eq_true rfl)) ⟨Nat.zero_le _, Nat.zero_le _⟩ dX9_plan_16) hS (fun r_6 d_5 q_7 H locs hW hS => ?_)
    obtain ⟨rfl, rfl⟩ := q_7
    refine lv_if_eq (tgt := 43) hx hb dX9_plan_19 (by decide) (fun c_r => ?_) (fun c_r => ?_)
    · refine lv_iconst (v := -1) hx hb dX9_plan_43 (by decide) ?_
      exact o_iret hx hb hr hlocks hW hS (⟨by simp only [aPlan, isPl_rw, Bool.false_and, Bool.and_false, Bool.true_and, Bool.and_true, ite_self, ix_nI hpin (by omega), nx_nI (j := pin) (by omega), bI_z c_r, eq_self, ↓reduceIte, Bool.false_eq_true], by simp only [nPlan, rPlan, isPl_rw, Bool.false_and, Bool.and_false, Bool.true_and, Bool.and_true, ite_self, ix_nI hpin (by omega), nx_nI (j := pin) (by omega), bI_z c_r, eq_self, ↓reduceIte, Bool.false_eq_true]; exact hI.pub hR⟩) dX9_plan_44
    · have hrw := bI_n c_r
      obtain ⟨ain, bin, nin, hain, hbina, hbin, hnina, hnin, hdyl, rfl, rfl, rfl⟩ := isRw_t hrw
      have hdyF : ∀ i, i < nin → dyF ain bin i < 400 := fun i hi => dyF_le hdyl hi
      refine lv_iload hx hb dX9_plan_22 (lv_at hl 6 rfl) ?_
      refine n_iconst (v := 1) hx hb dX9_plan_24 (by decide) ?_
      refine n_iconst (v := 3) hx hb dX9_plan_25 (by decide) ?_
      refine o_calli (o_runS (As := [.int ki, .int (nI 1), .int (nI 3)]) (rest := []) ⟨hx, hb, hml, hown, hu⟩ (c_X9_within l D cA B0 ad hal d0 ki (nI 1) (nI 3)) (gS_X9_85 (fun _ h => h)) (n0 := 3) rfl (by decide +kernel) rfl ⟨Nat.le_of_ble_eq_true rfl, Nat.le_of_ble_eq_true rfl⟩ hK hW hB hS hl.1 rfl (lv_room (Nat.le_of_ble_eq_true rfl)) ⟨Nat.zero_le _, Nat.zero_le _⟩ dX9_plan_26) hS (fun r_9 d_8 q_10 H locs hW hS => ?_)
      obtain ⟨rfl, rfl⟩ := q_10
      refine n_topi (y := bI (rx ki 1 3)) (in_rx (by omega) (by omega)) ?_
      refine lv_if_eq (tgt := 43) hx hb dX9_plan_29 (by decide) (fun c_11 => ?_) (fun c_11 => ?_)
      · refine lv_iconst (v := -1) hx hb dX9_plan_43 (by decide) ?_
        exact o_iret hx hb hr hlocks hW hS (⟨by simp only [aPlan, isPl_rw, Bool.false_and, Bool.and_false, Bool.true_and, Bool.and_true, ite_self, ix_nI hpin (by omega), nx_nI (j := pin) (by omega), hrw, nx_nI (j := ain) (by omega), nx_nI (j := bin) (by omega), nx_nI (j := nin) (by omega), bI_z c_11, eq_self, ↓reduceIte, Bool.false_eq_true], by simp only [nPlan, rPlan, isPl_rw, Bool.false_and, Bool.and_false, Bool.true_and, Bool.and_true, ite_self, ix_nI hpin (by omega), nx_nI (j := pin) (by omega), hrw, nx_nI (j := ain) (by omega), nx_nI (j := bin) (by omega), nx_nI (j := nin) (by omega), bI_z c_11, eq_self, ↓reduceIte, Bool.false_eq_true]; exact hI.pub hR⟩) dX9_plan_44
      · obtain ⟨kin, hkina, hkin, rfl⟩ := rx_t (bI_n c_11) (by omega)
        refine lv_iload hx hb dX9_plan_32 (lv_at hl 7 rfl) ?_
        refine n_iconst (v := 0) hx hb dX9_plan_34 (by decide) ?_
        refine n_bipush (v := 50) hx hb dX9_plan_35 (by decide) ?_
        refine o_calli (o_runS (As := [.int ei, .int (nI 0), .int (nI 50)]) (rest := []) ⟨hx, hb, hml, hown, hu⟩ (c_X9_within l D cA B0 ad hal d0 ei (nI 0) (nI 50)) (gS_X9_85 (fun _ h => h)) (n0 := 3) rfl (by decide +kernel) rfl ⟨Nat.le_of_ble_eq_true rfl, Nat.le_of_ble_eq_true rfl⟩ hK hW hB hS hl.1 rfl (lv_room (Nat.le_of_ble_eq_true rfl)) ⟨Nat.zero_le _, Nat.zero_le _⟩ dX9_plan_37) hS (fun r_13 d_12 q_14 H locs hW hS => ?_)
        obtain ⟨rfl, rfl⟩ := q_14
        refine n_topi (y := bI (ix ei 51)) (in_ixc 51 rfl (by decide)) ?_
        refine lv_if_ne (tgt := 45) hx hb dX9_plan_40 (by decide) (fun c_15 => ?_) (fun c_15 => ?_)
        · obtain ⟨ein, hein, rfl⟩ := ix_t (bI_n c_15) (by omega)
          refine lv_aload_n hx hb dX9_plan_45 rfl (lv_at hl 1 rfl) ?_
          refine lv_aload_n hx hb dX9_plan_46 rfl (lv_at hl 1 rfl) ?_
          refine x_gi hx hb hu in_X9 hown hK hW (hA.o (k := 0) rfl) (kX_0 _ _ _ _) rfl 15 (by decide) uF_X9_78 dX9_plan_47 ?_
          refine n_topi (y := nI (S 19 0)) (hI.1.1.2.1.as) ?_
          have b_16 : S 19 0 ≤ 399 := hG.f 19 (mx := 399) (by decide)
          refine o_callv (o_runV (As := [.int (nI (S 19 0))]) (rest := []) ⟨hx, hb, hml, hown, hu⟩ (c_X9_findKept l D cA B0 ad hal S d0 hI.1 (S 19 0) (by omega)) (gV_X9_160 (fun _ h => h)) (n0 := 1) rfl (by decide +kernel) rfl ⟨Nat.le_of_ble_eq_true rfl, Nat.le_of_ble_eq_true rfl⟩ (o_recv hK hW (hA.o (k := 0) rfl) (kX_0 _ _ _ _) rfl) hK hW hB hS hl.1 rfl (lv_room (Nat.le_of_ble_eq_true rfl)) ⟨Nat.zero_le _, Nat.zero_le _⟩ dX9_plan_50) hS (fun d_17 q_19 H locs hW hS => ?_)
          obtain ⟨hq, hKP⟩ := q_19
          have hI := hI.k hq
          refine lv_aload hx hb dX9_plan_53 (lv_at hl 0 rfl) ?_
          refine x_gl hx hb hu in_X5 hown hK hW (hA.pier (by omega)) (kX_6 _ _ _ _) rfl 12 (by decide) uF_X9_171 dX9_plan_55 ?_
          refine n_topl (y := (sKept S pin (S 19 0))) ((hKP.1 pin (by omega)).2) ?_
          refine lv_lconst (v := 0) hx hb dX9_plan_58 (by decide) ?_
          refine W.lcmp hx hb dX9_plan_59 ?_
          refine lv_if_ne (tgt := 65) hx hb dX9_plan_60 (by decide) (fun c_z => ?_) (fun c_z => ?_)
          · have hz : ¬ (sKept S pin (S 19 0)) = 0 := lg0n c_z
            refine lv_aload_n hx hb dX9_plan_65 rfl (lv_at hl 1 rfl) ?_
            refine lv_aload hx hb dX9_plan_66 (lv_at hl 0 rfl) ?_
            refine lv_iload_n hx hb dX9_plan_68 rfl (lv_at hl 3 rfl) ?_
            refine lv_iload_n hx hb dX9_plan_69 rfl (lv_at hl 4 rfl) ?_
            refine lv_iload hx hb dX9_plan_70 (lv_at hl 5 rfl) ?_
            refine lv_iload hx hb dX9_plan_72 (lv_at hl 7 rfl) ?_
            refine o_callv (o_runV (As := [.ref (ad.1 6 pin), .int (nI ain), .int (nI bin), .int (nI nin), .int (nI ein)]) (rest := []) ⟨hx, hb, hml, hown, hu⟩ (c_X9_prepareAhead l D cA B0 ad hal S d_17 hI.1 pin ain bin nin ein (sKept S pin (S 19 0)) (by omega) (by omega) (by omega) hdyF ((hKP.1 pin (by omega)).2)) (gV_X9_255 (fun _ h => h)) (n0 := 5) rfl (by decide +kernel) rfl ⟨Nat.le_of_ble_eq_true rfl, Nat.le_of_ble_eq_true rfl⟩ (o_recv hK hW (hA.o (k := 0) rfl) (kX_0 _ _ _ _) rfl) hK hW hB hS hl.1 rfl (lv_room (Nat.le_of_ble_eq_true rfl)) ⟨Nat.zero_le _, Nat.zero_le _⟩ dX9_plan_74) hS (fun d_20 q_22 H locs hW hS => ?_)
            obtain ⟨hq, hAL⟩ := q_22
            have hI := hI.a hq
            have hKP := hKP.fa hq.2
            refine lv_aload_n hx hb dX9_plan_77 rfl (lv_at hl 1 rfl) ?_
            refine x_gr hx hb hu in_X9 hown hK hW (hA.o (k := 0) rfl) (kX_0 _ _ _ _) rfl 8 (by decide) uF_X9_51 (hA.f 8 (k := 16) (i := 0) (by decide) (hA.o (k := 16) rfl)) dX9_plan_78 ?_
            refine lv_aload hx hb dX9_plan_81 (lv_at hl 0 rfl) ?_
            refine x_gl hx hb hu in_X5 hown hK hW (hA.pier (by omega)) (kX_6 _ _ _ _) rfl 12 (by decide) uF_X9_171 dX9_plan_83 ?_
            refine n_topl (y := (sKept S pin (S 19 0))) ((hKP.1 pin (by omega)).2) ?_
            refine lv_iload hx hb dX9_plan_86 (lv_at hl 6 rfl) ?_
            refine o_calli (o_runV (As := [.long (sKept S pin (S 19 0)), .int (nI kin)]) (rest := []) ⟨hx, hb, hml, hown, hu⟩ (c_X0_planFrom l D cA B0 ad hal S d_20 hI.1 pin ein nin (dyF ain bin) (sKept S pin (S 19 0)) (by omega) (by omega) hAL hz kin (by omega) (by omega)) (gV_X9_258 (fun _ h => h)) (n0 := 2) rfl (by decide +kernel) rfl ⟨Nat.le_of_ble_eq_true rfl, Nat.le_of_ble_eq_true rfl⟩ (o_recv hK hW (hA.o (k := 16) rfl) (kX_16 _ _ _ _) rfl) hK hW hB hS hl.1 rfl (lv_room (Nat.le_of_ble_eq_true rfl)) ⟨Nat.zero_le _, Nat.zero_le _⟩ dX9_plan_88) hS (fun r_23 dP q_24 H locs hW hS => ?_)
            obtain ⟨rfl, hq, hFS⟩ := q_24
            have hI := hI.a hq
            refine lv_istore (lv' := [(8, .int (nI ((plA S pin ain bin nin kin ein).1))), (7, .ref (ad.1 6 pin)), (0, .ref (ad.1 0 0)), (1, .int (nI pin)), (2, .int (nI ain)), (3, .int (nI bin)), (4, .int (nI nin)), (5, .int (nI kin)), (6, .int (nI ein))]) hx hb dX9_plan_91 hl (by decide) rfl (fun ls hl => ?_)
            have hSp := hR.2.fr hI.2
            have hI := hI.r
            have hpa : (plA S pin ain bin nin kin ein).1 ≤ 64 := plB_le _ _ _ _ _ _ _ _
            refine lv_aload_n hx hb dX9_plan_93 rfl (lv_at hl 2 rfl) ?_
            refine x_gr hx hb hu in_X9 hown hK hW (hA.o (k := 0) rfl) (kX_0 _ _ _ _) rfl 6 (by decide) uF_X9_37 (hA.f 6 (k := 11) (i := 0) (by decide) (hA.o (k := 11) rfl)) dX9_plan_94 ?_
            refine o_callv (o_runV (As := []) (rest := []) ⟨hx, hb, hml, hown, hu⟩ (c_X3_clear l D cA B0 ad hal S dP hI.1.1) (gV_X9_174 (fun _ h => h)) (n0 := 0) rfl (by decide +kernel) rfl ⟨Nat.le_of_ble_eq_true rfl, Nat.le_of_ble_eq_true rfl⟩ (o_recv hK hW (hA.o (k := 11) rfl) (kX_11 _ _ _ _) rfl) hK hW hB hS hl.1 rfl (lv_room (Nat.le_of_ble_eq_true rfl)) ⟨Nat.zero_le _, Nat.zero_le _⟩ dX9_plan_97) hS (fun d_25 q_27 H locs hW hS => ?_)
            subst q_27
            have hI := hI.k12 11 0 1 (nI 0) (by decide)
            have hT := TR.zero (fun _ => 0) dP
            have hSp := hSp.k 11 0 1 (nI 0) (by decide)
            refine lv_aload_n hx hb dX9_plan_100 rfl (lv_at hl 2 rfl) ?_
            refine x_gr hx hb hu in_X9 hown hK hW (hA.o (k := 0) rfl) (kX_0 _ _ _ _) rfl 6 (by decide) uF_X9_37 (hA.f 6 (k := 11) (i := 0) (by decide) (hA.o (k := 11) rfl)) dX9_plan_101 ?_
            refine lv_aload_n hx hb dX9_plan_104 rfl (lv_at hl 2 rfl) ?_
            refine x_gr hx hb hu in_X9 hown hK hW (hA.o (k := 0) rfl) (kX_0 _ _ _ _) rfl 8 (by decide) uF_X9_51 (hA.f 8 (k := 16) (i := 0) (by decide) (hA.o (k := 16) rfl)) dX9_plan_105 ?_
            refine x_gi hx hb hu in_X0 hown hK hW (hA.o (k := 16) rfl) (kX_16 _ _ _ _) rfl 6 (by decide) uF_X9_262 dX9_plan_108 ?_
            refine n_topi (y := dP.1 16 0 6) (rfl) ?_
            refine lv_iconst (v := -1) hx hb dX9_plan_111 (by decide) ?_
            have j130 : ∀ (dz : Int32)  (H : Heap) (locs : List Loc) (ls : Array Slot), (dz = (plA S pin ain bin nin kin ein).2) → oW D cA B0 ad (uI dP 11 0 1 (nI 0)) H → va_S (oA B0) s.heap H locs → lv_has ls 9 [(0, .ref (ad.1 0 0)), (1, .int (nI pin)), (2, .int (nI ain)), (3, .int (nI bin)), (4, .int (nI nin)), (5, .int (nI kin)), (6, .int (nI ein)), (7, .ref (ad.1 6 pin)), (8, .int (nI ((plA S pin ain bin nin kin ein).1)))] → W p l e (oR 9 0 0) s m ([.ref (ad.1 0 0), .int (nI pin), .int (nI ain), .int (nI bin), .int (nI nin), .int (nI kin), .int (nI ein)] : List Value).toArray below meth c H locs 0 0 (MQ below (oQi D cA B0 ad (fun r d1 => r = aPlan S (nI pin) (nI ain) (nI bin) (nI nin) (nI kin) (nI ein) ∧ PX cA ad (nPlan S (nI pin) (nI ain) (nI bin) (nI nin) (nI kin) (nI ein)) (rPlan S sr (nI pin) (nI ain) (nI bin) (nI nin) (nI kin) (nI ein)) d0 d1)) ([.ref (ad.1 0 0), .int (nI pin), .int (nI ain), .int (nI bin), .int (nI nin), .int (nI kin), .int (nI ein)] : List Value).toArray s 0 0 (oA B0)) (F0 m 130 ls [.int dz, .ref (ad.1 11 0)]) := by
              intro dz  H locs ls hdz hW hS hl
              refine o_callv (o_runV (As := [.int dz]) (rest := []) ⟨hx, hb, hml, hown, hu⟩ (c_X3_put l D cA B0 ad hal S (uI dP 11 0 1 (nI 0)) hI.1.1 0 dz (by omega) hT.1) (gV_X9_177 (fun _ h => h)) (n0 := 1) rfl (by decide +kernel) rfl ⟨Nat.le_of_ble_eq_true rfl, Nat.le_of_ble_eq_true rfl⟩ (o_recv hK hW (hA.o (k := 11) rfl) (kX_11 _ _ _ _) rfl) hK hW hB hS hl.1 rfl (lv_room (Nat.le_of_ble_eq_true rfl)) ⟨Nat.zero_le _, Nat.zero_le _⟩ dX9_plan_130) hS (fun d_28 q_30 H locs hW hS => ?_)
              subst q_30
              have hI := hI.k12 12 0 0 dz (by decide)
              have hI := hI.k12 11 0 1 (nI (0 + 1)) (by decide)
              have hT := hT.tell dz
              have hSp := (hSp.k 12 0 0 dz (by decide)).k 11 0 1 (nI (0 + 1)) (by decide)
              refine lv_iload hx hb dX9_plan_133 (lv_at hl 8 rfl) ?_
              exact o_iret hx hb hr hlocks hW hS (⟨by simp only [aPlan, isPl_rw, Bool.false_and, Bool.and_false, Bool.true_and, Bool.and_true, ite_self, ix_nI hpin (by omega), nx_nI (j := pin) (by omega), hrw, nx_nI (j := ain) (by omega), nx_nI (j := bin) (by omega), nx_nI (j := nin) (by omega), rx_nI hkina hkin (by omega), nx_nI (j := kin) (by omega), ix_nI hein (by omega), nx_nI (j := ein) (by omega), hz, eq_self, ↓reduceIte, Bool.false_eq_true], by simp only [nPlan, rPlan, isPl_rw, Bool.false_and, Bool.and_false, Bool.true_and, Bool.and_true, ite_self, ix_nI hpin (by omega), nx_nI (j := pin) (by omega), hrw, nx_nI (j := ain) (by omega), nx_nI (j := bin) (by omega), nx_nI (j := nin) (by omega), rx_nI hkina hkin (by omega), nx_nI (j := kin) (by omega), ix_nI hein (by omega), nx_nI (j := ein) (by omega), hz, eq_self, ↓reduceIte, Bool.false_eq_true]; rw [← hdz]; exact hI.end (by omega) hT hSp⟩) dX9_plan_135
            refine lv_icmp_ne (tgt := 119) hx hb dX9_plan_112 (by decide) (fun c_f => ?_) (fun c_f => ?_)
            · refine lv_iload_n hx hb dX9_plan_119 rfl (lv_at hl 4 rfl) ?_
              refine lv_iload_n hx hb dX9_plan_120 rfl (lv_at hl 5 rfl) ?_
              refine lv_aload_n hx hb dX9_plan_121 rfl (lv_at hl 2 rfl) ?_
              refine x_gr hx hb hu in_X9 hown hK hW (hA.o (k := 0) rfl) (kX_0 _ _ _ _) rfl 8 (by decide) uF_X9_51 (hA.f 8 (k := 16) (i := 0) (by decide) (hA.o (k := 16) rfl)) dX9_plan_122 ?_
              refine x_gi hx hb hu in_X0 hown hK hW (hA.o (k := 16) rfl) (kX_16 _ _ _ _) rfl 6 (by decide) uF_X9_262 dX9_plan_125 ?_
              refine n_topi (y := dP.1 16 0 6) (rfl) ?_
              refine lv_imul hx hb dX9_plan_128 ?_
              refine lv_iadd hx hb dX9_plan_129 ?_
              exact j130 ((nI ain) + ((nI bin) * (dP.1 16 0 6))) _ _ ls (by first | exact hFS.none (by omega) c_f | exact hFS.some c_f) hW hS (lv_sub hl [2, 3, 4, 5, 6, 7, 8, 1, 0] rfl)
            · refine lv_iconst (v := -1) hx hb dX9_plan_115 (by decide) ?_
              refine lv_goto (tgt := 130) hx hb dX9_plan_116 (by decide) ?_
              exact j130 (-1) _ _ ls (by first | exact hFS.none (by omega) c_f | exact hFS.some c_f) hW hS (lv_sub hl [2, 3, 4, 5, 6, 7, 8, 1, 0] rfl)
          · have hz : (sKept S pin (S 19 0)) = 0 := lg0 c_z
            refine lv_iconst (v := -1) hx hb dX9_plan_63 (by decide) ?_
            exact o_iret hx hb hr hlocks hW hS (⟨by simp only [aPlan, isPl_rw, Bool.false_and, Bool.and_false, Bool.true_and, Bool.and_true, ite_self, ix_nI hpin (by omega), nx_nI (j := pin) (by omega), hrw, nx_nI (j := ain) (by omega), nx_nI (j := bin) (by omega), nx_nI (j := nin) (by omega), rx_nI hkina hkin (by omega), nx_nI (j := kin) (by omega), ix_nI hein (by omega), nx_nI (j := ein) (by omega), hz, eq_self, ↓reduceIte, Bool.false_eq_true], by simp only [nPlan, rPlan, isPl_rw, Bool.false_and, Bool.and_false, Bool.true_and, Bool.and_true, ite_self, ix_nI hpin (by omega), nx_nI (j := pin) (by omega), hrw, nx_nI (j := ain) (by omega), nx_nI (j := bin) (by omega), nx_nI (j := nin) (by omega), rx_nI hkina hkin (by omega), nx_nI (j := kin) (by omega), ix_nI hein (by omega), nx_nI (j := ein) (by omega), hz, eq_self, ↓reduceIte, Bool.false_eq_true]; exact hI.pub hR⟩) dX9_plan_64
        · refine lv_iconst (v := -1) hx hb dX9_plan_43 (by decide) ?_
          exact o_iret hx hb hr hlocks hW hS (⟨by simp only [aPlan, isPl_rw, Bool.false_and, Bool.and_false, Bool.true_and, Bool.and_true, ite_self, ix_nI hpin (by omega), nx_nI (j := pin) (by omega), hrw, nx_nI (j := ain) (by omega), nx_nI (j := bin) (by omega), nx_nI (j := nin) (by omega), rx_nI hkina hkin (by omega), nx_nI (j := kin) (by omega), bI_z c_15, eq_self, ↓reduceIte, Bool.false_eq_true], by simp only [nPlan, rPlan, isPl_rw, Bool.false_and, Bool.and_false, Bool.true_and, Bool.and_true, ite_self, ix_nI hpin (by omega), nx_nI (j := pin) (by omega), hrw, nx_nI (j := ain) (by omega), nx_nI (j := bin) (by omega), nx_nI (j := nin) (by omega), rx_nI hkina hkin (by omega), nx_nI (j := kin) (by omega), bI_z c_15, eq_self, ↓reduceIte, Bool.false_eq_true]; exact hI.pub hR⟩) dX9_plan_44
