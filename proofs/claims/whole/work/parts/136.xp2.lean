set_option maxHeartbeats 400000 in
set_option maxRecDepth 100000 in
theorem c_X1_has (l : Launch) (D : va_G) (cA : Nat → ClassId) (B0 : Nat) (ad : kA) (hal : mAl ad) (S : sS) (d0 : kD) (hX : XB cA ad S d0) (bb : Nat) (pp : Nat) (hbb : bb < S 25 0) : oM l yX1_has wX1_has 1 0 0 D cA B0 ad d0 ([.ref (ad.1 9 bb), .int (nI pp)] : List Value) (oQi D cA B0 ad (fun r d1 => r = bI (brB S bb pp) ∧ d0 = d1)) := by
  refine o_ofW (cc := cX1_has) (maxL := 2) (ret := some .boolean) (by decide) rfl (Nat.le_of_ble_eq_true rfl) ?_
  intro p e s m below meth c hx hb hr hml hts hown hlocks hnm hK hW hB hS ls hl
  have hu : ∀ w ∈ UW, w.before _ s = true := fun w h => hts w (uw_c w h)
  have hl : lv_has ls 2 [(0, .ref (ad.1 9 bb)), (1, .int (nI pp))] := hl
  have hA := hX.1
  have hG := hX.2.2
  have hb7 : S 7 0 ≤ 8 := hG.f 7 (mx := 8) (by decide)
  have hb11 : S 11 0 ≤ 20 := hG.f 11 (mx := 20) (by decide)
  have hb18 : S 18 0 ≤ 40 := hG.f 18 (mx := 40) (by decide)
  have hb25 : S 25 0 ≤ 4 := hG.f 25 (mx := 4) (by decide)
  refine lv_aload_n hx hb dX1_has_0 rfl (lv_at hl 0 rfl) ?_
  refine x_gi hx hb hu in_X1 hown hK hW (hA.brid (by omega)) (kX_9 _ _ _ _) rfl 0 (by decide) uF_X1_7 dX1_has_1 ?_
  refine n_topi (y := nI (S 23 bb)) ((hX.2.1.brid (by omega)).1) ?_
  have b_1 : S 23 bb ≤ 255 := hG.a 23 bb (n := 4) (mx := 255) (by decide) (by omega)
  refine lv_iload_n hx hb dX1_has_4 rfl (lv_at hl 1 rfl) ?_
  refine lv_ishr hx hb dX1_has_5 ?_
  refine n_iconst (v := 1) hx hb dX1_has_6 (by decide) ?_
  refine lv_iand hx hb dX1_has_7 ?_
  refine lv_if_eq (tgt := 15) hx hb dX1_has_8 (by decide) (fun c_b => ?_) (fun c_b => ?_)
  · refine n_iconst (v := 0) hx hb dX1_has_15 (by decide) ?_
    exact o_zret hx hb hr hlocks (by first | rfl | exact z_bI _ | (split <;> first | rfl | (split <;> rfl))) hW hS (⟨by unfold brB; first | (rw [bitI_t c_b]; rfl) | (rw [bitI_f c_b]; rfl), rfl⟩) dX1_has_16
  · refine n_iconst (v := 1) hx hb dX1_has_11 (by decide) ?_
    refine lv_goto (tgt := 16) hx hb dX1_has_12 (by decide) ?_
    exact o_zret hx hb hr hlocks (by first | rfl | exact z_bI _ | (split <;> first | rfl | (split <;> rfl))) hW hS (⟨by unfold brB; first | (rw [bitI_t c_b]; rfl) | (rw [bitI_f c_b]; rfl), rfl⟩) dX1_has_16

set_option maxHeartbeats 400000 in
set_option maxRecDepth 100000 in
theorem c_X9_pierOpenFrom (l : Launch) (D : va_G) (cA : Nat → ClassId) (B0 : Nat) (ad : kA) (hal : mAl ad) (S : sS) (d0 : kD) (hM : InvX cA ad S d0) (pp : Nat) (dd : Nat) (hp : pp < S 7 0) (hd : dd < 400) (hk0 : d0.2.1 6 pp 12 = sKept S pp dd) : oM l yX9_pierOpenFrom wX9_pierOpenFrom 5 0 0 D cA B0 ad d0 ([.ref (ad.1 6 pp), .int (nI dd)] : List Value) (oQi D cA B0 ad (fun r d1 => r = nI (opP S pp dd) ∧ XW cA ad S d0 d1 ∧ F1 pp d0 d1)) := by
  refine o_ofW (cc := cX9_pierOpenFrom) (maxL := 4) (ret := some .int) (by decide) rfl (Nat.le_of_ble_eq_true rfl) ?_
  intro p e s m below meth c hx hb hr hml hts hown hlocks hnm hK hW hB hS ls hl
  have hu : ∀ w ∈ UW, w.before _ s = true := fun w h => hts w (uw_c w h)
  have hl : lv_has ls 4 [(0, .ref (ad.1 6 pp)), (1, .int (nI dd))] := hl
  have hX := hM.1
  have hA := hX.1
  have hG := hX.2.2
  have hb7 : S 7 0 ≤ 8 := hG.f 7 (mx := 8) (by decide)
  have hb11 : S 11 0 ≤ 20 := hG.f 11 (mx := 20) (by decide)
  have hb18 : S 18 0 ≤ 40 := hG.f 18 (mx := 40) (by decide)
  have hI : XW cA ad S d0 d0 := XW.start hM
  refine lv_aload_n hx hb dX9_pierOpenFrom_0 rfl (lv_at hl 0 rfl) ?_
  refine x_gl hx hb hu in_X5 hown hK hW (hA.pier (by omega)) (kX_6 _ _ _ _) rfl 12 (by decide) uF_X9_171 dX9_pierOpenFrom_1 ?_
  refine n_topl (y := sKept S pp dd) (hk0) ?_
  refine o_calli (o_runS (As := [.long (sKept S pp dd)]) (rest := []) ⟨hx, hb, hml, hown, hu⟩ (c_J13_bitCount_95d88 l D cA B0 ad hal d0 (sKept S pp dd)) (gS_X9_180 (fun _ h => h)) (n0 := 1) rfl (by decide +kernel) rfl ⟨Nat.le_of_ble_eq_true rfl, Nat.le_of_ble_eq_true rfl⟩ hK hW hB hS hl.1 rfl (lv_room (Nat.le_of_ble_eq_true rfl)) ⟨Nat.zero_le _, Nat.zero_le _⟩ dX9_pierOpenFrom_4) hS (fun r_2 d_1 q_3 H locs hW hS => ?_)
  obtain ⟨rfl, rfl⟩ := q_3
  have b_4 := popN_le (sKept S pp dd)
  refine lv_istore_n (lv' := [(2, .int (nI (popN (sKept S pp dd)))), (0, .ref (ad.1 6 pp)), (1, .int (nI dd))]) hx hb dX9_pierOpenFrom_7 rfl hl (by decide) rfl (fun ls hl => ?_)
  refine lv_iload_n hx hb dX9_pierOpenFrom_8 rfl (lv_at hl 0 rfl) ?_
  refine n_if_ne (tgt := 16) hx hb (by omega) dX9_pierOpenFrom_9 (by decide) (fun c_0 => ?_) (fun c_0 => ?_)
  · refine lv_iload_n hx hb dX9_pierOpenFrom_16 rfl (lv_at hl 0 rfl) ?_
    refine lv_aload_n hx hb dX9_pierOpenFrom_17 rfl (lv_at hl 1 rfl) ?_
    refine lv_iload_n hx hb dX9_pierOpenFrom_18 rfl (lv_at hl 2 rfl) ?_
    refine n_iconst (v := 0) hx hb dX9_pierOpenFrom_19 (by decide) ?_
    refine o_calll (o_runV (As := [.int (nI dd), .int (nI 0)]) (rest := [.int (nI (popN (sKept S pp dd)))]) ⟨hx, hb, hml, hown, hu⟩ (c_X5_mindsInState l D cA B0 ad hal S d0 hI.1 pp dd 0 (sKept S pp dd) hp hd (by omega) hk0) (gV_X9_237 (fun _ h => h)) (n0 := 2) rfl (by decide +kernel) rfl ⟨Nat.le_of_ble_eq_true rfl, Nat.le_of_ble_eq_true rfl⟩ (o_recv hK hW (hA.pier (by omega)) (kX_6 _ _ _ _) rfl) hK hW hB hS hl.1 rfl (lv_room (Nat.le_of_ble_eq_true rfl)) ⟨Nat.zero_le _, Nat.zero_le _⟩ dX9_pierOpenFrom_20) hS (fun r_6 d_5 q_7 H locs hW hS => ?_)
    obtain ⟨rfl, hq, hF1⟩ := q_7
    have hI := hI.trans hq
    refine o_calli (o_runS (As := [.long (sSt S pp (sKept S pp dd) dd 0)]) (rest := [.int (nI (popN (sKept S pp dd)))]) ⟨hx, hb, hml, hown, hu⟩ (c_J13_bitCount_95d88 l D cA B0 ad hal d_5 (sSt S pp (sKept S pp dd) dd 0)) (gS_X9_180 (fun _ h => h)) (n0 := 1) rfl (by decide +kernel) rfl ⟨Nat.le_of_ble_eq_true rfl, Nat.le_of_ble_eq_true rfl⟩ hK hW hB hS hl.1 rfl (lv_room (Nat.le_of_ble_eq_true rfl)) ⟨Nat.zero_le _, Nat.zero_le _⟩ dX9_pierOpenFrom_23) hS (fun r_9 d_8 q_10 H locs hW hS => ?_)
    obtain ⟨rfl, rfl⟩ := q_10
    have b_11 := popN_le (sSt S pp (sKept S pp dd) dd 0)
    refine n_isub hx hb (yes_le S pp _ dd 0) dX9_pierOpenFrom_26 ?_
    have hyl := yes_le S pp (sKept S pp dd) dd 0
    refine lv_istore_n (lv' := [(3, .int (nI ((popN (sKept S pp dd)) - (popN (sSt S pp (sKept S pp dd) dd 0))))), (2, .int (nI (popN (sKept S pp dd)))), (0, .ref (ad.1 6 pp)), (1, .int (nI dd))]) hx hb dX9_pierOpenFrom_27 rfl hl (by decide) rfl (fun ls hl => ?_)
    refine n_sipush (v := 1000) hx hb dX9_pierOpenFrom_28 (by decide) ?_
    refine lv_iload_n hx hb dX9_pierOpenFrom_31 rfl (lv_at hl 0 rfl) ?_
    refine n_imul hx hb dX9_pierOpenFrom_32 ?_
    refine lv_iload_n hx hb dX9_pierOpenFrom_33 rfl (lv_at hl 1 rfl) ?_
    refine n_iadd hx hb dX9_pierOpenFrom_34 ?_
    refine n_iconst (v := 1) hx hb dX9_pierOpenFrom_35 (by decide) ?_
    refine n_isub hx hb (by omega) dX9_pierOpenFrom_36 ?_
    refine lv_iload_n hx hb dX9_pierOpenFrom_37 rfl (lv_at hl 1 rfl) ?_
    refine n_idiv hx hb (by omega) (by omega) (by omega) dX9_pierOpenFrom_38 ?_
    exact o_iret hx hb hr hlocks hW hS (⟨by unfold opP; rw [if_neg (by omega)]; rfl, hI, hF1⟩) dX9_pierOpenFrom_39
  · refine n_sipush (v := 1001) hx hb dX9_pierOpenFrom_12 (by decide) ?_
    exact o_iret hx hb hr hlocks hW hS (⟨by unfold opP; rw [if_pos (by omega)], hI, F1.refl pp d0⟩) dX9_pierOpenFrom_15

set_option maxHeartbeats 400000 in
set_option maxRecDepth 100000 in
theorem c_X9_openFrom (l : Launch) (D : va_G) (cA : Nat → ClassId) (B0 : Nat) (ad : kA) (hal : mAl ad) (S : sS) (d0 : kD) (hM : InvX cA ad S d0) (bb dd : Nat) (hbb : bb < S 25 0) (hd : dd < 400) (hKP : KP S dd d0) : oM l yX9_openFrom wX9_openFrom 6 0 0 D cA B0 ad d0 ([.ref (ad.1 0 0), .ref (ad.1 9 bb), .int (nI dd)] : List Value) (oQi D cA B0 ad (fun r d1 => r = nI (opL S bb dd (S 7 0)) ∧ XW cA ad S d0 d1)) := by
  refine o_ofW (cc := cX9_openFrom) (maxL := 5) (ret := some .int) (by decide) rfl (Nat.le_of_ble_eq_true rfl) ?_
  intro p e s m below meth c hx hb hr hml hts hown hlocks hnm hK hW hB hS ls hl
  have hu : ∀ w ∈ UW, w.before _ s = true := fun w h => hts w (uw_c w h)
  have hl : lv_has ls 5 [(0, .ref (ad.1 0 0)), (1, .ref (ad.1 9 bb)), (2, .int (nI dd))] := hl
  have hX := hM.1
  have hA := hX.1
  have hG := hX.2.2
  have hb7 : S 7 0 ≤ 8 := hG.f 7 (mx := 8) (by decide)
  have hb11 : S 11 0 ≤ 20 := hG.f 11 (mx := 20) (by decide)
  have hb18 : S 18 0 ≤ 40 := hG.f 18 (mx := 40) (by decide)
  have hI : XW cA ad S d0 d0 := XW.start hM
  refine n_iconst (v := 0) hx hb dX9_openFrom_0 (by decide) ?_
  refine lv_istore_n (lv' := [(3, .int (nI 0)), (0, .ref (ad.1 0 0)), (1, .ref (ad.1 9 bb)), (2, .int (nI dd))]) hx hb dX9_openFrom_1 rfl hl (by decide) rfl (fun ls hl => ?_)
  refine n_iconst (v := 0) hx hb dX9_openFrom_2 (by decide) ?_
  refine lv_istore (lv' := [(4, .int (nI 0)), (3, .int (nI 0)), (0, .ref (ad.1 0 0)), (1, .ref (ad.1 9 bb)), (2, .int (nI dd))]) hx hb dX9_openFrom_3 hl (by decide) rfl (fun ls hl => ?_)
  have lp5 : ∀ (n : Nat) (w : Nat) (k : Nat)  (d : kD) (H : Heap) (locs : List Loc) (ls : Array Slot), S 7 0 - k < n → (k ≤ S 7 0) → (XW cA ad S d0 d) → (KP S dd d) → (w = opL S bb dd k) → oW D cA B0 ad d H → va_S (oA B0) s.heap H locs → lv_has ls 5 [(0, .ref (ad.1 0 0)), (1, .ref (ad.1 9 bb)), (2, .int (nI dd)), (3, .int (nI w)), (4, .int (nI k))] → W p l e (oR 6 0 0) s m ([.ref (ad.1 0 0), .ref (ad.1 9 bb), .int (nI dd)] : List Value).toArray below meth c H locs 0 0 (MQ below (oQi D cA B0 ad (fun r d1 => r = nI (opL S bb dd (S 7 0)) ∧ XW cA ad S d0 d1)) ([.ref (ad.1 0 0), .ref (ad.1 9 bb), .int (nI dd)] : List Value).toArray s 0 0 (oA B0)) (F0 m 5 ls []) := by
    intro n
    induction n with
    | zero => intro w k  d H locs ls hmu; exact absurd hmu (Nat.not_lt_zero _)
    | succ n ih_lp5 =>
      intro w k  d H locs ls hmu hk hI hKP hw hW hS hl
      have hol := opL_le S bb dd k
      refine lv_iload hx hb dX9_openFrom_5 (lv_at hl 4 rfl) ?_
      refine lv_aload_n hx hb dX9_openFrom_7 rfl (lv_at hl 0 rfl) ?_
      refine x_gr hx hb hu in_X9 hown hK hW (hA.o (k := 0) rfl) (kX_0 _ _ _ _) rfl 2 (by decide) uF_X9_21 (hA.f 2 (k := 4) (i := 0) (by decide) (hA.li (by omega))) dX9_openFrom_8 ?_
      refine o_calli (o_runV (As := []) (rest := [.int (nI k)]) ⟨hx, hb, hml, hown, hu⟩ (c_Jx4a65c_size_8abf5 l D cA B0 ad hal S d hI.1.1 0 (by decide)) (gV_X9_105 (fun _ h => h)) (n0 := 0) rfl (by decide +kernel) rfl ⟨Nat.le_of_ble_eq_true rfl, Nat.le_of_ble_eq_true rfl⟩ (o_recv hK hW (hA.li (by omega)) (kX_4 _ _ _ _) rfl) hK hW hB hS hl.1 rfl (lv_room (Nat.le_of_ble_eq_true rfl)) ⟨Nat.zero_le _, Nat.zero_le _⟩ dX9_openFrom_11) hS (fun r_2 d_1 q_3 H locs hW hS => ?_)
      obtain ⟨rfl, rfl⟩ := q_3
      refine n_topi (y := nI (S 7 0)) rfl ?_
      refine n_icmp_ge (tgt := 53) hx hb (by omega) (by omega) dX9_openFrom_14 (by decide) (fun c_4 => ?_) (fun c_4 => ?_)
      · refine lv_iload_n hx hb dX9_openFrom_53 rfl (lv_at hl 3 rfl) ?_
        exact o_iret hx hb hr hlocks hW hS (⟨by rw [hw, show k = S 7 0 by omega], hI⟩) dX9_openFrom_54
      · refine lv_aload_n hx hb dX9_openFrom_17 rfl (lv_at hl 1 rfl) ?_
        refine lv_iload hx hb dX9_openFrom_18 (lv_at hl 4 rfl) ?_
        refine o_calli (o_runV (As := [.int (nI k)]) (rest := []) ⟨hx, hb, hml, hown, hu⟩ (c_X1_has l D cA B0 ad hal S d hI.1.1 bb k (by omega)) (gV_X9_331 (fun _ h => h)) (n0 := 1) rfl (by decide +kernel) rfl ⟨Nat.le_of_ble_eq_true rfl, Nat.le_of_ble_eq_true rfl⟩ (o_recv hK hW (hA.brid (by omega)) (kX_9 _ _ _ _) rfl) hK hW hB hS hl.1 rfl (lv_room (Nat.le_of_ble_eq_true rfl)) ⟨Nat.zero_le _, Nat.zero_le _⟩ dX9_openFrom_20) hS (fun r_6 d_5 q_7 H locs hW hS => ?_)
        obtain ⟨rfl, rfl⟩ := q_7
        refine lv_if_eq (tgt := 47) hx hb dX9_openFrom_23 (by decide) (fun c_b => ?_) (fun c_b => ?_)
        · have hst : opL S bb dd (k + 1) = opL S bb dd k := by rw [opL, if_neg (by rw [bI_z c_b]; decide)]
          refine n_iinc (q := 1) (lv' := [(4, .int (nI (k + 1))), (0, .ref (ad.1 0 0)), (1, .ref (ad.1 9 bb)), (2, .int (nI dd)), (3, .int (nI w))]) hx hb dX9_openFrom_47 hl (k := 4) rfl (by decide) (by decide) rfl (fun ls hl => ?_)
          refine lv_goto (tgt := 5) hx hb dX9_openFrom_50 (by decide) ?_
          exact ih_lp5 w (k + 1) d _ _ ls (by omega) (by omega) hI hKP (by rw [hst, ← hw]) hW hS (lv_sub hl [1, 2, 3, 4, 0] rfl)
        · have hst : opL S bb dd (k + 1) = max (opL S bb dd k) (opP S k dd) := by rw [opL, if_pos (bI_n c_b)]
          have hop := opP_le S k dd
          refine lv_iload_n hx hb dX9_openFrom_26 rfl (lv_at hl 3 rfl) ?_
          refine lv_aload_n hx hb dX9_openFrom_27 rfl (lv_at hl 0 rfl) ?_
          refine x_gr hx hb hu in_X9 hown hK hW (hA.o (k := 0) rfl) (kX_0 _ _ _ _) rfl 2 (by decide) uF_X9_21 (hA.f 2 (k := 4) (i := 0) (by decide) (hA.li (by omega))) dX9_openFrom_28 ?_
          refine lv_iload hx hb dX9_openFrom_31 (lv_at hl 4 rfl) ?_
          refine o_callq (o_runV (As := [.int (nI k)]) (rest := [.int (nI w)]) ⟨hx, hb, hml, hown, hu⟩ (c_Jx4a65c_get_915e3 l D cA B0 ad hal S d hI.1.1 0 k (by decide) (show k < S 7 0 by omega)) (gV_X9_109 (fun _ h => h)) (n0 := 1) rfl (by decide +kernel) rfl ⟨Nat.le_of_ble_eq_true rfl, Nat.le_of_ble_eq_true rfl⟩ (o_recv hK hW (hA.li (by omega)) (kX_4 _ _ _ _) rfl) hK hW hB hS hl.1 rfl (lv_room (Nat.le_of_ble_eq_true rfl)) ⟨Nat.zero_le _, Nat.zero_le _⟩ dX9_openFrom_33) hS (fun r_9 d_8 q_10 H locs hW hS => ?_)
          obtain ⟨rfl, rfl⟩ := q_10
          refine W.eq (g2 := F0 m 36 ls [.ref (ad.1 6 k), .int (nI w)]) rfl ?_
          refine x_cast hx hb hu hown uL_X9_113 hK hW (hA.pier (by omega)) (kX_6 _ _ _ _) rfl dX9_openFrom_36 ?_
          refine lv_iload_n hx hb dX9_openFrom_39 rfl (lv_at hl 2 rfl) ?_
          refine o_calli (o_runS (As := [.ref (ad.1 6 k), .int (nI dd)]) (rest := [.int (nI w)]) ⟨hx, hb, hml, hown, hu⟩ (c_X9_pierOpenFrom l D cA B0 ad hal S d hI.1 k dd (by omega) (by omega) ((hKP.1 k (by omega)).2)) (gS_X9_334 (fun _ h => h)) (n0 := 2) rfl (by decide +kernel) rfl ⟨Nat.le_of_ble_eq_true rfl, Nat.le_of_ble_eq_true rfl⟩ hK hW hB hS hl.1 rfl (lv_room (Nat.le_of_ble_eq_true rfl)) ⟨Nat.zero_le _, Nat.zero_le _⟩ dX9_openFrom_40) hS (fun r_12 d_11 q_13 H locs hW hS => ?_)
          obtain ⟨rfl, hq, hF1⟩ := q_13
          have hI := hI.trans hq
          have hKP := hKP.fr hq.2
          refine va_mmax hx hb (hml.trans hl.1.symm) hown (hu _ uM_X9_98) (hu _ uT_J9_max_7cf53) (hu _ uI_J9) (hu _ uC_J9_max_7cf53) (Nat.le_of_ble_eq_true rfl) (Nat.le_of_ble_eq_true rfl) (Nat.le_of_ble_eq_true rfl) (Nat.le_of_ble_eq_true rfl) dX9_openFrom_43 ?_
          refine n_topi (y := nI (max w (opP S k dd))) (n_max (by omega) (by omega)) ?_
          refine lv_istore_n (lv' := [(3, .int (nI (max w (opP S k dd)))), (0, .ref (ad.1 0 0)), (1, .ref (ad.1 9 bb)), (2, .int (nI dd)), (4, .int (nI k))]) hx hb dX9_openFrom_46 rfl hl (by decide) rfl (fun ls hl => ?_)
          refine n_iinc (q := 1) (lv' := [(4, .int (nI (k + 1))), (3, .int (nI (max w (opP S k dd)))), (0, .ref (ad.1 0 0)), (1, .ref (ad.1 9 bb)), (2, .int (nI dd))]) hx hb dX9_openFrom_47 hl (k := 4) rfl (by decide) (by decide) rfl (fun ls hl => ?_)
          refine lv_goto (tgt := 5) hx hb dX9_openFrom_50 (by decide) ?_
          exact ih_lp5 (max w (opP S k dd)) (k + 1) d_11 _ _ ls (by omega) (by omega) hI hKP (by rw [hst, ← hw]) hW hS (lv_sub hl [2, 3, 4, 1, 0] rfl)
  exact lp5 (S 7 0 + 1) 0 0 d0 _ _ ls (by omega) (by omega) hI hKP rfl hW hS (lv_sub hl [2, 3, 4, 1, 0] rfl)

set_option maxHeartbeats 400000 in
set_option maxRecDepth 100000 in
theorem c_X9_shut (l : Launch) (D : va_G) (cA : Nat → ClassId) (B0 : Nat) (ad : kA) (hal : mAl ad) (S : sS) (sr : Nat → Int32) (d0 : kD) (hM : InvX cA ad S d0) (hR : RowX S sr d0) (bi day si : Int32) : oM l yX9_shut wX9_shut 7 0 0 D cA B0 ad d0 ([.ref (ad.1 0 0), .int bi, .int day, .int si] : List Value) (oQi D cA B0 ad (fun r d1 => r = aShut S bi day si ∧ PX cA ad S sr d0 d1)) := by
  refine o_ofW (cc := cX9_shut) (maxL := 5) (ret := some .int) (by decide) rfl (Nat.le_of_ble_eq_true rfl) ?_
  intro p e s m below meth c hx hb hr hml hts hown hlocks hnm hK hW hB hS ls hl
  have hu : ∀ w ∈ UW, w.before _ s = true := fun w h => hts w (uw_c w h)
  have hl : lv_has ls 5 [(0, .ref (ad.1 0 0)), (1, .int bi), (2, .int day), (3, .int si)] := hl
  have hX := hM.1
  have hA := hX.1
  have hG := hX.2.2
  have hb7 : S 7 0 ≤ 8 := hG.f 7 (mx := 8) (by decide)
  have hb11 : S 11 0 ≤ 20 := hG.f 11 (mx := 20) (by decide)
  have hb18 : S 18 0 ≤ 40 := hG.f 18 (mx := 40) (by decide)
  have hI : XX cA ad S d0 d0 := XX.start hM
  have hb1 : S 1 0 ≤ 4 := hG.f 1 (mx := 4) (by decide)
  have hb19 : S 19 0 ≤ 399 := hG.f 19 (mx := 399) (by decide)
  have hb22 : S 22 0 ≤ 64 := hG.f 22 (mx := 64) (by decide)
  have hb25 : S 25 0 ≤ 4 := hG.f 25 (mx := 4) (by decide)
  have hb30 : S 30 0 ≤ 10 := hG.f 30 (mx := 10) (by decide)
  have hb32 : S 32 0 ≤ 64 := hG.f 32 (mx := 64) (by decide)
  refine lv_aload_n hx hb dX9_shut_0 rfl (lv_at hl 0 rfl) ?_
  refine lv_iload_n hx hb dX9_shut_1 rfl (lv_at hl 1 rfl) ?_
  refine o_callq (o_runV (As := [.int bi]) (rest := []) ⟨hx, hb, hml, hown, hu⟩ (c_X9_bridgeOf l D cA B0 ad hal S d0 hI.1.1 bi) (gV_X9_297 (fun _ h => h)) (n0 := 1) rfl (by decide +kernel) rfl ⟨Nat.le_of_ble_eq_true rfl, Nat.le_of_ble_eq_true rfl⟩ (o_recv hK hW (hA.o (k := 0) rfl) (kX_0 _ _ _ _) rfl) hK hW hB hS hl.1 rfl (lv_room (Nat.le_of_ble_eq_true rfl)) ⟨Nat.zero_le _, Nat.zero_le _⟩ dX9_shut_2) hS (fun r_2 d_1 q_3 H locs hW hS => ?_)
  obtain ⟨rfl, rfl⟩ := q_3
  cases o_4 : ix bi (S 25 0) with
  | false =>
    refine W.eq (g2 := F0 m 5 ls [.null]) rfl ?_
    refine lv_astoreN (lv' := [(4, .null), (0, .ref (ad.1 0 0)), (1, .int bi), (2, .int day), (3, .int si)]) hx hb dX9_shut_5 hl (by decide) rfl (fun ls hl => ?_)
    refine lv_aloadN hx hb dX9_shut_7 (lv_at hl 0 rfl) ?_
    refine lv_ifnullN (tgt := 30) hx hb dX9_shut_9 (by decide) ?_
    refine lv_iconst (v := -1) hx hb dX9_shut_30 (by decide) ?_
    exact o_iret hx hb hr hlocks hW hS (⟨by first | (simp only [aShut, o_4, eq_self, ↓reduceIte, Bool.false_eq_true]; done) | (simp only [aShut, o_4, eq_self, ↓reduceIte, Bool.false_eq_true]; rfl), hI.pub hR⟩) dX9_shut_31
  | true =>
    obtain ⟨bin, hbin, rfl⟩ := ix_t o_4 (by omega)
    refine W.eq (g2 := F0 m 5 ls [.ref (ad.1 9 bin)]) (by rw [if_pos rfl, nx_nI (by omega)]; rfl) ?_
    refine lv_astore (lv' := [(4, .ref (ad.1 9 bin)), (0, .ref (ad.1 0 0)), (1, .int (nI bin)), (2, .int day), (3, .int si)]) hx hb dX9_shut_5 hl (by decide) rfl (fun ls hl => ?_)
    refine lv_aload hx hb dX9_shut_7 (lv_at hl 0 rfl) ?_
    refine lv_ifnull hx hb dX9_shut_9 ?_
    refine lv_iload_n hx hb dX9_shut_12 rfl (lv_at hl 3 rfl) ?_
    refine o_calli (o_runS (As := [.int day]) (rest := []) ⟨hx, hb, hml, hown, hu⟩ (c_X9_isDay l D cA B0 ad hal d0 day) (gS_X9_81 (fun _ h => h)) (n0 := 1) rfl (by decide +kernel) rfl ⟨Nat.le_of_ble_eq_true rfl, Nat.le_of_ble_eq_true rfl⟩ hK hW hB hS hl.1 rfl (lv_room (Nat.le_of_ble_eq_true rfl)) ⟨Nat.zero_le _, Nat.zero_le _⟩ dX9_shut_13) hS (fun r_6 d_5 q_7 H locs hW hS => ?_)
    obtain ⟨rfl, rfl⟩ := q_7
    refine lv_if_eq (tgt := 30) hx hb dX9_shut_16 (by decide) (fun c_8 => ?_) (fun c_8 => ?_)
    · refine lv_iconst (v := -1) hx hb dX9_shut_30 (by decide) ?_
      exact o_iret hx hb hr hlocks hW hS (⟨by first | (simp only [aShut, ix_nI hbin (by omega), nx_nI (j := bin) (by omega), bI_z c_8, eq_self, ↓reduceIte, Bool.false_eq_true]; done) | (simp only [aShut, ix_nI hbin (by omega), nx_nI (j := bin) (by omega), bI_z c_8, eq_self, ↓reduceIte, Bool.false_eq_true]; rfl), hI.pub hR⟩) dX9_shut_31
    · obtain ⟨dayn, hdayn, rfl⟩ := ix_t (bI_n c_8) (by omega)
      refine lv_iload_n hx hb dX9_shut_19 rfl (lv_at hl 4 rfl) ?_
      refine n_iconst (v := 0) hx hb dX9_shut_20 (by decide) ?_
      refine n_sipush (v := 1000) hx hb dX9_shut_21 (by decide) ?_
      refine o_calli (o_runS (As := [.int si, .int (nI 0), .int (nI 1000)]) (rest := []) ⟨hx, hb, hml, hown, hu⟩ (c_X9_within l D cA B0 ad hal d0 si (nI 0) (nI 1000)) (gS_X9_85 (fun _ h => h)) (n0 := 3) rfl (by decide +kernel) rfl ⟨Nat.le_of_ble_eq_true rfl, Nat.le_of_ble_eq_true rfl⟩ hK hW hB hS hl.1 rfl (lv_room (Nat.le_of_ble_eq_true rfl)) ⟨Nat.zero_le _, Nat.zero_le _⟩ dX9_shut_24) hS (fun r_10 d_9 q_11 H locs hW hS => ?_)
      obtain ⟨rfl, rfl⟩ := q_11
      refine n_topi (y := bI (ix si 1001)) (in_ixc 1001 rfl (by decide)) ?_
      refine lv_if_ne (tgt := 32) hx hb dX9_shut_27 (by decide) (fun c_12 => ?_) (fun c_12 => ?_)
      · obtain ⟨sin, hsin, rfl⟩ := ix_t (bI_n c_12) (by omega)
        refine lv_aload_n hx hb dX9_shut_32 rfl (lv_at hl 1 rfl) ?_
        refine lv_iload_n hx hb dX9_shut_33 rfl (lv_at hl 3 rfl) ?_
        refine o_callv (o_runV (As := [.int (nI dayn)]) (rest := []) ⟨hx, hb, hml, hown, hu⟩ (c_X9_findKept l D cA B0 ad hal S d0 hI.1 dayn (by omega)) (gV_X9_160 (fun _ h => h)) (n0 := 1) rfl (by decide +kernel) rfl ⟨Nat.le_of_ble_eq_true rfl, Nat.le_of_ble_eq_true rfl⟩ (o_recv hK hW (hA.o (k := 0) rfl) (kX_0 _ _ _ _) rfl) hK hW hB hS hl.1 rfl (lv_room (Nat.le_of_ble_eq_true rfl)) ⟨Nat.zero_le _, Nat.zero_le _⟩ dX9_shut_34) hS (fun d_13 q_15 H locs hW hS => ?_)
        obtain ⟨hq, hKP⟩ := q_15
        have hI := hI.k hq
        refine lv_iload_n hx hb dX9_shut_37 rfl (lv_at hl 4 rfl) ?_
        refine lv_aload_n hx hb dX9_shut_38 rfl (lv_at hl 1 rfl) ?_
        refine lv_aload hx hb dX9_shut_39 (lv_at hl 0 rfl) ?_
        refine lv_iload_n hx hb dX9_shut_41 rfl (lv_at hl 3 rfl) ?_
        refine o_calli (o_runV (As := [.ref (ad.1 9 bin), .int (nI dayn)]) (rest := [.int (nI sin)]) ⟨hx, hb, hml, hown, hu⟩ (c_X9_openFrom l D cA B0 ad hal S d_13 hI.1 bin dayn (by omega) (by omega) hKP) (gV_X9_301 (fun _ h => h)) (n0 := 2) rfl (by decide +kernel) rfl ⟨Nat.le_of_ble_eq_true rfl, Nat.le_of_ble_eq_true rfl⟩ (o_recv hK hW (hA.o (k := 0) rfl) (kX_0 _ _ _ _) rfl) hK hW hB hS hl.1 rfl (lv_room (Nat.le_of_ble_eq_true rfl)) ⟨Nat.zero_le _, Nat.zero_le _⟩ dX9_shut_42) hS (fun r_17 d_16 q_18 H locs hW hS => ?_)
        obtain ⟨rfl, hq⟩ := q_18
        have hI := hI.w hq
        have hKP := hKP.fr hq.2
        have hol := opL_le S bin dayn (S 7 0)
        refine n_icmp_ge (tgt := 52) hx hb (by omega) (by omega) dX9_shut_45 (by decide) (fun c_s => ?_) (fun c_s => ?_)
        · have hss : sShut S bin dayn sin = false := by rw [shut_op (by omega)]; exact decide_eq_false (by omega)
          refine n_iconst (v := 0) hx hb dX9_shut_52 (by decide) ?_
          exact o_iret hx hb hr hlocks hW hS (⟨by first | (simp only [aShut, ix_nI hbin (by omega), nx_nI (j := bin) (by omega), ix_nI hdayn (by omega), nx_nI (j := dayn) (by omega), ix_nI hsin (by omega), nx_nI (j := sin) (by omega), hss, eq_self, ↓reduceIte, Bool.false_eq_true]; done) | (simp only [aShut, ix_nI hbin (by omega), nx_nI (j := bin) (by omega), ix_nI hdayn (by omega), nx_nI (j := dayn) (by omega), ix_nI hsin (by omega), nx_nI (j := sin) (by omega), hss, eq_self, ↓reduceIte, Bool.false_eq_true]; rfl), hI.pub hR⟩) dX9_shut_53
        · have hss : sShut S bin dayn sin = true := by rw [shut_op (by omega)]; exact decide_eq_true (by omega)
          refine n_iconst (v := 1) hx hb dX9_shut_48 (by decide) ?_
          refine lv_goto (tgt := 53) hx hb dX9_shut_49 (by decide) ?_
          exact o_iret hx hb hr hlocks hW hS (⟨by first | (simp only [aShut, ix_nI hbin (by omega), nx_nI (j := bin) (by omega), ix_nI hdayn (by omega), nx_nI (j := dayn) (by omega), ix_nI hsin (by omega), nx_nI (j := sin) (by omega), hss, eq_self, ↓reduceIte, Bool.false_eq_true]; done) | (simp only [aShut, ix_nI hbin (by omega), nx_nI (j := bin) (by omega), ix_nI hdayn (by omega), nx_nI (j := dayn) (by omega), ix_nI hsin (by omega), nx_nI (j := sin) (by omega), hss, eq_self, ↓reduceIte, Bool.false_eq_true]; rfl), hI.pub hR⟩) dX9_shut_53
      · refine lv_iconst (v := -1) hx hb dX9_shut_30 (by decide) ?_
        exact o_iret hx hb hr hlocks hW hS (⟨by first | (simp only [aShut, ix_nI hbin (by omega), nx_nI (j := bin) (by omega), ix_nI hdayn (by omega), nx_nI (j := dayn) (by omega), bI_z c_12, eq_self, ↓reduceIte, Bool.false_eq_true]; done) | (simp only [aShut, ix_nI hbin (by omega), nx_nI (j := bin) (by omega), ix_nI hdayn (by omega), nx_nI (j := dayn) (by omega), bI_z c_12, eq_self, ↓reduceIte, Bool.false_eq_true]; rfl), hI.pub hR⟩) dX9_shut_31

set_option maxHeartbeats 400000 in
set_option maxRecDepth 100000 in
theorem c_X9_state (l : Launch) (D : va_G) (cA : Nat → ClassId) (B0 : Nat) (ad : kA) (hal : mAl ad) (S : sS) (sr : Nat → Int32) (d0 : kD) (hM : InvX cA ad S d0) (hR : RowX S sr d0) (pi day : Int32) : oM l yX9_state wX9_state 6 0 0 D cA B0 ad d0 ([.ref (ad.1 0 0), .int pi, .int day] : List Value) (oQi D cA B0 ad (fun r d1 => r = aState S pi day ∧ PX cA ad S sr d0 d1)) := by
  refine o_ofW (cc := cX9_state) (maxL := 5) (ret := some .int) (by decide) rfl (Nat.le_of_ble_eq_true rfl) ?_
  intro p e s m below meth c hx hb hr hml hts hown hlocks hnm hK hW hB hS ls hl
  have hu : ∀ w ∈ UW, w.before _ s = true := fun w h => hts w (uw_c w h)
  have hl : lv_has ls 5 [(0, .ref (ad.1 0 0)), (1, .int pi), (2, .int day)] := hl
  have hX := hM.1
  have hA := hX.1
  have hG := hX.2.2
  have hb7 : S 7 0 ≤ 8 := hG.f 7 (mx := 8) (by decide)
  have hb11 : S 11 0 ≤ 20 := hG.f 11 (mx := 20) (by decide)
  have hb18 : S 18 0 ≤ 40 := hG.f 18 (mx := 40) (by decide)
  have hI : XX cA ad S d0 d0 := XX.start hM
  have hb1 : S 1 0 ≤ 4 := hG.f 1 (mx := 4) (by decide)
  have hb19 : S 19 0 ≤ 399 := hG.f 19 (mx := 399) (by decide)
  have hb22 : S 22 0 ≤ 64 := hG.f 22 (mx := 64) (by decide)
  have hb25 : S 25 0 ≤ 4 := hG.f 25 (mx := 4) (by decide)
  have hb30 : S 30 0 ≤ 10 := hG.f 30 (mx := 10) (by decide)
  have hb32 : S 32 0 ≤ 64 := hG.f 32 (mx := 64) (by decide)
  refine lv_aload_n hx hb dX9_state_0 rfl (lv_at hl 0 rfl) ?_
  refine lv_iload_n hx hb dX9_state_1 rfl (lv_at hl 1 rfl) ?_
  refine o_callq (o_runV (As := [.int pi]) (rest := []) ⟨hx, hb, hml, hown, hu⟩ (c_X9_pierOf l D cA B0 ad hal S d0 hI.1.1 pi) (gV_X9_126 (fun _ h => h)) (n0 := 1) rfl (by decide +kernel) rfl ⟨Nat.le_of_ble_eq_true rfl, Nat.le_of_ble_eq_true rfl⟩ (o_recv hK hW (hA.o (k := 0) rfl) (kX_0 _ _ _ _) rfl) hK hW hB hS hl.1 rfl (lv_room (Nat.le_of_ble_eq_true rfl)) ⟨Nat.zero_le _, Nat.zero_le _⟩ dX9_state_2) hS (fun r_2 d_1 q_3 H locs hW hS => ?_)
  obtain ⟨rfl, rfl⟩ := q_3
  cases o_4 : ix pi (S 7 0) with
  | false =>
    refine W.eq (g2 := F0 m 5 ls [.null]) rfl ?_
    refine lv_astore_nN (lv' := [(3, .null), (0, .ref (ad.1 0 0)), (1, .int pi), (2, .int day)]) hx hb dX9_state_5 rfl hl (by decide) rfl (fun ls hl => ?_)
    refine lv_aload_nN hx hb dX9_state_6 rfl (lv_at hl 0 rfl) ?_
    refine lv_ifnullN (tgt := 17) hx hb dX9_state_7 (by decide) ?_
    refine lv_iconst (v := -1) hx hb dX9_state_17 (by decide) ?_
    exact o_iret hx hb hr hlocks hW hS (⟨by first | (simp only [aState, o_4, eq_self, ↓reduceIte, Bool.false_eq_true]; done) | (simp only [aState, o_4, eq_self, ↓reduceIte, Bool.false_eq_true]; rfl), hI.pub hR⟩) dX9_state_18
  | true =>
    obtain ⟨pin, hpin, rfl⟩ := ix_t o_4 (by omega)
    refine W.eq (g2 := F0 m 5 ls [.ref (ad.1 6 pin)]) (by rw [if_pos rfl, nx_nI (by omega)]; rfl) ?_
    refine lv_astore_n (lv' := [(3, .ref (ad.1 6 pin)), (0, .ref (ad.1 0 0)), (1, .int (nI pin)), (2, .int day)]) hx hb dX9_state_5 rfl hl (by decide) rfl (fun ls hl => ?_)
    refine lv_aload_n hx hb dX9_state_6 rfl (lv_at hl 0 rfl) ?_
    refine lv_ifnull hx hb dX9_state_7 ?_
    refine lv_iload_n hx hb dX9_state_10 rfl (lv_at hl 3 rfl) ?_
    refine o_calli (o_runS (As := [.int day]) (rest := []) ⟨hx, hb, hml, hown, hu⟩ (c_X9_isDay l D cA B0 ad hal d0 day) (gS_X9_81 (fun _ h => h)) (n0 := 1) rfl (by decide +kernel) rfl ⟨Nat.le_of_ble_eq_true rfl, Nat.le_of_ble_eq_true rfl⟩ hK hW hB hS hl.1 rfl (lv_room (Nat.le_of_ble_eq_true rfl)) ⟨Nat.zero_le _, Nat.zero_le _⟩ dX9_state_11) hS (fun r_6 d_5 q_7 H locs hW hS => ?_)
    obtain ⟨rfl, rfl⟩ := q_7
    refine lv_if_ne (tgt := 19) hx hb dX9_state_14 (by decide) (fun c_8 => ?_) (fun c_8 => ?_)
    · obtain ⟨dayn, hdayn, rfl⟩ := ix_t (bI_n c_8) (by omega)
      refine lv_aload_n hx hb dX9_state_19 rfl (lv_at hl 1 rfl) ?_
      refine lv_aload_n hx hb dX9_state_20 rfl (lv_at hl 1 rfl) ?_
      refine x_gi hx hb hu in_X9 hown hK hW (hA.o (k := 0) rfl) (kX_0 _ _ _ _) rfl 15 (by decide) uF_X9_78 dX9_state_21 ?_
      refine n_topi (y := nI (S 19 0)) (hI.1.1.2.1.as) ?_
      have b_9 : S 19 0 ≤ 399 := hG.f 19 (mx := 399) (by decide)
      refine o_callv (o_runV (As := [.int (nI (S 19 0))]) (rest := []) ⟨hx, hb, hml, hown, hu⟩ (c_X9_findKept l D cA B0 ad hal S d0 hI.1 (S 19 0) (by omega)) (gV_X9_160 (fun _ h => h)) (n0 := 1) rfl (by decide +kernel) rfl ⟨Nat.le_of_ble_eq_true rfl, Nat.le_of_ble_eq_true rfl⟩ (o_recv hK hW (hA.o (k := 0) rfl) (kX_0 _ _ _ _) rfl) hK hW hB hS hl.1 rfl (lv_room (Nat.le_of_ble_eq_true rfl)) ⟨Nat.zero_le _, Nat.zero_le _⟩ dX9_state_24) hS (fun d_10 q_12 H locs hW hS => ?_)
      obtain ⟨hq, hKP⟩ := q_12
      have hI := hI.k hq
      refine lv_aload_n hx hb dX9_state_27 rfl (lv_at hl 0 rfl) ?_
      refine x_gl hx hb hu in_X5 hown hK hW (hA.pier (by omega)) (kX_6 _ _ _ _) rfl 12 (by decide) uF_X9_171 dX9_state_28 ?_
      refine n_topl (y := (sKept S pin (S 19 0))) ((hKP.1 pin (by omega)).2) ?_
      refine lv_lconst (v := 0) hx hb dX9_state_31 (by decide) ?_
      refine W.lcmp hx hb dX9_state_32 ?_
      refine lv_if_ne (tgt := 38) hx hb dX9_state_33 (by decide) (fun c_z => ?_) (fun c_z => ?_)
      · have hz : ¬ (sKept S pin (S 19 0)) = 0 := lg0n c_z
        refine n_iconst (v := 0) hx hb dX9_state_38 (by decide) ?_
        refine lv_istore (lv' := [(4, .int (nI 0)), (3, .ref (ad.1 6 pin)), (0, .ref (ad.1 0 0)), (1, .int (nI pin)), (2, .int (nI dayn))]) hx hb dX9_state_39 hl (by decide) rfl (fun ls hl => ?_)
        refine lv_iload hx hb dX9_state_41 (lv_at hl 0 rfl) ?_
        refine n_iconst (v := 2) hx hb dX9_state_43 (by decide) ?_
        refine n_icmp_gt (tgt := 71) hx hb (by omega) (by omega) dX9_state_44 (by decide) (fun c_k0 => ?_) (fun c_k0 => ?_)
        · exfalso; omega
        · refine lv_aload_n hx hb dX9_state_47 rfl (lv_at hl 1 rfl) ?_
          refine lv_iload_n hx hb dX9_state_48 rfl (lv_at hl 4 rfl) ?_
          refine lv_iload hx hb dX9_state_49 (lv_at hl 0 rfl) ?_
          refine o_calll (o_runV (As := [.int (nI dayn), .int (nI 0)]) (rest := []) ⟨hx, hb, hml, hown, hu⟩ (c_X5_mindsInState l D cA B0 ad hal S d_10 hI.1 pin dayn 0 (sKept S pin (S 19 0)) (by omega) (by omega) (by omega) ((hKP.1 pin (by omega)).2)) (gV_X9_237 (fun _ h => h)) (n0 := 2) rfl (by decide +kernel) rfl ⟨Nat.le_of_ble_eq_true rfl, Nat.le_of_ble_eq_true rfl⟩ (o_recv hK hW (hA.pier (by omega)) (kX_6 _ _ _ _) rfl) hK hW hB hS hl.1 rfl (lv_room (Nat.le_of_ble_eq_true rfl)) ⟨Nat.zero_le _, Nat.zero_le _⟩ dX9_state_51) hS (fun r_14 d_13 q_15 H locs hW hS => ?_)
          obtain ⟨rfl, hq, hF1⟩ := q_15
          have hI := hI.w hq
          have hKP := hKP.fr hq.2
          refine lv_aload_n hx hb dX9_state_54 rfl (lv_at hl 1 rfl) ?_
          refine x_gl hx hb hu in_X5 hown hK hW (hA.pier (by omega)) (kX_6 _ _ _ _) rfl 12 (by decide) uF_X9_171 dX9_state_55 ?_
          refine n_topl (y := (sKept S pin (S 19 0))) ((hKP.1 pin (by omega)).2) ?_
          refine W.lcmp hx hb dX9_state_58 ?_
          refine lv_if_ne (tgt := 65) hx hb dX9_state_59 (by decide) (fun c_s0 => ?_) (fun c_s0 => ?_)
          · have hs0 : ¬ sSt S pin (sKept S pin (S 19 0)) dayn 0 = (sKept S pin (S 19 0)) := lgcn c_s0
            refine n_iinc (q := 1) (lv' := [(4, .int (nI (0 + 1))), (3, .ref (ad.1 6 pin)), (0, .ref (ad.1 0 0)), (1, .int (nI pin)), (2, .int (nI dayn))]) hx hb dX9_state_65 hl (k := 0) rfl (by decide) (by decide) rfl (fun ls hl => ?_)
            refine lv_goto (tgt := 41) hx hb dX9_state_68 (by decide) ?_
            refine lv_iload hx hb dX9_state_41 (lv_at hl 0 rfl) ?_
            refine n_iconst (v := 2) hx hb dX9_state_43 (by decide) ?_
            refine n_icmp_gt (tgt := 71) hx hb (by omega) (by omega) dX9_state_44 (by decide) (fun c_k1 => ?_) (fun c_k1 => ?_)
            · exfalso; omega
            · refine lv_aload_n hx hb dX9_state_47 rfl (lv_at hl 1 rfl) ?_
              refine lv_iload_n hx hb dX9_state_48 rfl (lv_at hl 4 rfl) ?_
              refine lv_iload hx hb dX9_state_49 (lv_at hl 0 rfl) ?_
              refine o_calll (o_runV (As := [.int (nI dayn), .int (nI (0 + 1))]) (rest := []) ⟨hx, hb, hml, hown, hu⟩ (c_X5_mindsInState l D cA B0 ad hal S d_13 hI.1 pin dayn (0 + 1) (sKept S pin (S 19 0)) (by omega) (by omega) (by omega) ((hKP.1 pin (by omega)).2)) (gV_X9_237 (fun _ h => h)) (n0 := 2) rfl (by decide +kernel) rfl ⟨Nat.le_of_ble_eq_true rfl, Nat.le_of_ble_eq_true rfl⟩ (o_recv hK hW (hA.pier (by omega)) (kX_6 _ _ _ _) rfl) hK hW hB hS hl.1 rfl (lv_room (Nat.le_of_ble_eq_true rfl)) ⟨Nat.zero_le _, Nat.zero_le _⟩ dX9_state_51) hS (fun r_17 d_16 q_18 H locs hW hS => ?_)
              obtain ⟨rfl, hq, hF1⟩ := q_18
              have hI := hI.w hq
              have hKP := hKP.fr hq.2
              refine lv_aload_n hx hb dX9_state_54 rfl (lv_at hl 1 rfl) ?_
              refine x_gl hx hb hu in_X5 hown hK hW (hA.pier (by omega)) (kX_6 _ _ _ _) rfl 12 (by decide) uF_X9_171 dX9_state_55 ?_
              refine n_topl (y := (sKept S pin (S 19 0))) ((hKP.1 pin (by omega)).2) ?_
              refine W.lcmp hx hb dX9_state_58 ?_
              refine lv_if_ne (tgt := 65) hx hb dX9_state_59 (by decide) (fun c_s1 => ?_) (fun c_s1 => ?_)
              · have hs1 : ¬ sSt S pin (sKept S pin (S 19 0)) dayn 1 = (sKept S pin (S 19 0)) := lgcn c_s1
                refine n_iinc (q := 1) (lv' := [(4, .int (nI (0 + 1 + 1))), (3, .ref (ad.1 6 pin)), (0, .ref (ad.1 0 0)), (1, .int (nI pin)), (2, .int (nI dayn))]) hx hb dX9_state_65 hl (k := 0) rfl (by decide) (by decide) rfl (fun ls hl => ?_)
                refine lv_goto (tgt := 41) hx hb dX9_state_68 (by decide) ?_
                refine lv_iload hx hb dX9_state_41 (lv_at hl 0 rfl) ?_
                refine n_iconst (v := 2) hx hb dX9_state_43 (by decide) ?_
                refine n_icmp_gt (tgt := 71) hx hb (by omega) (by omega) dX9_state_44 (by decide) (fun c_k2 => ?_) (fun c_k2 => ?_)
                · exfalso; omega
                · refine lv_aload_n hx hb dX9_state_47 rfl (lv_at hl 1 rfl) ?_
                  refine lv_iload_n hx hb dX9_state_48 rfl (lv_at hl 4 rfl) ?_
                  refine lv_iload hx hb dX9_state_49 (lv_at hl 0 rfl) ?_
                  refine o_calll (o_runV (As := [.int (nI dayn), .int (nI (0 + 1 + 1))]) (rest := []) ⟨hx, hb, hml, hown, hu⟩ (c_X5_mindsInState l D cA B0 ad hal S d_16 hI.1 pin dayn (0 + 1 + 1) (sKept S pin (S 19 0)) (by omega) (by omega) (by omega) ((hKP.1 pin (by omega)).2)) (gV_X9_237 (fun _ h => h)) (n0 := 2) rfl (by decide +kernel) rfl ⟨Nat.le_of_ble_eq_true rfl, Nat.le_of_ble_eq_true rfl⟩ (o_recv hK hW (hA.pier (by omega)) (kX_6 _ _ _ _) rfl) hK hW hB hS hl.1 rfl (lv_room (Nat.le_of_ble_eq_true rfl)) ⟨Nat.zero_le _, Nat.zero_le _⟩ dX9_state_51) hS (fun r_20 d_19 q_21 H locs hW hS => ?_)
                  obtain ⟨rfl, hq, hF1⟩ := q_21
                  have hI := hI.w hq
                  have hKP := hKP.fr hq.2
                  refine lv_aload_n hx hb dX9_state_54 rfl (lv_at hl 1 rfl) ?_
                  refine x_gl hx hb hu in_X5 hown hK hW (hA.pier (by omega)) (kX_6 _ _ _ _) rfl 12 (by decide) uF_X9_171 dX9_state_55 ?_
                  refine n_topl (y := (sKept S pin (S 19 0))) ((hKP.1 pin (by omega)).2) ?_
                  refine W.lcmp hx hb dX9_state_58 ?_
                  refine lv_if_ne (tgt := 65) hx hb dX9_state_59 (by decide) (fun c_s2 => ?_) (fun c_s2 => ?_)
                  · have hs2 : ¬ sSt S pin (sKept S pin (S 19 0)) dayn 2 = (sKept S pin (S 19 0)) := lgcn c_s2
                    refine n_iinc (q := 1) (lv' := [(4, .int (nI (0 + 1 + 1 + 1))), (3, .ref (ad.1 6 pin)), (0, .ref (ad.1 0 0)), (1, .int (nI pin)), (2, .int (nI dayn))]) hx hb dX9_state_65 hl (k := 0) rfl (by decide) (by decide) rfl (fun ls hl => ?_)
                    refine lv_goto (tgt := 41) hx hb dX9_state_68 (by decide) ?_
                    refine lv_iload hx hb dX9_state_41 (lv_at hl 0 rfl) ?_
                    refine n_iconst (v := 2) hx hb dX9_state_43 (by decide) ?_
                    refine n_icmp_gt (tgt := 71) hx hb (by omega) (by omega) dX9_state_44 (by decide) (fun c_k3 => ?_) (fun c_k3 => ?_)
                    · refine n_iconst (v := 3) hx hb dX9_state_71 (by decide) ?_
                      exact o_iret hx hb hr hlocks hW hS (⟨by simp only [aState, ix_nI hpin (by omega), nx_nI (j := pin) (by omega), ix_nI hdayn (by omega), nx_nI (j := dayn) (by omega), hz, eq_self, ↓reduceIte, Bool.false_eq_true]; rw [st_many hz hs0 hs1 hs2], hI.pub hR⟩) dX9_state_72
                    · exfalso; omega
                  · have hs2 : sSt S pin (sKept S pin (S 19 0)) dayn 2 = (sKept S pin (S 19 0)) := lgc c_s2
                    refine lv_iload hx hb dX9_state_62 (lv_at hl 0 rfl) ?_
                    exact o_iret hx hb hr hlocks hW hS (⟨by simp only [aState, ix_nI hpin (by omega), nx_nI (j := pin) (by omega), ix_nI hdayn (by omega), nx_nI (j := dayn) (by omega), hz, eq_self, ↓reduceIte, Bool.false_eq_true]; rw [st_one hz hs2], hI.pub hR⟩) dX9_state_64
              · have hs1 : sSt S pin (sKept S pin (S 19 0)) dayn 1 = (sKept S pin (S 19 0)) := lgc c_s1
                refine lv_iload hx hb dX9_state_62 (lv_at hl 0 rfl) ?_
                exact o_iret hx hb hr hlocks hW hS (⟨by simp only [aState, ix_nI hpin (by omega), nx_nI (j := pin) (by omega), ix_nI hdayn (by omega), nx_nI (j := dayn) (by omega), hz, eq_self, ↓reduceIte, Bool.false_eq_true]; rw [st_one hz hs1], hI.pub hR⟩) dX9_state_64
          · have hs0 : sSt S pin (sKept S pin (S 19 0)) dayn 0 = (sKept S pin (S 19 0)) := lgc c_s0
            refine lv_iload hx hb dX9_state_62 (lv_at hl 0 rfl) ?_
            exact o_iret hx hb hr hlocks hW hS (⟨by simp only [aState, ix_nI hpin (by omega), nx_nI (j := pin) (by omega), ix_nI hdayn (by omega), nx_nI (j := dayn) (by omega), hz, eq_self, ↓reduceIte, Bool.false_eq_true]; rw [st_one hz hs0], hI.pub hR⟩) dX9_state_64
      · have hz : (sKept S pin (S 19 0)) = 0 := lg0 c_z
        refine n_iconst (v := 4) hx hb dX9_state_36 (by decide) ?_
        exact o_iret hx hb hr hlocks hW hS (⟨by first | (simp only [aState, ix_nI hpin (by omega), nx_nI (j := pin) (by omega), ix_nI hdayn (by omega), nx_nI (j := dayn) (by omega), hz, eq_self, ↓reduceIte, Bool.false_eq_true]; done) | (simp only [aState, ix_nI hpin (by omega), nx_nI (j := pin) (by omega), ix_nI hdayn (by omega), nx_nI (j := dayn) (by omega), hz, eq_self, ↓reduceIte, Bool.false_eq_true]; rfl), hI.pub hR⟩) dX9_state_37
    · refine lv_iconst (v := -1) hx hb dX9_state_17 (by decide) ?_
      exact o_iret hx hb hr hlocks hW hS (⟨by first | (simp only [aState, ix_nI hpin (by omega), nx_nI (j := pin) (by omega), bI_z c_8, eq_self, ↓reduceIte, Bool.false_eq_true]; done) | (simp only [aState, ix_nI hpin (by omega), nx_nI (j := pin) (by omega), bI_z c_8, eq_self, ↓reduceIte, Bool.false_eq_true]; rfl), hI.pub hR⟩) dX9_state_18

set_option maxHeartbeats 400000 in
set_option maxRecDepth 100000 in
theorem c_X9_weighs (l : Launch) (D : va_G) (cA : Nat → ClassId) (B0 : Nat) (ad : kA) (hal : mAl ad) (S : sS) (sr : Nat → Int32) (d0 : kD) (hM : InvX cA ad S d0) (hR : RowX S sr d0) (li : Int32) : oM l yX9_weighs wX9_weighs 7 0 0 D cA B0 ad d0 ([.ref (ad.1 0 0), .int li] : List Value) (oQi D cA B0 ad (fun r d1 => r = aWeighs S li ∧ PX cA ad S sr d0 d1)) := by
  refine o_ofW (cc := cX9_weighs) (maxL := 7) (ret := some .int) (by decide) rfl (Nat.le_of_ble_eq_true rfl) ?_
  intro p e s m below meth c hx hb hr hml hts hown hlocks hnm hK hW hB hS ls hl
  have hu : ∀ w ∈ UW, w.before _ s = true := fun w h => hts w (uw_c w h)
  have hl : lv_has ls 7 [(0, .ref (ad.1 0 0)), (1, .int li)] := hl
  have hX := hM.1
  have hA := hX.1
  have hG := hX.2.2
  have hb7 : S 7 0 ≤ 8 := hG.f 7 (mx := 8) (by decide)
  have hb11 : S 11 0 ≤ 20 := hG.f 11 (mx := 20) (by decide)
  have hb18 : S 18 0 ≤ 40 := hG.f 18 (mx := 40) (by decide)
  have hI : XX cA ad S d0 d0 := XX.start hM
  have hb1 : S 1 0 ≤ 4 := hG.f 1 (mx := 4) (by decide)
  have hb19 : S 19 0 ≤ 399 := hG.f 19 (mx := 399) (by decide)
  have hb22 : S 22 0 ≤ 64 := hG.f 22 (mx := 64) (by decide)
  have hb25 : S 25 0 ≤ 4 := hG.f 25 (mx := 4) (by decide)
  have hb30 : S 30 0 ≤ 10 := hG.f 30 (mx := 10) (by decide)
  have hb32 : S 32 0 ≤ 64 := hG.f 32 (mx := 64) (by decide)
  refine lv_aload_n hx hb dX9_weighs_0 rfl (lv_at hl 0 rfl) ?_
  refine lv_iload_n hx hb dX9_weighs_1 rfl (lv_at hl 1 rfl) ?_
  refine o_callq (o_runV (As := [.int li]) (rest := []) ⟨hx, hb, hml, hown, hu⟩ (c_X9_lookOf l D cA B0 ad hal S d0 hI.1.1 li) (gV_X9_222 (fun _ h => h)) (n0 := 1) rfl (by decide +kernel) rfl ⟨Nat.le_of_ble_eq_true rfl, Nat.le_of_ble_eq_true rfl⟩ (o_recv hK hW (hA.o (k := 0) rfl) (kX_0 _ _ _ _) rfl) hK hW hB hS hl.1 rfl (lv_room (Nat.le_of_ble_eq_true rfl)) ⟨Nat.zero_le _, Nat.zero_le _⟩ dX9_weighs_2) hS (fun r_2 d_1 q_3 H locs hW hS => ?_)
  obtain ⟨rfl, rfl⟩ := q_3
  cases o_4 : ix li (S 18 0) with
  | false =>
    refine W.eq (g2 := F0 m 5 ls [.null]) rfl ?_
    refine lv_astore_nN (lv' := [(2, .null), (0, .ref (ad.1 0 0)), (1, .int li)]) hx hb dX9_weighs_5 rfl hl (by decide) rfl (fun ls hl => ?_)
    refine lv_aload_nN hx hb dX9_weighs_6 rfl (lv_at hl 0 rfl) ?_
    refine lv_ifnullN (tgt := 21) hx hb dX9_weighs_7 (by decide) ?_
    refine lv_iconst (v := -1) hx hb dX9_weighs_21 (by decide) ?_
    exact o_iret hx hb hr hlocks hW hS (⟨by first | (simp only [aWeighs, o_4, eq_self, ↓reduceIte, Bool.false_eq_true]; done) | (simp only [aWeighs, o_4, eq_self, ↓reduceIte, Bool.false_eq_true]; rfl), hI.pub hR⟩) dX9_weighs_22
  | true =>
    obtain ⟨lin, hlin, rfl⟩ := ix_t o_4 (by omega)
    refine W.eq (g2 := F0 m 5 ls [.ref (ad.1 8 lin)]) (by rw [if_pos rfl, nx_nI (by omega)]; rfl) ?_
    refine lv_astore_n (lv' := [(2, .ref (ad.1 8 lin)), (0, .ref (ad.1 0 0)), (1, .int (nI lin))]) hx hb dX9_weighs_5 rfl hl (by decide) rfl (fun ls hl => ?_)
    refine lv_aload_n hx hb dX9_weighs_6 rfl (lv_at hl 0 rfl) ?_
    refine lv_ifnull hx hb dX9_weighs_7 ?_
    refine lv_aload_n hx hb dX9_weighs_10 rfl (lv_at hl 0 rfl) ?_
    refine lv_aload_n hx hb dX9_weighs_11 rfl (lv_at hl 1 rfl) ?_
    refine x_gi hx hb hu in_X9 hown hK hW (hA.o (k := 0) rfl) (kX_0 _ _ _ _) rfl 15 (by decide) uF_X9_78 dX9_weighs_12 ?_
    refine n_topi (y := nI (S 19 0)) (hI.1.1.2.1.as) ?_
    have b_5 : S 19 0 ≤ 399 := hG.f 19 (mx := 399) (by decide)
    refine o_calli (o_runV (As := [.int (nI (S 19 0))]) (rest := []) ⟨hx, hb, hml, hown, hu⟩ (c_X2_isKnown l D cA B0 ad hal S d0 hI.1.1 lin (S 19 0) (by omega) (by omega)) (gV_X9_191 (fun _ h => h)) (n0 := 1) rfl (by decide +kernel) rfl ⟨Nat.le_of_ble_eq_true rfl, Nat.le_of_ble_eq_true rfl⟩ (o_recv hK hW (hA.look (by omega)) (kX_8 _ _ _ _) rfl) hK hW hB hS hl.1 rfl (lv_room (Nat.le_of_ble_eq_true rfl)) ⟨Nat.zero_le _, Nat.zero_le _⟩ dX9_weighs_15) hS (fun r_7 d_6 q_8 H locs hW hS => ?_)
    obtain ⟨rfl, rfl⟩ := q_8
    refine lv_if_ne (tgt := 23) hx hb dX9_weighs_18 (by decide) (fun c_k => ?_) (fun c_k => ?_)
    · have hkn : sKn S lin (S 19 0) = true := bI_n c_k
      have hlp : S 12 lin < S 7 0 := hG.2.2.2.2.1 lin hlin
      refine lv_aload_n hx hb dX9_weighs_23 rfl (lv_at hl 1 rfl) ?_
      refine lv_aload_n hx hb dX9_weighs_24 rfl (lv_at hl 1 rfl) ?_
      refine x_gi hx hb hu in_X9 hown hK hW (hA.o (k := 0) rfl) (kX_0 _ _ _ _) rfl 15 (by decide) uF_X9_78 dX9_weighs_25 ?_
      refine n_topi (y := nI (S 19 0)) (hI.1.1.2.1.as) ?_
      have b_9 : S 19 0 ≤ 399 := hG.f 19 (mx := 399) (by decide)
      refine o_callv (o_runV (As := [.int (nI (S 19 0))]) (rest := []) ⟨hx, hb, hml, hown, hu⟩ (c_X9_findKept l D cA B0 ad hal S d0 hI.1 (S 19 0) (by omega)) (gV_X9_160 (fun _ h => h)) (n0 := 1) rfl (by decide +kernel) rfl ⟨Nat.le_of_ble_eq_true rfl, Nat.le_of_ble_eq_true rfl⟩ (o_recv hK hW (hA.o (k := 0) rfl) (kX_0 _ _ _ _) rfl) hK hW hB hS hl.1 rfl (lv_room (Nat.le_of_ble_eq_true rfl)) ⟨Nat.zero_le _, Nat.zero_le _⟩ dX9_weighs_28) hS (fun dK q_11 H locs hW hS => ?_)
      obtain ⟨hq, hKP⟩ := q_11
      have hI := hI.k hq
      refine lv_lconst (v := 0) hx hb dX9_weighs_31 (by decide) ?_
      refine lv_lstore_n (lv' := [(3, .long 0), (2, .ref (ad.1 8 lin)), (0, .ref (ad.1 0 0)), (1, .int (nI lin))]) hx hb dX9_weighs_32 rfl hl (by decide) rfl (fun ls hl => ?_)
      refine n_iconst (v := 0) hx hb dX9_weighs_33 (by decide) ?_
      refine lv_istore (lv' := [(5, .int (nI 0)), (3, .long 0), (2, .ref (ad.1 8 lin)), (0, .ref (ad.1 0 0)), (1, .int (nI lin))]) hx hb dX9_weighs_34 hl (by decide) rfl (fun ls hl => ?_)
      have lp36 : ∀ (n : Nat) (bt : Int64) (k : Nat)  (H : Heap) (locs : List Loc) (ls : Array Slot), S 18 0 - k < n → (k ≤ S 18 0) → (bt = othL S (S 12 lin) (S 19 0) lin k) → oW D cA B0 ad dK H → va_S (oA B0) s.heap H locs → lv_has ls 7 [(0, .ref (ad.1 0 0)), (1, .int (nI lin)), (2, .ref (ad.1 8 lin)), (3, .long bt), (5, .int (nI k))] → W p l e (oR 7 0 0) s m ([.ref (ad.1 0 0), .int (nI lin)] : List Value).toArray below meth c H locs 0 0 (MQ below (oQi D cA B0 ad (fun r d1 => r = aWeighs S (nI lin) ∧ PX cA ad S sr d0 d1)) ([.ref (ad.1 0 0), .int (nI lin)] : List Value).toArray s 0 0 (oA B0)) (F0 m 36 ls []) := by
        intro n
        induction n with
        | zero => intro bt k  H locs ls hmu; exact absurd hmu (Nat.not_lt_zero _)
        | succ n ih_lp36 =>
          intro bt k  H locs ls hmu hk hbt hW hS hl
          refine lv_iload hx hb dX9_weighs_36 (lv_at hl 4 rfl) ?_
          refine lv_aload_n hx hb dX9_weighs_38 rfl (lv_at hl 0 rfl) ?_
          refine x_gr hx hb hu in_X9 hown hK hW (hA.o (k := 0) rfl) (kX_0 _ _ _ _) rfl 3 (by decide) uF_X9_25 (hA.f 3 (k := 4) (i := 1) (by decide) (hA.li (by omega))) dX9_weighs_39 ?_
          refine o_calli (o_runV (As := []) (rest := [.int (nI k)]) ⟨hx, hb, hml, hown, hu⟩ (c_Jx4a65c_size_8abf5 l D cA B0 ad hal S dK hI.1.1 1 (by decide)) (gV_X9_105 (fun _ h => h)) (n0 := 0) rfl (by decide +kernel) rfl ⟨Nat.le_of_ble_eq_true rfl, Nat.le_of_ble_eq_true rfl⟩ (o_recv hK hW (hA.li (by omega)) (kX_4 _ _ _ _) rfl) hK hW hB hS hl.1 rfl (lv_room (Nat.le_of_ble_eq_true rfl)) ⟨Nat.zero_le _, Nat.zero_le _⟩ dX9_weighs_42) hS (fun r_13 d_12 q_14 H locs hW hS => ?_)
          obtain ⟨rfl, rfl⟩ := q_14
          refine n_topi (y := nI (S 18 0)) rfl ?_
          refine n_icmp_ge (tgt := 106) hx hb (by omega) (by omega) dX9_weighs_45 (by decide) (fun c_15 => ?_) (fun c_15 => ?_)
          · refine lv_aload_n hx hb dX9_weighs_106 rfl (lv_at hl 2 rfl) ?_
            refine x_gl hx hb hu in_X2 hown hK hW (hA.look (by omega)) (kX_8 _ _ _ _) rfl 7 (by decide) uF_X9_198 dX9_weighs_107 ?_
            refine n_topl (y := sBars S lin) (hKP.2.2 lin (by omega)) ?_
            refine lv_lload_n hx hb dX9_weighs_110 rfl (lv_at hl 3 rfl) ?_
            refine lv_ldc2 (v := (-1)) hx hb hown (hu _ uK_X9_186) dX9_weighs_111 ?_
            refine lv_lxor hx hb dX9_weighs_114 ?_
            refine lv_land hx hb dX9_weighs_115 ?_
            refine o_calli (o_runS (As := [.long ((sBars S lin) &&& (bt ^^^ (-1)))]) (rest := []) ⟨hx, hb, hml, hown, hu⟩ (c_J13_bitCount_95d88 l D cA B0 ad hal dK ((sBars S lin) &&& (bt ^^^ (-1)))) (gS_X9_180 (fun _ h => h)) (n0 := 1) rfl (by decide +kernel) rfl ⟨Nat.le_of_ble_eq_true rfl, Nat.le_of_ble_eq_true rfl⟩ hK hW hB hS hl.1 rfl (lv_room (Nat.le_of_ble_eq_true rfl)) ⟨Nat.zero_le _, Nat.zero_le _⟩ dX9_weighs_116) hS (fun r_17 d_16 q_18 H locs hW hS => ?_)
            obtain ⟨rfl, rfl⟩ := q_18
            have b_19 := popN_le ((sBars S lin) &&& (bt ^^^ (-1)))
            exact o_iret hx hb hr hlocks hW hS (⟨by simp only [aWeighs, ix_nI hlin (by omega), nx_nI (j := lin) (by omega), hkn, eq_self, ↓reduceIte, Bool.false_eq_true]; unfold sFree; rw [weigh_eq S _ _ hlin (by omega) rfl hkn, hbt, show k = S 18 0 by omega], hI.pub hR⟩) dX9_weighs_119
          · refine lv_aload_n hx hb dX9_weighs_48 rfl (lv_at hl 0 rfl) ?_
            refine x_gr hx hb hu in_X9 hown hK hW (hA.o (k := 0) rfl) (kX_0 _ _ _ _) rfl 3 (by decide) uF_X9_25 (hA.f 3 (k := 4) (i := 1) (by decide) (hA.li (by omega))) dX9_weighs_49 ?_
            refine lv_iload hx hb dX9_weighs_52 (lv_at hl 4 rfl) ?_
            refine o_callq (o_runV (As := [.int (nI k)]) (rest := []) ⟨hx, hb, hml, hown, hu⟩ (c_Jx4a65c_get_915e3 l D cA B0 ad hal S dK hI.1.1 1 k (by decide) (show k < S 18 0 by omega)) (gV_X9_109 (fun _ h => h)) (n0 := 1) rfl (by decide +kernel) rfl ⟨Nat.le_of_ble_eq_true rfl, Nat.le_of_ble_eq_true rfl⟩ (o_recv hK hW (hA.li (by omega)) (kX_4 _ _ _ _) rfl) hK hW hB hS hl.1 rfl (lv_room (Nat.le_of_ble_eq_true rfl)) ⟨Nat.zero_le _, Nat.zero_le _⟩ dX9_weighs_54) hS (fun r_21 d_20 q_22 H locs hW hS => ?_)
            obtain ⟨rfl, rfl⟩ := q_22
            refine W.eq (g2 := F0 m 57 ls [.ref (ad.1 8 k)]) rfl ?_
            refine x_cast hx hb hu hown uL_X9_116 hK hW (hA.look (by omega)) (kX_8 _ _ _ _) rfl dX9_weighs_57 ?_
            refine lv_astore (lv' := [(6, .ref (ad.1 8 k)), (0, .ref (ad.1 0 0)), (1, .int (nI lin)), (2, .ref (ad.1 8 lin)), (3, .long bt), (5, .int (nI k))]) hx hb dX9_weighs_60 hl (by decide) rfl (fun ls hl => ?_)
            refine lv_aload hx hb dX9_weighs_62 (lv_at hl 0 rfl) ?_
            refine lv_aload_n hx hb dX9_weighs_64 rfl (lv_at hl 3 rfl) ?_
            refine lv_acmp_eq (rx := some (ad.1 8 k)) (ry := some (ad.1 8 lin)) (tgt := 100) hx hb dX9_weighs_65 (by decide) (fun c_a => ?_) (fun c_a => ?_)
            · have hkl : k = lin := (hW.2.1 _ _ _ _ (hA.look (by omega)) (Option.some.inj c_a)).2
              have hst : othL S (S 12 lin) (S 19 0) lin (k + 1) = othL S (S 12 lin) (S 19 0) lin k := by rw [othL, if_neg (fun q => q.1 hkl)]
              refine n_iinc (q := 1) (lv' := [(5, .int (nI (k + 1))), (6, .ref (ad.1 8 k)), (0, .ref (ad.1 0 0)), (1, .int (nI lin)), (2, .ref (ad.1 8 lin)), (3, .long bt)]) hx hb dX9_weighs_100 hl (k := 5) rfl (by decide) (by decide) rfl (fun ls hl => ?_)
              refine lv_goto (tgt := 36) hx hb dX9_weighs_103 (by decide) ?_
              exact ih_lp36 bt (k + 1) _ _ ls (by omega) (by omega) (by rw [hst, ← hbt]) hW hS (lv_sub hl [2, 3, 4, 5, 0] rfl)
            · have hkl : ¬ k = lin := fun z => c_a (by rw [z])
              have hkp : S 12 k < S 7 0 := hG.2.2.2.2.1 k (by omega)
              refine lv_aload hx hb dX9_weighs_68 (lv_at hl 0 rfl) ?_
              refine x_gr hx hb hu in_X2 hown hK hW (hA.look (by omega)) (kX_8 _ _ _ _) rfl 0 (by decide) uF_X9_194 (hA.lp (by omega) (by omega)) dX9_weighs_70 ?_
              refine lv_aload_n hx hb dX9_weighs_73 rfl (lv_at hl 3 rfl) ?_
              refine x_gr hx hb hu in_X2 hown hK hW (hA.look (by omega)) (kX_8 _ _ _ _) rfl 0 (by decide) uF_X9_194 (hA.lp (by omega) (by omega)) dX9_weighs_74 ?_
              refine lv_acmp_ne (rx := some (ad.1 6 (S 12 k))) (ry := some (ad.1 6 (S 12 lin))) (tgt := 100) hx hb dX9_weighs_77 (by decide) (fun c_p => ?_) (fun c_p => ?_)
              · have hst : othL S (S 12 lin) (S 19 0) lin (k + 1) = othL S (S 12 lin) (S 19 0) lin k := by rw [othL, if_neg (fun q => c_p (by rw [q.2.1]))]
                refine n_iinc (q := 1) (lv' := [(5, .int (nI (k + 1))), (6, .ref (ad.1 8 k)), (0, .ref (ad.1 0 0)), (1, .int (nI lin)), (2, .ref (ad.1 8 lin)), (3, .long bt)]) hx hb dX9_weighs_100 hl (k := 5) rfl (by decide) (by decide) rfl (fun ls hl => ?_)
                refine lv_goto (tgt := 36) hx hb dX9_weighs_103 (by decide) ?_
                exact ih_lp36 bt (k + 1) _ _ ls (by omega) (by omega) (by rw [hst, ← hbt]) hW hS (lv_sub hl [2, 3, 4, 5, 0] rfl)
              · have hpp : S 12 k = S 12 lin := (hW.2.1 _ _ _ _ (hA.pier hkp) (Option.some.inj c_p)).2
                refine lv_aload hx hb dX9_weighs_80 (lv_at hl 0 rfl) ?_
                refine lv_aload_n hx hb dX9_weighs_82 rfl (lv_at hl 1 rfl) ?_
                refine x_gi hx hb hu in_X9 hown hK hW (hA.o (k := 0) rfl) (kX_0 _ _ _ _) rfl 15 (by decide) uF_X9_78 dX9_weighs_83 ?_
                refine n_topi (y := nI (S 19 0)) (hI.1.1.2.1.as) ?_
                have b_23 : S 19 0 ≤ 399 := hG.f 19 (mx := 399) (by decide)
                refine o_calli (o_runV (As := [.int (nI (S 19 0))]) (rest := []) ⟨hx, hb, hml, hown, hu⟩ (c_X2_isKnown l D cA B0 ad hal S dK hI.1.1 k (S 19 0) (by omega) (by omega)) (gV_X9_191 (fun _ h => h)) (n0 := 1) rfl (by decide +kernel) rfl ⟨Nat.le_of_ble_eq_true rfl, Nat.le_of_ble_eq_true rfl⟩ (o_recv hK hW (hA.look (by omega)) (kX_8 _ _ _ _) rfl) hK hW hB hS hl.1 rfl (lv_room (Nat.le_of_ble_eq_true rfl)) ⟨Nat.zero_le _, Nat.zero_le _⟩ dX9_weighs_86) hS (fun r_25 d_24 q_26 H locs hW hS => ?_)
                obtain ⟨rfl, rfl⟩ := q_26
                refine lv_if_eq (tgt := 100) hx hb dX9_weighs_89 (by decide) (fun c_n => ?_) (fun c_n => ?_)
                · have hst : othL S (S 12 lin) (S 19 0) lin (k + 1) = othL S (S 12 lin) (S 19 0) lin k := by rw [othL, if_neg (fun q => by have z := bI_z c_n; rw [q.2.2] at z; cases z)]
                  refine n_iinc (q := 1) (lv' := [(5, .int (nI (k + 1))), (6, .ref (ad.1 8 k)), (0, .ref (ad.1 0 0)), (1, .int (nI lin)), (2, .ref (ad.1 8 lin)), (3, .long bt)]) hx hb dX9_weighs_100 hl (k := 5) rfl (by decide) (by decide) rfl (fun ls hl => ?_)
                  refine lv_goto (tgt := 36) hx hb dX9_weighs_103 (by decide) ?_
                  exact ih_lp36 bt (k + 1) _ _ ls (by omega) (by omega) (by rw [hst, ← hbt]) hW hS (lv_sub hl [2, 3, 4, 5, 0] rfl)
                · have hst : othL S (S 12 lin) (S 19 0) lin (k + 1) = othL S (S 12 lin) (S 19 0) lin k ||| sBars S k := by rw [othL, if_pos ⟨hkl, hpp, bI_n c_n⟩]
                  refine lv_lload_n hx hb dX9_weighs_92 rfl (lv_at hl 4 rfl) ?_
                  refine lv_aload hx hb dX9_weighs_93 (lv_at hl 0 rfl) ?_
                  refine x_gl hx hb hu in_X2 hown hK hW (hA.look (by omega)) (kX_8 _ _ _ _) rfl 7 (by decide) uF_X9_198 dX9_weighs_95 ?_
                  refine n_topl (y := sBars S k) (hKP.2.2 k (by omega)) ?_
                  refine lv_lor hx hb dX9_weighs_98 ?_
                  refine lv_lstore_n (lv' := [(3, .long (bt ||| (sBars S k))), (6, .ref (ad.1 8 k)), (0, .ref (ad.1 0 0)), (1, .int (nI lin)), (2, .ref (ad.1 8 lin)), (5, .int (nI k))]) hx hb dX9_weighs_99 rfl hl (by decide) rfl (fun ls hl => ?_)
                  refine n_iinc (q := 1) (lv' := [(5, .int (nI (k + 1))), (3, .long (bt ||| (sBars S k))), (6, .ref (ad.1 8 k)), (0, .ref (ad.1 0 0)), (1, .int (nI lin)), (2, .ref (ad.1 8 lin))]) hx hb dX9_weighs_100 hl (k := 5) rfl (by decide) (by decide) rfl (fun ls hl => ?_)
                  refine lv_goto (tgt := 36) hx hb dX9_weighs_103 (by decide) ?_
                  exact ih_lp36 (bt ||| (sBars S k)) (k + 1) _ _ ls (by omega) (by omega) (by rw [hst, ← hbt]) hW hS (lv_sub hl [3, 4, 5, 1, 0] rfl)
      exact lp36 (S 18 0 + 1) 0 0 _ _ ls (by omega) (by omega) rfl hW hS (lv_sub hl [3, 4, 2, 1, 0] rfl)
    · have hkn : sKn S lin (S 19 0) = false := bI_z c_k
      refine lv_iconst (v := -1) hx hb dX9_weighs_21 (by decide) ?_
      exact o_iret hx hb hr hlocks hW hS (⟨by first | (simp only [aWeighs, ix_nI hlin (by omega), nx_nI (j := lin) (by omega), hkn, eq_self, ↓reduceIte, Bool.false_eq_true]; done) | (simp only [aWeighs, ix_nI hlin (by omega), nx_nI (j := lin) (by omega), hkn, eq_self, ↓reduceIte, Bool.false_eq_true]; rfl), hI.pub hR⟩) dX9_weighs_22

set_option maxHeartbeats 400000 in
set_option maxRecDepth 100000 in
theorem c_X9_share (l : Launch) (D : va_G) (cA : Nat → ClassId) (B0 : Nat) (ad : kA) (hal : mAl ad) (S : sS) (sr : Nat → Int32) (d0 : kD) (hM : InvX cA ad S d0) (hR : RowX S sr d0) (pi day qi : Int32) : oM l yX9_share wX9_share 7 0 0 D cA B0 ad d0 ([.ref (ad.1 0 0), .int pi, .int day, .int qi] : List Value) (oQi D cA B0 ad (fun r d1 => r = aShare S pi day qi ∧ PX cA ad S sr d0 d1)) := by
  refine o_ofW (cc := cX9_share) (maxL := 6) (ret := some .int) (by decide) rfl (Nat.le_of_ble_eq_true rfl) ?_
  intro p e s m below meth c hx hb hr hml hts hown hlocks hnm hK hW hB hS ls hl
  have hu : ∀ w ∈ UW, w.before _ s = true := fun w h => hts w (uw_c w h)
  have hl : lv_has ls 6 [(0, .ref (ad.1 0 0)), (1, .int pi), (2, .int day), (3, .int qi)] := hl
  have hX := hM.1
  have hA := hX.1
  have hG := hX.2.2
  have hb7 : S 7 0 ≤ 8 := hG.f 7 (mx := 8) (by decide)
  have hb11 : S 11 0 ≤ 20 := hG.f 11 (mx := 20) (by decide)
  have hb18 : S 18 0 ≤ 40 := hG.f 18 (mx := 40) (by decide)
  have hI : XX cA ad S d0 d0 := XX.start hM
  have hb1 : S 1 0 ≤ 4 := hG.f 1 (mx := 4) (by decide)
  have hb19 : S 19 0 ≤ 399 := hG.f 19 (mx := 399) (by decide)
  have hb22 : S 22 0 ≤ 64 := hG.f 22 (mx := 64) (by decide)
  have hb25 : S 25 0 ≤ 4 := hG.f 25 (mx := 4) (by decide)
  have hb30 : S 30 0 ≤ 10 := hG.f 30 (mx := 10) (by decide)
  have hb32 : S 32 0 ≤ 64 := hG.f 32 (mx := 64) (by decide)
  refine lv_aload_n hx hb dX9_share_0 rfl (lv_at hl 0 rfl) ?_
  refine lv_iload_n hx hb dX9_share_1 rfl (lv_at hl 1 rfl) ?_
  refine o_callq (o_runV (As := [.int pi]) (rest := []) ⟨hx, hb, hml, hown, hu⟩ (c_X9_pierOf l D cA B0 ad hal S d0 hI.1.1 pi) (gV_X9_126 (fun _ h => h)) (n0 := 1) rfl (by decide +kernel) rfl ⟨Nat.le_of_ble_eq_true rfl, Nat.le_of_ble_eq_true rfl⟩ (o_recv hK hW (hA.o (k := 0) rfl) (kX_0 _ _ _ _) rfl) hK hW hB hS hl.1 rfl (lv_room (Nat.le_of_ble_eq_true rfl)) ⟨Nat.zero_le _, Nat.zero_le _⟩ dX9_share_2) hS (fun r_2 d_1 q_3 H locs hW hS => ?_)
  obtain ⟨rfl, rfl⟩ := q_3
  cases o_4 : ix pi (S 7 0) with
  | false =>
    refine W.eq (g2 := F0 m 5 ls [.null]) rfl ?_
    refine lv_astoreN (lv' := [(4, .null), (0, .ref (ad.1 0 0)), (1, .int pi), (2, .int day), (3, .int qi)]) hx hb dX9_share_5 hl (by decide) rfl (fun ls hl => ?_)
    refine lv_aloadN hx hb dX9_share_7 (lv_at hl 0 rfl) ?_
    refine lv_ifnullN (tgt := 28) hx hb dX9_share_9 (by decide) ?_
    refine lv_iconst (v := -1) hx hb dX9_share_28 (by decide) ?_
    exact o_iret hx hb hr hlocks hW hS (⟨by first | (simp only [aShare, o_4, eq_self, ↓reduceIte, Bool.false_eq_true]; done) | (simp only [aShare, o_4, eq_self, ↓reduceIte, Bool.false_eq_true]; rfl), hI.pub hR⟩) dX9_share_29
  | true =>
    obtain ⟨pin, hpin, rfl⟩ := ix_t o_4 (by omega)
    refine W.eq (g2 := F0 m 5 ls [.ref (ad.1 6 pin)]) (by rw [if_pos rfl, nx_nI (by omega)]; rfl) ?_
    refine lv_astore (lv' := [(4, .ref (ad.1 6 pin)), (0, .ref (ad.1 0 0)), (1, .int (nI pin)), (2, .int day), (3, .int qi)]) hx hb dX9_share_5 hl (by decide) rfl (fun ls hl => ?_)
    refine lv_aload hx hb dX9_share_7 (lv_at hl 0 rfl) ?_
    refine lv_ifnull hx hb dX9_share_9 ?_
    refine lv_iload_n hx hb dX9_share_12 rfl (lv_at hl 3 rfl) ?_
    refine o_calli (o_runS (As := [.int day]) (rest := []) ⟨hx, hb, hml, hown, hu⟩ (c_X9_isDay l D cA B0 ad hal d0 day) (gS_X9_81 (fun _ h => h)) (n0 := 1) rfl (by decide +kernel) rfl ⟨Nat.le_of_ble_eq_true rfl, Nat.le_of_ble_eq_true rfl⟩ hK hW hB hS hl.1 rfl (lv_room (Nat.le_of_ble_eq_true rfl)) ⟨Nat.zero_le _, Nat.zero_le _⟩ dX9_share_13) hS (fun r_6 d_5 q_7 H locs hW hS => ?_)
    obtain ⟨rfl, rfl⟩ := q_7
    refine lv_if_eq (tgt := 28) hx hb dX9_share_16 (by decide) (fun c_8 => ?_) (fun c_8 => ?_)
    · refine lv_iconst (v := -1) hx hb dX9_share_28 (by decide) ?_
      exact o_iret hx hb hr hlocks hW hS (⟨by first | (simp only [aShare, ix_nI hpin (by omega), nx_nI (j := pin) (by omega), bI_z c_8, eq_self, ↓reduceIte, Bool.false_eq_true]; done) | (simp only [aShare, ix_nI hpin (by omega), nx_nI (j := pin) (by omega), bI_z c_8, eq_self, ↓reduceIte, Bool.false_eq_true]; rfl), hI.pub hR⟩) dX9_share_29
    · obtain ⟨dayn, hdayn, rfl⟩ := ix_t (bI_n c_8) (by omega)
      refine lv_iload_n hx hb dX9_share_19 rfl (lv_at hl 4 rfl) ?_
      refine n_iconst (v := 0) hx hb dX9_share_20 (by decide) ?_
      refine n_iconst (v := 1) hx hb dX9_share_21 (by decide) ?_
      refine o_calli (o_runS (As := [.int qi, .int (nI 0), .int (nI 1)]) (rest := []) ⟨hx, hb, hml, hown, hu⟩ (c_X9_within l D cA B0 ad hal d0 qi (nI 0) (nI 1)) (gS_X9_85 (fun _ h => h)) (n0 := 3) rfl (by decide +kernel) rfl ⟨Nat.le_of_ble_eq_true rfl, Nat.le_of_ble_eq_true rfl⟩ hK hW hB hS hl.1 rfl (lv_room (Nat.le_of_ble_eq_true rfl)) ⟨Nat.zero_le _, Nat.zero_le _⟩ dX9_share_22) hS (fun r_10 d_9 q_11 H locs hW hS => ?_)
      obtain ⟨rfl, rfl⟩ := q_11
      refine n_topi (y := bI (ix qi 2)) (in_ixc 2 rfl (by decide)) ?_
      refine lv_if_ne (tgt := 30) hx hb dX9_share_25 (by decide) (fun c_12 => ?_) (fun c_12 => ?_)
      · obtain ⟨qin, hqin, rfl⟩ := ix_t (bI_n c_12) (by omega)
        refine lv_aload_n hx hb dX9_share_30 rfl (lv_at hl 1 rfl) ?_
        refine lv_aload_n hx hb dX9_share_31 rfl (lv_at hl 1 rfl) ?_
        refine x_gi hx hb hu in_X9 hown hK hW (hA.o (k := 0) rfl) (kX_0 _ _ _ _) rfl 15 (by decide) uF_X9_78 dX9_share_32 ?_
        refine n_topi (y := nI (S 19 0)) (hI.1.1.2.1.as) ?_
        have b_13 : S 19 0 ≤ 399 := hG.f 19 (mx := 399) (by decide)
        refine o_callv (o_runV (As := [.int (nI (S 19 0))]) (rest := []) ⟨hx, hb, hml, hown, hu⟩ (c_X9_findKept l D cA B0 ad hal S d0 hI.1 (S 19 0) (by omega)) (gV_X9_160 (fun _ h => h)) (n0 := 1) rfl (by decide +kernel) rfl ⟨Nat.le_of_ble_eq_true rfl, Nat.le_of_ble_eq_true rfl⟩ (o_recv hK hW (hA.o (k := 0) rfl) (kX_0 _ _ _ _) rfl) hK hW hB hS hl.1 rfl (lv_room (Nat.le_of_ble_eq_true rfl)) ⟨Nat.zero_le _, Nat.zero_le _⟩ dX9_share_35) hS (fun d_14 q_16 H locs hW hS => ?_)
        obtain ⟨hq, hKP⟩ := q_16
        have hI := hI.k hq
        refine lv_aload hx hb dX9_share_38 (lv_at hl 0 rfl) ?_
        refine x_gl hx hb hu in_X5 hown hK hW (hA.pier (by omega)) (kX_6 _ _ _ _) rfl 12 (by decide) uF_X9_171 dX9_share_40 ?_
        refine n_topl (y := (sKept S pin (S 19 0))) ((hKP.1 pin (by omega)).2) ?_
        refine o_calli (o_runS (As := [.long (sKept S pin (S 19 0))]) (rest := []) ⟨hx, hb, hml, hown, hu⟩ (c_J13_bitCount_95d88 l D cA B0 ad hal d_14 (sKept S pin (S 19 0))) (gS_X9_180 (fun _ h => h)) (n0 := 1) rfl (by decide +kernel) rfl ⟨Nat.le_of_ble_eq_true rfl, Nat.le_of_ble_eq_true rfl⟩ hK hW hB hS hl.1 rfl (lv_room (Nat.le_of_ble_eq_true rfl)) ⟨Nat.zero_le _, Nat.zero_le _⟩ dX9_share_43) hS (fun r_18 d_17 q_19 H locs hW hS => ?_)
        obtain ⟨rfl, rfl⟩ := q_19
        have b_20 := popN_le (sKept S pin (S 19 0))
        refine lv_istore (lv' := [(5, .int (nI (popN (sKept S pin (S 19 0))))), (4, .ref (ad.1 6 pin)), (0, .ref (ad.1 0 0)), (1, .int (nI pin)), (2, .int (nI dayn)), (3, .int (nI qin))]) hx hb dX9_share_46 hl (by decide) rfl (fun ls hl => ?_)
        refine lv_iload hx hb dX9_share_48 (lv_at hl 0 rfl) ?_
        refine n_if_ne (tgt := 57) hx hb (by omega) dX9_share_50 (by decide) (fun c_z => ?_) (fun c_z => ?_)
        · have hz : ¬ (sKept S pin (S 19 0)) = 0 := fun q => by rw [q, popN_zero] at c_z; exact absurd rfl c_z
          refine n_sipush (v := 1000) hx hb dX9_share_57 (by decide) ?_
          refine lv_aload hx hb dX9_share_60 (lv_at hl 1 rfl) ?_
          refine lv_iload_n hx hb dX9_share_62 rfl (lv_at hl 4 rfl) ?_
          refine lv_iload_n hx hb dX9_share_63 rfl (lv_at hl 5 rfl) ?_
          refine o_calll (o_runV (As := [.int (nI dayn), .int (nI qin)]) (rest := [.int (nI 1000)]) ⟨hx, hb, hml, hown, hu⟩ (c_X5_mindsThatSayYes l D cA B0 ad hal S d_14 hI.1 pin dayn qin (sKept S pin (S 19 0)) (by omega) (by omega) (by omega) ((hKP.1 pin (by omega)).2)) (gV_X9_245 (fun _ h => h)) (n0 := 2) rfl (by decide +kernel) rfl ⟨Nat.le_of_ble_eq_true rfl, Nat.le_of_ble_eq_true rfl⟩ (o_recv hK hW (hA.pier (by omega)) (kX_6 _ _ _ _) rfl) hK hW hB hS hl.1 rfl (lv_room (Nat.le_of_ble_eq_true rfl)) ⟨Nat.zero_le _, Nat.zero_le _⟩ dX9_share_64) hS (fun r_22 d_21 q_23 H locs hW hS => ?_)
          obtain ⟨rfl, hq, hF1⟩ := q_23
          have hI := hI.w hq
          refine o_calli (o_runS (As := [.long (sYes S pin (sKept S pin (S 19 0)) dayn qin)]) (rest := [.int (nI 1000)]) ⟨hx, hb, hml, hown, hu⟩ (c_J13_bitCount_95d88 l D cA B0 ad hal d_21 (sYes S pin (sKept S pin (S 19 0)) dayn qin)) (gS_X9_180 (fun _ h => h)) (n0 := 1) rfl (by decide +kernel) rfl ⟨Nat.le_of_ble_eq_true rfl, Nat.le_of_ble_eq_true rfl⟩ hK hW hB hS hl.1 rfl (lv_room (Nat.le_of_ble_eq_true rfl)) ⟨Nat.zero_le _, Nat.zero_le _⟩ dX9_share_67) hS (fun r_25 d_24 q_26 H locs hW hS => ?_)
          obtain ⟨rfl, rfl⟩ := q_26
          have b_27 := popN_le (sYes S pin (sKept S pin (S 19 0)) dayn qin)
          refine n_imul hx hb dX9_share_70 ?_
          refine lv_iload hx hb dX9_share_71 (lv_at hl 0 rfl) ?_
          refine n_idiv hx hb (by omega) (by omega) (by omega) dX9_share_73 ?_
          exact o_iret hx hb hr hlocks hW hS (⟨by simp only [aShare, ix_nI hpin (by omega), nx_nI (j := pin) (by omega), ix_nI hdayn (by omega), nx_nI (j := dayn) (by omega), ix_nI hqin (by omega), nx_nI (j := qin) (by omega), hz, eq_self, ↓reduceIte, Bool.false_eq_true]; first | done | rw [Nat.mul_comm], hI.pub hR⟩) dX9_share_74
        · have hz : (sKept S pin (S 19 0)) = 0 := popN_z (by omega)
          refine lv_iconst (v := -1) hx hb dX9_share_53 (by decide) ?_
          refine lv_goto (tgt := 74) hx hb dX9_share_54 (by decide) ?_
          exact o_iret hx hb hr hlocks hW hS (⟨by simp only [aShare, ix_nI hpin (by omega), nx_nI (j := pin) (by omega), ix_nI hdayn (by omega), nx_nI (j := dayn) (by omega), ix_nI hqin (by omega), nx_nI (j := qin) (by omega), hz, eq_self, ↓reduceIte, Bool.false_eq_true]; first | done | rw [Nat.mul_comm], hI.pub hR⟩) dX9_share_74
      · refine lv_iconst (v := -1) hx hb dX9_share_28 (by decide) ?_
        exact o_iret hx hb hr hlocks hW hS (⟨by first | (simp only [aShare, ix_nI hpin (by omega), nx_nI (j := pin) (by omega), ix_nI hdayn (by omega), nx_nI (j := dayn) (by omega), bI_z c_12, eq_self, ↓reduceIte, Bool.false_eq_true]; done) | (simp only [aShare, ix_nI hpin (by omega), nx_nI (j := pin) (by omega), ix_nI hdayn (by omega), nx_nI (j := dayn) (by omega), bI_z c_12, eq_self, ↓reduceIte, Bool.false_eq_true]; rfl), hI.pub hR⟩) dX9_share_29
