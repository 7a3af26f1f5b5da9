set_option maxHeartbeats 400000 in
set_option maxRecDepth 100000 in
theorem c_X10_left (l : Launch) (D : va_G) (cA : Nat → ClassId) (B0 : Nat) (ad : kA) (hal : mAl ad) (S : sS) (d0 : kD) (hM : InvM S d0) (pp : Nat) (x : Int64) (dd : Nat) (er : Nat) (y : Nat) (hp : pp < S 7 0) (hd : dd < 400) (her : er ≤ 50) (hy : y < 64) : oM l yX10_left wX10_left 5 0 0 D cA B0 ad d0 ([.ref (ad.1 40 0), .int (nI pp), .long x, .int (nI dd), .int (nI er), .int (nI y)] : List Value) (oQl D cA B0 ad (fun r d1 => r = sLeft S pp x dd er y ∧ MI S d0 d1)) := by
  refine o_ofW (cc := cX10_left) (maxL := 13) (ret := some .long) (by decide) rfl (Nat.le_of_ble_eq_true rfl) ?_
  intro p e s m below meth c hx hb hr hml hts hown hlocks hnm hK hW hB hS ls hl
  have hu : ∀ w ∈ UW, w.before _ s = true := fun w h => hts w (uw_c w h)
  have hl : lv_has ls 13 [(0, .ref (ad.1 40 0)), (1, .int (nI pp)), (2, .long x), (4, .int (nI dd)), (5, .int (nI er)), (6, .int (nI y))] := hl
  have hI : MI S d0 d0 := MI.start hM
  have hG : sG S := hM.2.1
  have hb7 : S 7 0 ≤ 8 := hG.f 7 (mx := 8) (by decide)
  have hb18 : S 18 0 ≤ 40 := hG.f 18 (mx := 40) (by decide)
  refine lv_lconst (v := 0) hx hb dX10_left_0 (by decide) ?_
  refine lv_lstore (lv' := [(7, .long 0), (0, .ref (ad.1 40 0)), (1, .int (nI pp)), (2, .long x), (4, .int (nI dd)), (5, .int (nI er)), (6, .int (nI y))]) hx hb dX10_left_1 hl (by decide) rfl (fun ls hl => ?_)
  refine lv_aload_n hx hb dX10_left_3 rfl (lv_at hl 1 rfl) ?_
  refine lv_iload_n hx hb dX10_left_4 rfl (lv_at hl 2 rfl) ?_
  refine lv_iload hx hb dX10_left_5 (lv_at hl 6 rfl) ?_
  refine lv_iload hx hb dX10_left_7 (lv_at hl 4 rfl) ?_
  refine o_calli (o_runV (As := [.int (nI pp), .int (nI y), .int (nI dd)]) (rest := []) ⟨hx, hb, hml, hown, hu⟩ (c_X10_holeOf l D cA B0 ad hal S d0 hI.1 pp y dd (by omega) (by omega) (by omega)) (gV_X10_165 (fun _ h => h)) (n0 := 3) rfl (by decide +kernel) rfl ⟨Nat.le_of_ble_eq_true rfl, Nat.le_of_ble_eq_true rfl⟩ (o_recv hK hW hal.1 (kC_M _ _ _) rfl) hK hW hB hS hl.1 rfl (lv_room (Nat.le_of_ble_eq_true rfl)) ⟨Nat.zero_le _, Nat.zero_le _⟩ dX10_left_9) hS (fun r_2 d_1 q_3 H locs hW hS => ?_)
  obtain ⟨rfl, hq⟩ := q_3
  have hI := hI.trans hq
  have hho : sHole S pp y dd ≤ 200 := (sHE_le hG (by omega) _).1
  refine lv_istore (lv' := [(9, .int (nI (sHole S pp y dd))), (7, .long 0), (0, .ref (ad.1 40 0)), (1, .int (nI pp)), (2, .long x), (4, .int (nI dd)), (5, .int (nI er)), (6, .int (nI y))]) hx hb dX10_left_12 hl (by decide) rfl (fun ls hl => ?_)
  refine lv_lload_n hx hb dX10_left_14 rfl (lv_at hl 4 rfl) ?_
  refine lv_lstore (lv' := [(10, .long x), (9, .int (nI (sHole S pp y dd))), (7, .long 0), (0, .ref (ad.1 40 0)), (1, .int (nI pp)), (2, .long x), (4, .int (nI dd)), (5, .int (nI er)), (6, .int (nI y))]) hx hb dX10_left_15 hl (by decide) rfl (fun ls hl => ?_)
  have lp17 : ∀ (n : Nat) (bt : Int64) (r : Int64) (k : Nat) (d : kD) (H : Heap) (locs : List Loc) (ls : Array Slot), 64 - k < n → (k ≤ 64) → (MI S d0 d) → (RS x k r) → (bt = sBits (sLf S pp x dd er y) k) → oW D cA B0 ad d H → va_S (oA B0) s.heap H locs → lv_has ls 13 [(0, .ref (ad.1 40 0)), (1, .int (nI pp)), (2, .long x), (4, .int (nI dd)), (5, .int (nI er)), (6, .int (nI y)), (7, .long bt), (9, .int (nI (sHole S pp y dd))), (10, .long r)] → W p l e (oR 5 0 0) s m ([.ref (ad.1 40 0), .int (nI pp), .long x, .int (nI dd), .int (nI er), .int (nI y)] : List Value).toArray below meth c H locs 0 0 (MQ below (oQl D cA B0 ad (fun r d1 => r = sLeft S pp x dd er y ∧ MI S d0 d1)) ([.ref (ad.1 40 0), .int (nI pp), .long x, .int (nI dd), .int (nI er), .int (nI y)] : List Value).toArray s 0 0 (oA B0)) (F0 m 17 ls []) := by
    intro n
    induction n with
    | zero => intro bt r k d H locs ls hmu; exact absurd hmu (Nat.not_lt_zero _)
    | succ n ih_lp17 =>
      intro bt r k d H locs ls hmu hk hI hRS hbt hW hS hl
      refine lv_lload hx hb dX10_left_17 (lv_at hl 8 rfl) ?_
      refine lv_lconst (v := 0) hx hb dX10_left_19 (by decide) ?_
      refine W.lcmp hx hb dX10_left_20 ?_
      refine lv_if_eq (tgt := 72) hx hb dX10_left_21 (by decide) (fun c_r => ?_) (fun c_r => ?_)
      · have hr0 := lg0 c_r
        refine lv_lload hx hb dX10_left_72 (lv_at hl 6 rfl) ?_
        exact o_lret hx hb hr hlocks hW hS (⟨by rw [hbt]; subst hr0; exact (sBits_skip 64 hk (fun j h1 h2 => by unfold sLf; rw [hRS.end j h1 h2, Bool.false_and])).symm, hI⟩) dX10_left_74
      · have hr0 := lg0n c_r
        obtain ⟨a1, a2, a3, a4⟩ := hRS.at hr0
        have hRS := hRS.next hr0
        have hsk : sBits (sLf S pp x dd er y) (ntN r) = sBits (sLf S pp x dd er y) k := sBits_skip _ a1 (fun j h1 h2 => by unfold sLf; rw [a4 j h1 h2, Bool.false_and])
        refine lv_lload hx hb dX10_left_24 (lv_at hl 8 rfl) ?_
        refine o_calli (o_runS (As := [.long r]) (rest := []) ⟨hx, hb, hml, hown, hu⟩ (c_J13_numberOfTrailingZeros_95d88 l D cA B0 ad hal d r hr0) (gS_X10_230 (fun _ h => h)) (n0 := 1) rfl (by decide +kernel) rfl ⟨Nat.le_of_ble_eq_true rfl, Nat.le_of_ble_eq_true rfl⟩ hK hW hB hS hl.1 rfl (lv_room (Nat.le_of_ble_eq_true rfl)) ⟨Nat.zero_le _, Nat.zero_le _⟩ dX10_left_26) hS (fun r_5 d_4 q_6 H locs hW hS => ?_)
        obtain ⟨rfl, rfl⟩ := q_6
        refine lv_istore (lv' := [(12, .int (nI (ntN r))), (0, .ref (ad.1 40 0)), (1, .int (nI pp)), (2, .long x), (4, .int (nI dd)), (5, .int (nI er)), (6, .int (nI y)), (7, .long bt), (9, .int (nI (sHole S pp y dd))), (10, .long r)]) hx hb dX10_left_29 hl (by decide) rfl (fun ls hl => ?_)
        refine lv_aload_n hx hb dX10_left_31 rfl (lv_at hl 1 rfl) ?_
        refine lv_iload_n hx hb dX10_left_32 rfl (lv_at hl 2 rfl) ?_
        refine lv_iload hx hb dX10_left_33 (lv_at hl 0 rfl) ?_
        refine lv_iload hx hb dX10_left_35 (lv_at hl 4 rfl) ?_
        refine o_calli (o_runV (As := [.int (nI pp), .int (nI (ntN r)), .int (nI dd)]) (rest := []) ⟨hx, hb, hml, hown, hu⟩ (c_X10_holeOf l D cA B0 ad hal S d hI.1 pp (ntN r) dd (by omega) (by omega) (by omega)) (gV_X10_165 (fun _ h => h)) (n0 := 3) rfl (by decide +kernel) rfl ⟨Nat.le_of_ble_eq_true rfl, Nat.le_of_ble_eq_true rfl⟩ (o_recv hK hW hal.1 (kC_M _ _ _) rfl) hK hW hB hS hl.1 rfl (lv_room (Nat.le_of_ble_eq_true rfl)) ⟨Nat.zero_le _, Nat.zero_le _⟩ dX10_left_37) hS (fun r_8 d_7 q_9 H locs hW hS => ?_)
        obtain ⟨rfl, hq⟩ := q_9
        have hI := hI.trans hq
        have hhm : sHole S pp (ntN r) dd ≤ 200 := (sHE_le hG (by omega) _).1
        refine lv_iload hx hb dX10_left_40 (lv_at hl 8 rfl) ?_
        refine lv_isub hx hb dX10_left_42 ?_
        refine va_mabs hx hb (hml.trans hl.1.symm) hown (hu _ uM_X10_171) (hu _ uT_J9_abs_0f7a4) (hu _ uI_J9) (hu _ uC_J9_abs_0f7a4) (Nat.le_of_ble_eq_true rfl) (Nat.le_of_ble_eq_true rfl) (Nat.le_of_ble_eq_true rfl) (Nat.le_of_ble_eq_true rfl) dX10_left_43 ?_
        refine n_topi (y := nI (adf (sHole S pp (ntN r) dd) (sHole S pp y dd))) (n_abs (by omega) (by omega)) ?_
        have hadf : adf (sHole S pp (ntN r) dd) (sHole S pp y dd) ≤ 200 := by unfold adf; omega
        refine lv_iload hx hb dX10_left_46 (lv_at hl 5 rfl) ?_
        refine n_icmp_gt (tgt := 60) hx hb (by omega) (by omega) dX10_left_48 (by decide) (fun c_n => ?_) (fun c_n => ?_)
        · have hst : sBits (sLf S pp x dd er y) (ntN r + 1) = sBits (sLf S pp x dd er y) k := by rw [sBits, if_neg (by unfold sLf; rw [decide_eq_false (by omega), Bool.and_false]; decide), hsk]
          refine lv_lload hx hb dX10_left_60 (lv_at hl 9 rfl) ?_
          refine lv_lload hx hb dX10_left_62 (lv_at hl 9 rfl) ?_
          refine lv_lconst (v := 1) hx hb dX10_left_64 (by decide) ?_
          refine lv_lsub hx hb dX10_left_65 ?_
          refine lv_land hx hb dX10_left_66 ?_
          refine lv_lstore (lv' := [(10, .long (r &&& (r - 1))), (12, .int (nI (ntN r))), (0, .ref (ad.1 40 0)), (1, .int (nI pp)), (2, .long x), (4, .int (nI dd)), (5, .int (nI er)), (6, .int (nI y)), (7, .long bt), (9, .int (nI (sHole S pp y dd)))]) hx hb dX10_left_67 hl (by decide) rfl (fun ls hl => ?_)
          refine lv_goto (tgt := 17) hx hb dX10_left_69 (by decide) ?_
          exact ih_lp17 bt (r &&& (r - 1)) (ntN r + 1) d_7 _ _ ls (by omega) (by omega) hI hRS (by rw [hst, ← hbt]) hW hS (lv_sub hl [2, 3, 4, 5, 6, 7, 8, 9, 0] rfl)
        · have hst : sBits (sLf S pp x dd er y) (ntN r + 1) = sBits (sLf S pp x dd er y) k ||| lsl 1 (ntN r) := by rw [sBits, if_pos (by unfold sLf; rw [a3, decide_eq_true (by omega)]; rfl), hsk]
          refine lv_lload hx hb dX10_left_51 (lv_at hl 7 rfl) ?_
          refine lv_lconst (v := 1) hx hb dX10_left_53 (by decide) ?_
          refine lv_iload hx hb dX10_left_54 (lv_at hl 0 rfl) ?_
          refine lv_lshl (v := lsl 1 (ntN r)) hx hb dX10_left_56 rfl ?_
          refine lv_lor hx hb dX10_left_57 ?_
          refine lv_lstore (lv' := [(7, .long (bt ||| (lsl 1 (ntN r)))), (12, .int (nI (ntN r))), (0, .ref (ad.1 40 0)), (1, .int (nI pp)), (2, .long x), (4, .int (nI dd)), (5, .int (nI er)), (6, .int (nI y)), (9, .int (nI (sHole S pp y dd))), (10, .long r)]) hx hb dX10_left_58 hl (by decide) rfl (fun ls hl => ?_)
          refine lv_lload hx hb dX10_left_60 (lv_at hl 9 rfl) ?_
          refine lv_lload hx hb dX10_left_62 (lv_at hl 9 rfl) ?_
          refine lv_lconst (v := 1) hx hb dX10_left_64 (by decide) ?_
          refine lv_lsub hx hb dX10_left_65 ?_
          refine lv_land hx hb dX10_left_66 ?_
          refine lv_lstore (lv' := [(10, .long (r &&& (r - 1))), (7, .long (bt ||| (lsl 1 (ntN r)))), (12, .int (nI (ntN r))), (0, .ref (ad.1 40 0)), (1, .int (nI pp)), (2, .long x), (4, .int (nI dd)), (5, .int (nI er)), (6, .int (nI y)), (9, .int (nI (sHole S pp y dd)))]) hx hb dX10_left_67 hl (by decide) rfl (fun ls hl => ?_)
          refine lv_goto (tgt := 17) hx hb dX10_left_69 (by decide) ?_
          exact ih_lp17 (bt ||| (lsl 1 (ntN r))) (r &&& (r - 1)) (ntN r + 1) d_7 _ _ ls (by omega) (by omega) hI hRS (by rw [hst, ← hbt]) hW hS (lv_sub hl [3, 4, 5, 6, 7, 8, 1, 9, 0] rfl)
  exact lp17 (65) 0 x 0 d_1 _ _ ls (by omega) (by omega) hI (RS.start x) rfl hW hS (lv_sub hl [3, 4, 5, 6, 7, 8, 2, 1, 0] rfl)

set_option maxHeartbeats 400000 in
set_option maxRecDepth 100000 in
theorem c_X10_worstOf (l : Launch) (D : va_G) (cA : Nat → ClassId) (B0 : Nat) (ad : kA) (hal : mAl ad) (S : sS) (d0 : kD) (hM : InvM S d0) (pp : Nat) (x : Int64) (dd : Nat) (er : Nat) (hp : pp < S 7 0) (hd : dd < 400) (her : er ≤ 50) : oM l yX10_worstOf wX10_worstOf 6 0 0 D cA B0 ad d0 ([.ref (ad.1 40 0), .int (nI pp), .long x, .int (nI dd), .int (nI er)] : List Value) (oQi D cA B0 ad (fun r d1 => r = nI (sWorst S pp x dd er) ∧ MI S d0 d1)) := by
  refine o_ofW (cc := cX10_worstOf) (maxL := 9) (ret := some .int) (by decide) rfl (Nat.le_of_ble_eq_true rfl) ?_
  intro p e s m below meth c hx hb hr hml hts hown hlocks hnm hK hW hB hS ls hl
  have hu : ∀ w ∈ UW, w.before _ s = true := fun w h => hts w (uw_c w h)
  have hl : lv_has ls 9 [(0, .ref (ad.1 40 0)), (1, .int (nI pp)), (2, .long x), (4, .int (nI dd)), (5, .int (nI er))] := hl
  have hI : MI S d0 d0 := MI.start hM
  have hG : sG S := hM.2.1
  have hb7 : S 7 0 ≤ 8 := hG.f 7 (mx := 8) (by decide)
  have hb18 : S 18 0 ≤ 40 := hG.f 18 (mx := 40) (by decide)
  refine n_iconst (v := 0) hx hb dX10_worstOf_0 (by decide) ?_
  refine lv_istore (lv' := [(6, .int (nI 0)), (0, .ref (ad.1 40 0)), (1, .int (nI pp)), (2, .long x), (4, .int (nI dd)), (5, .int (nI er))]) hx hb dX10_worstOf_1 hl (by decide) rfl (fun ls hl => ?_)
  refine lv_lload_n hx hb dX10_worstOf_3 rfl (lv_at hl 3 rfl) ?_
  refine lv_lstore (lv' := [(7, .long x), (6, .int (nI 0)), (0, .ref (ad.1 40 0)), (1, .int (nI pp)), (2, .long x), (4, .int (nI dd)), (5, .int (nI er))]) hx hb dX10_worstOf_4 hl (by decide) rfl (fun ls hl => ?_)
  have lp6 : ∀ (n : Nat) (w : Nat) (r : Int64) (k : Nat) (d : kD) (H : Heap) (locs : List Loc) (ls : Array Slot), 64 - k < n → (k ≤ 64) → (MI S d0 d) → (RS x k r) → (w = wvL S pp x dd er popN k) → oW D cA B0 ad d H → va_S (oA B0) s.heap H locs → lv_has ls 9 [(0, .ref (ad.1 40 0)), (1, .int (nI pp)), (2, .long x), (4, .int (nI dd)), (5, .int (nI er)), (6, .int (nI w)), (7, .long r)] → W p l e (oR 6 0 0) s m ([.ref (ad.1 40 0), .int (nI pp), .long x, .int (nI dd), .int (nI er)] : List Value).toArray below meth c H locs 0 0 (MQ below (oQi D cA B0 ad (fun r d1 => r = nI (sWorst S pp x dd er) ∧ MI S d0 d1)) ([.ref (ad.1 40 0), .int (nI pp), .long x, .int (nI dd), .int (nI er)] : List Value).toArray s 0 0 (oA B0)) (F0 m 6 ls []) := by
    intro n
    induction n with
    | zero => intro w r k d H locs ls hmu; exact absurd hmu (Nat.not_lt_zero _)
    | succ n ih_lp6 =>
      intro w r k d H locs ls hmu hk hI hRS hw hW hS hl
      refine lv_lload hx hb dX10_worstOf_6 (lv_at hl 6 rfl) ?_
      refine lv_lconst (v := 0) hx hb dX10_worstOf_8 (by decide) ?_
      refine W.lcmp hx hb dX10_worstOf_9 ?_
      refine lv_if_eq (tgt := 50) hx hb dX10_worstOf_10 (by decide) (fun c_r => ?_) (fun c_r => ?_)
      · have hr0 := lg0 c_r
        refine lv_iload hx hb dX10_worstOf_50 (lv_at hl 5 rfl) ?_
        exact o_iret hx hb hr hlocks hW hS (⟨by rw [hw]; subst hr0; exact congrArg nI (wvL_skip 64 hk hRS.end).symm, hI⟩) dX10_worstOf_52
      · have hr0 := lg0n c_r
        obtain ⟨a1, a2, a3, a4⟩ := hRS.at hr0
        have hRS := hRS.next hr0
        have hsk : wvL S pp x dd er popN (ntN r) = wvL S pp x dd er popN k := wvL_skip _ a1 a4
        have hst : wvL S pp x dd er popN (ntN r + 1) = max (wvL S pp x dd er popN k) (popN (sLeft S pp x dd er (ntN r))) := by rw [wvL, if_pos a3, hsk]
        have hle : wvL S pp x dd er popN k ≤ 64 := wvL_le popN_le k
        refine lv_iload hx hb dX10_worstOf_13 (lv_at hl 5 rfl) ?_
        refine lv_aload_n hx hb dX10_worstOf_15 rfl (lv_at hl 0 rfl) ?_
        refine lv_iload_n hx hb dX10_worstOf_16 rfl (lv_at hl 1 rfl) ?_
        refine lv_lload_n hx hb dX10_worstOf_17 rfl (lv_at hl 2 rfl) ?_
        refine lv_iload hx hb dX10_worstOf_18 (lv_at hl 3 rfl) ?_
        refine lv_iload hx hb dX10_worstOf_20 (lv_at hl 4 rfl) ?_
        refine lv_lload hx hb dX10_worstOf_22 (lv_at hl 6 rfl) ?_
        refine o_calli (o_runS (As := [.long r]) (rest := [.int (nI er), .int (nI dd), .long x, .int (nI pp), .ref (ad.1 40 0), .int (nI w)]) ⟨hx, hb, hml, hown, hu⟩ (c_J13_numberOfTrailingZeros_95d88 l D cA B0 ad hal d r hr0) (gS_X10_230 (fun _ h => h)) (n0 := 1) rfl (by decide +kernel) rfl ⟨Nat.le_of_ble_eq_true rfl, Nat.le_of_ble_eq_true rfl⟩ hK hW hB hS hl.1 rfl (lv_room (Nat.le_of_ble_eq_true rfl)) ⟨Nat.zero_le _, Nat.zero_le _⟩ dX10_worstOf_24) hS (fun r_2 d_1 q_3 H locs hW hS => ?_)
        obtain ⟨rfl, rfl⟩ := q_3
        refine o_calll (o_runV (As := [.int (nI pp), .long x, .int (nI dd), .int (nI er), .int (nI (ntN r))]) (rest := [.int (nI w)]) ⟨hx, hb, hml, hown, hu⟩ (c_X10_left l D cA B0 ad hal S d hI.1 pp x dd er (ntN r) (by omega) (by omega) (by omega) (by omega)) (gV_X10_233 (fun _ h => h)) (n0 := 5) rfl (by decide +kernel) rfl ⟨Nat.le_of_ble_eq_true rfl, Nat.le_of_ble_eq_true rfl⟩ (o_recv hK hW hal.1 (kC_M _ _ _) rfl) hK hW hB hS hl.1 rfl (lv_room (Nat.le_of_ble_eq_true rfl)) ⟨Nat.zero_le _, Nat.zero_le _⟩ dX10_worstOf_27) hS (fun r_5 d_4 q_6 H locs hW hS => ?_)
        obtain ⟨rfl, hq⟩ := q_6
        have hI := hI.trans hq
        refine o_calli (o_runS (As := [.long (sLeft S pp x dd er (ntN r))]) (rest := [.int (nI w)]) ⟨hx, hb, hml, hown, hu⟩ (c_X10_many l D cA B0 ad hal d_4 (sLeft S pp x dd er (ntN r))) (gS_X10_217 (fun _ h => h)) (n0 := 1) rfl (by decide +kernel) rfl ⟨Nat.le_of_ble_eq_true rfl, Nat.le_of_ble_eq_true rfl⟩ hK hW hB hS hl.1 rfl (lv_room (Nat.le_of_ble_eq_true rfl)) ⟨Nat.zero_le _, Nat.zero_le _⟩ dX10_worstOf_30) hS (fun r_8 d_7 q_9 H locs hW hS => ?_)
        obtain ⟨rfl, rfl⟩ := q_9
        have b_10 := popN_le (sLeft S pp x dd er (ntN r))
        refine va_mmax hx hb (hml.trans hl.1.symm) hown (hu _ uM_X10_139) (hu _ uT_J9_max_7cf53) (hu _ uI_J9) (hu _ uC_J9_max_7cf53) (Nat.le_of_ble_eq_true rfl) (Nat.le_of_ble_eq_true rfl) (Nat.le_of_ble_eq_true rfl) (Nat.le_of_ble_eq_true rfl) dX10_worstOf_33 ?_
        refine n_topi (y := nI (max w (popN (sLeft S pp x dd er (ntN r))))) (n_max (by omega) (by omega)) ?_
        refine lv_istore (lv' := [(6, .int (nI (max w (popN (sLeft S pp x dd er (ntN r)))))), (0, .ref (ad.1 40 0)), (1, .int (nI pp)), (2, .long x), (4, .int (nI dd)), (5, .int (nI er)), (7, .long r)]) hx hb dX10_worstOf_36 hl (by decide) rfl (fun ls hl => ?_)
        refine lv_lload hx hb dX10_worstOf_38 (lv_at hl 6 rfl) ?_
        refine lv_lload hx hb dX10_worstOf_40 (lv_at hl 6 rfl) ?_
        refine lv_lconst (v := 1) hx hb dX10_worstOf_42 (by decide) ?_
        refine lv_lsub hx hb dX10_worstOf_43 ?_
        refine lv_land hx hb dX10_worstOf_44 ?_
        refine lv_lstore (lv' := [(7, .long (r &&& (r - 1))), (6, .int (nI (max w (popN (sLeft S pp x dd er (ntN r)))))), (0, .ref (ad.1 40 0)), (1, .int (nI pp)), (2, .long x), (4, .int (nI dd)), (5, .int (nI er))]) hx hb dX10_worstOf_45 hl (by decide) rfl (fun ls hl => ?_)
        refine lv_goto (tgt := 6) hx hb dX10_worstOf_47 (by decide) ?_
        exact ih_lp6 (max w (popN (sLeft S pp x dd er (ntN r)))) (r &&& (r - 1)) (ntN r + 1) d_4 _ _ ls (by omega) (by omega) hI hRS (by rw [hst, ← hw]) hW hS (lv_sub hl [2, 3, 4, 5, 6, 1, 0] rfl)
  exact lp6 (65) 0 x 0 d0 _ _ ls (by omega) (by omega) hI (RS.start x) rfl hW hS (lv_sub hl [2, 3, 4, 5, 6, 1, 0] rfl)

set_option maxHeartbeats 400000 in
set_option maxRecDepth 100000 in
theorem c_X10_worst (l : Launch) (D : va_G) (cA : Nat → ClassId) (B0 : Nat) (ad : kA) (hal : mAl ad) (S : sS) (sr : Nat → Int32) (d0 : kD) (hM : InvM S d0) (hR : RowM S sr d0) (pi day ei : Int32) : oM l yX10_worst wX10_worst 9 0 0 D cA B0 ad d0 ([.ref (ad.1 40 0), .int pi, .int day, .int ei] : List Value) (oQi D cA B0 ad (fun r d1 => r = aWorst S pi day ei ∧ PI S sr d0 d1)) := by
  refine o_ofW (cc := cX10_worst) (maxL := 6) (ret := some .int) (by decide) rfl (Nat.le_of_ble_eq_true rfl) ?_
  intro p e s m below meth c hx hb hr hml hts hown hlocks hnm hK hW hB hS ls hl
  have hu : ∀ w ∈ UW, w.before _ s = true := fun w h => hts w (uw_c w h)
  have hl : lv_has ls 6 [(0, .ref (ad.1 40 0)), (1, .int pi), (2, .int day), (3, .int ei)] := hl
  refine lv_aload_n hx hb dX10_worst_0 rfl (lv_at hl 0 rfl) ?_
  refine n_iconst (v := 0) hx hb dX10_worst_1 (by decide) ?_
  refine mo_pi hx hb hu hown hK hal hW hS 33 (by decide +kernel) uF_X10_113 dX10_worst_2 (fun H locs hW hS => ?_)
  have hI : MI S (uI d0 40 0 33 (nI 0)) (uI d0 40 0 33 (nI 0)) := MI.start (hM.thr 33 _ rfl)
  have hG : sG S := hM.2.1
  have hb1 : S 1 0 ≤ 4 := hG.f 1 (mx := 4) (by decide)
  have hb7 : S 7 0 ≤ 8 := hG.f 7 (mx := 8) (by decide)
  have hb11 : S 11 0 ≤ 20 := hG.f 11 (mx := 20) (by decide)
  have hb18 : S 18 0 ≤ 40 := hG.f 18 (mx := 40) (by decide)
  have hb19 : S 19 0 ≤ 399 := hG.f 19 (mx := 399) (by decide)
  have hb22 : S 22 0 ≤ 64 := hG.f 22 (mx := 64) (by decide)
  have hb25 : S 25 0 ≤ 4 := hG.f 25 (mx := 4) (by decide)
  have hb30 : S 30 0 ≤ 10 := hG.f 30 (mx := 10) (by decide)
  have hb32 : S 32 0 ≤ 64 := hG.f 32 (mx := 64) (by decide)
  refine lv_aload_n hx hb dX10_worst_5 rfl (lv_at hl 0 rfl) ?_
  refine lv_iload_n hx hb dX10_worst_6 rfl (lv_at hl 1 rfl) ?_
  refine o_calli (o_runV (As := [.int pi]) (rest := []) ⟨hx, hb, hml, hown, hu⟩ (c_X10_isPier l D cA B0 ad hal S (uI d0 40 0 33 (nI 0)) hI.dS hG pi ) (gV_X10_145 (fun _ h => h)) (n0 := 1) rfl (by decide +kernel) rfl ⟨Nat.le_of_ble_eq_true rfl, Nat.le_of_ble_eq_true rfl⟩ (o_recv hK hW hal.1 (kC_M _ _ _) rfl) hK hW hB hS hl.1 rfl (lv_room (Nat.le_of_ble_eq_true rfl)) ⟨Nat.zero_le _, Nat.zero_le _⟩ dX10_worst_7) hS (fun r_2 d_1 q_3 H locs hW hS => ?_)
  obtain ⟨rfl, rfl⟩ := q_3
  refine lv_if_eq (tgt := 27) hx hb dX10_worst_10 (by decide) (fun c_4 => ?_) (fun c_4 => ?_)
  · refine lv_iconst (v := -1) hx hb dX10_worst_27 (by decide) ?_
    exact o_iret hx hb hr hlocks hW hS (⟨by first | (simp only [aWorst, bI_z c_4, eq_self, ↓reduceIte, Bool.false_eq_true]; done) | (simp only [aWorst, bI_z c_4, eq_self, ↓reduceIte, Bool.false_eq_true]; rfl), hI.pub hR⟩) dX10_worst_28
  · obtain ⟨pin, hpin, rfl⟩ := ix_t (bI_n c_4) (by omega)
    refine lv_iload_n hx hb dX10_worst_13 rfl (lv_at hl 2 rfl) ?_
    refine o_calli (o_runS (As := [.int day]) (rest := []) ⟨hx, hb, hml, hown, hu⟩ (c_X10_isDay l D cA B0 ad hal (uI d0 40 0 33 (nI 0)) day) (gS_X10_126 (fun _ h => h)) (n0 := 1) rfl (by decide +kernel) rfl ⟨Nat.le_of_ble_eq_true rfl, Nat.le_of_ble_eq_true rfl⟩ hK hW hB hS hl.1 rfl (lv_room (Nat.le_of_ble_eq_true rfl)) ⟨Nat.zero_le _, Nat.zero_le _⟩ dX10_worst_14) hS (fun r_6 d_5 q_7 H locs hW hS => ?_)
    obtain ⟨rfl, rfl⟩ := q_7
    refine lv_if_eq (tgt := 27) hx hb dX10_worst_17 (by decide) (fun c_8 => ?_) (fun c_8 => ?_)
    · refine lv_iconst (v := -1) hx hb dX10_worst_27 (by decide) ?_
      exact o_iret hx hb hr hlocks hW hS (⟨by first | (simp only [aWorst, ix_nI hpin (by omega), nx_nI (j := pin) (by omega), bI_z c_8, eq_self, ↓reduceIte, Bool.false_eq_true]; done) | (simp only [aWorst, ix_nI hpin (by omega), nx_nI (j := pin) (by omega), bI_z c_8, eq_self, ↓reduceIte, Bool.false_eq_true]; rfl), hI.pub hR⟩) dX10_worst_28
    · obtain ⟨dayn, hdayn, rfl⟩ := ix_t (bI_n c_8) (by omega)
      refine lv_iload_n hx hb dX10_worst_20 rfl (lv_at hl 3 rfl) ?_
      refine o_calli (o_runS (As := [.int ei]) (rest := []) ⟨hx, hb, hml, hown, hu⟩ (c_X10_isErrs l D cA B0 ad hal (uI d0 40 0 33 (nI 0)) ei) (gS_X10_237 (fun _ h => h)) (n0 := 1) rfl (by decide +kernel) rfl ⟨Nat.le_of_ble_eq_true rfl, Nat.le_of_ble_eq_true rfl⟩ hK hW hB hS hl.1 rfl (lv_room (Nat.le_of_ble_eq_true rfl)) ⟨Nat.zero_le _, Nat.zero_le _⟩ dX10_worst_21) hS (fun r_10 d_9 q_11 H locs hW hS => ?_)
      obtain ⟨rfl, rfl⟩ := q_11
      refine lv_if_ne (tgt := 29) hx hb dX10_worst_24 (by decide) (fun c_12 => ?_) (fun c_12 => ?_)
      · obtain ⟨ein, hein, rfl⟩ := ix_t (bI_n c_12) (by omega)
        refine lv_aload_n hx hb dX10_worst_29 rfl (lv_at hl 0 rfl) ?_
        refine lv_iload_n hx hb dX10_worst_30 rfl (lv_at hl 1 rfl) ?_
        refine lv_aload_n hx hb dX10_worst_31 rfl (lv_at hl 0 rfl) ?_
        refine mo_gi hx hb hu hown hK hal hW hI.dS 19 (by decide) uF_X10_55 dX10_worst_32 ?_
        have b_13 : S 19 0 ≤ 399 := hG.f 19 (mx := 399) (by decide)
        refine o_calll (o_runV (As := [.int (nI pin), .int (nI (S 19 0))]) (rest := []) ⟨hx, hb, hml, hown, hu⟩ (c_X10_keptOn l D cA B0 ad hal S (uI d0 40 0 33 (nI 0)) hI.1 pin (S 19 0) (by omega) (by omega)) (gV_X10_207 (fun _ h => h)) (n0 := 2) rfl (by decide +kernel) rfl ⟨Nat.le_of_ble_eq_true rfl, Nat.le_of_ble_eq_true rfl⟩ (o_recv hK hW hal.1 (kC_M _ _ _) rfl) hK hW hB hS hl.1 rfl (lv_room (Nat.le_of_ble_eq_true rfl)) ⟨Nat.zero_le _, Nat.zero_le _⟩ dX10_worst_35) hS (fun r_15 d_14 q_16 H locs hW hS => ?_)
        obtain ⟨rfl, hq⟩ := q_16
        have hI := hI.trans hq
        refine lv_lstore (lv' := [(4, .long (sKept S pin (S 19 0))), (0, .ref (ad.1 40 0)), (1, .int (nI pin)), (2, .int (nI dayn)), (3, .int (nI ein))]) hx hb dX10_worst_38 hl (by decide) rfl (fun ls hl => ?_)
        refine lv_lload hx hb dX10_worst_40 (lv_at hl 0 rfl) ?_
        refine lv_lconst (v := 0) hx hb dX10_worst_42 (by decide) ?_
        refine W.lcmp hx hb dX10_worst_43 ?_
        refine lv_if_ne (tgt := 51) hx hb dX10_worst_44 (by decide) (fun c_z => ?_) (fun c_z => ?_)
        · have hz : ¬ sKept S pin (S 19 0) = 0 := lg0n c_z
          refine lv_aload_n hx hb dX10_worst_51 rfl (lv_at hl 1 rfl) ?_
          refine lv_iload_n hx hb dX10_worst_52 rfl (lv_at hl 2 rfl) ?_
          refine lv_lload hx hb dX10_worst_53 (lv_at hl 0 rfl) ?_
          refine lv_iload_n hx hb dX10_worst_55 rfl (lv_at hl 3 rfl) ?_
          refine lv_iload_n hx hb dX10_worst_56 rfl (lv_at hl 4 rfl) ?_
          refine o_calli (o_runV (As := [.int (nI pin), .long (sKept S pin (S 19 0)), .int (nI dayn), .int (nI ein)]) (rest := []) ⟨hx, hb, hml, hown, hu⟩ (c_X10_worstOf l D cA B0 ad hal S d_14 hI.1 pin (sKept S pin (S 19 0)) dayn ein (by omega) (by omega) (by omega)) (gV_X10_240 (fun _ h => h)) (n0 := 4) rfl (by decide +kernel) rfl ⟨Nat.le_of_ble_eq_true rfl, Nat.le_of_ble_eq_true rfl⟩ (o_recv hK hW hal.1 (kC_M _ _ _) rfl) hK hW hB hS hl.1 rfl (lv_room (Nat.le_of_ble_eq_true rfl)) ⟨Nat.zero_le _, Nat.zero_le _⟩ dX10_worst_57) hS (fun r_18 d_17 q_19 H locs hW hS => ?_)
          obtain ⟨rfl, hq⟩ := q_19
          have hI := hI.trans hq
          exact o_iret hx hb hr hlocks hW hS (⟨by first | (simp only [aWorst, ix_nI hpin (by omega), nx_nI (j := pin) (by omega), ix_nI hdayn (by omega), nx_nI (j := dayn) (by omega), ix_nI hein (by omega), nx_nI (j := ein) (by omega), hz, eq_self, ↓reduceIte, Bool.false_eq_true]; done) | (simp only [aWorst, ix_nI hpin (by omega), nx_nI (j := pin) (by omega), ix_nI hdayn (by omega), nx_nI (j := dayn) (by omega), ix_nI hein (by omega), nx_nI (j := ein) (by omega), hz, eq_self, ↓reduceIte, Bool.false_eq_true]; rfl), hI.pub hR⟩) dX10_worst_60
        · have hz : sKept S pin (S 19 0) = 0 := lg0 c_z
          refine lv_iconst (v := -1) hx hb dX10_worst_47 (by decide) ?_
          refine lv_goto (tgt := 60) hx hb dX10_worst_48 (by decide) ?_
          exact o_iret hx hb hr hlocks hW hS (⟨by first | (simp only [aWorst, ix_nI hpin (by omega), nx_nI (j := pin) (by omega), ix_nI hdayn (by omega), nx_nI (j := dayn) (by omega), ix_nI hein (by omega), nx_nI (j := ein) (by omega), hz, eq_self, ↓reduceIte, Bool.false_eq_true]; done) | (simp only [aWorst, ix_nI hpin (by omega), nx_nI (j := pin) (by omega), ix_nI hdayn (by omega), nx_nI (j := dayn) (by omega), ix_nI hein (by omega), nx_nI (j := ein) (by omega), hz, eq_self, ↓reduceIte, Bool.false_eq_true]; rfl), hI.pub hR⟩) dX10_worst_60
      · refine lv_iconst (v := -1) hx hb dX10_worst_27 (by decide) ?_
        exact o_iret hx hb hr hlocks hW hS (⟨by first | (simp only [aWorst, ix_nI hpin (by omega), nx_nI (j := pin) (by omega), ix_nI hdayn (by omega), nx_nI (j := dayn) (by omega), bI_z c_12, eq_self, ↓reduceIte, Bool.false_eq_true]; done) | (simp only [aWorst, ix_nI hpin (by omega), nx_nI (j := pin) (by omega), ix_nI hdayn (by omega), nx_nI (j := dayn) (by omega), bI_z c_12, eq_self, ↓reduceIte, Bool.false_eq_true]; rfl), hI.pub hR⟩) dX10_worst_28
