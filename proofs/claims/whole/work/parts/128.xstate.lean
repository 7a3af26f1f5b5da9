set_option maxHeartbeats 400000 in
set_option maxRecDepth 100000 in
theorem c_X5_mindsInState (l : Launch) (D : va_G) (cA : Nat → ClassId) (B0 : Nat) (ad : kA) (hal : mAl ad) (S : sS) (d0 : kD) (hM : InvX cA ad S d0) (pp : Nat) (dd : Nat) (sv : Nat) (x : Int64) (hp : pp < S 7 0) (hd : dd < 400) (hsv : sv < 2 ^ 31) (hx0 : d0.2.1 6 pp 12 = x) : oM l yX5_mindsInState wX5_mindsInState 4 0 0 D cA B0 ad d0 ([.ref (ad.1 6 pp), .int (nI dd), .int (nI sv)] : List Value) (oQl D cA B0 ad (fun r d1 => r = sSt S pp x dd sv ∧ XW cA ad S d0 d1 ∧ F1 pp d0 d1)) := by
  refine o_ofW (cc := cX5_mindsInState) (maxL := 6) (ret := some .long) (by decide) rfl (Nat.le_of_ble_eq_true rfl) ?_
  intro p e s m below meth c hx hb hr hml hts hown hlocks hnm hK hW hB hS ls hl
  have hu : ∀ w ∈ UW, w.before _ s = true := fun w h => hts w (uw_c w h)
  have hl : lv_has ls 6 [(0, .ref (ad.1 6 pp)), (1, .int (nI dd)), (2, .int (nI sv))] := hl
  have hX := hM.1
  have hA := hX.1
  have hG := hX.2.2
  have hb7 : S 7 0 ≤ 8 := hG.f 7 (mx := 8) (by decide)
  have hb11 : S 11 0 ≤ 20 := hG.f 11 (mx := 20) (by decide)
  have hb18 : S 18 0 ≤ 40 := hG.f 18 (mx := 40) (by decide)
  have hI : XW cA ad S d0 d0 := XW.start hM
  refine lv_aload_n hx hb dX5_mindsInState_0 rfl (lv_at hl 0 rfl) ?_
  refine lv_iload_n hx hb dX5_mindsInState_1 rfl (lv_at hl 1 rfl) ?_
  refine o_callv (o_runV (As := [.int (nI dd)]) (rest := []) ⟨hx, hb, hml, hown, hu⟩ (c_X5_goTo l D cA B0 ad hal S d0 hI.1 pp dd (by omega) (by omega)) (gV_X5_101 (fun _ h => h)) (n0 := 1) rfl (by decide +kernel) rfl ⟨Nat.le_of_ble_eq_true rfl, Nat.le_of_ble_eq_true rfl⟩ (o_recv hK hW (hA.pier (by omega)) (kX_6 _ _ _ _) rfl) hK hW hB hS hl.1 rfl (lv_room (Nat.le_of_ble_eq_true rfl)) ⟨Nat.zero_le _, Nat.zero_le _⟩ dX5_mindsInState_2) hS (fun dG q_2 H locs hW hS => ?_)
  obtain ⟨hq, hat, hF1⟩ := q_2
  have hI := hI.trans hq
  refine lv_lconst (v := 0) hx hb dX5_mindsInState_5 (by decide) ?_
  refine lv_lstore_n (lv' := [(3, .long 0), (0, .ref (ad.1 6 pp)), (1, .int (nI dd)), (2, .int (nI sv))]) hx hb dX5_mindsInState_6 rfl hl (by decide) rfl (fun ls hl => ?_)
  refine n_iconst (v := 0) hx hb dX5_mindsInState_7 (by decide) ?_
  refine lv_istore (lv' := [(5, .int (nI 0)), (3, .long 0), (0, .ref (ad.1 6 pp)), (1, .int (nI dd)), (2, .int (nI sv))]) hx hb dX5_mindsInState_8 hl (by decide) rfl (fun ls hl => ?_)
  have lp10 : ∀ (n : Nat) (bt : Int64) (k : Nat)  (H : Heap) (locs : List Loc) (ls : Array Slot), 64 - k < n → (k ≤ 64) → (bt = sBits (fun m => hasB x m && decide (sState S pp m dd = sv)) k) → oW D cA B0 ad dG H → va_S (oA B0) s.heap H locs → lv_has ls 6 [(0, .ref (ad.1 6 pp)), (1, .int (nI dd)), (2, .int (nI sv)), (3, .long bt), (5, .int (nI k))] → W p l e (oR 4 0 0) s m ([.ref (ad.1 6 pp), .int (nI dd), .int (nI sv)] : List Value).toArray below meth c H locs 0 0 (MQ below (oQl D cA B0 ad (fun r d1 => r = sSt S pp x dd sv ∧ XW cA ad S d0 d1 ∧ F1 pp d0 d1)) ([.ref (ad.1 6 pp), .int (nI dd), .int (nI sv)] : List Value).toArray s 0 0 (oA B0)) (F0 m 10 ls []) := by
    intro n
    induction n with
    | zero => intro bt k  H locs ls hmu; exact absurd hmu (Nat.not_lt_zero _)
    | succ n ih_lp10 =>
      intro bt k  H locs ls hmu hk hbt hW hS hl
      refine lv_iload hx hb dX5_mindsInState_10 (lv_at hl 4 rfl) ?_
      refine n_bipush (v := 64) hx hb dX5_mindsInState_12 (by decide) ?_
      refine n_icmp_ge (tgt := 52) hx hb (by omega) (by omega) dX5_mindsInState_14 (by decide) (fun c_3 => ?_) (fun c_3 => ?_)
      · refine lv_lload_n hx hb dX5_mindsInState_52 rfl (lv_at hl 3 rfl) ?_
        exact o_lret hx hb hr hlocks hW hS (⟨by rw [hbt, show k = 64 by omega]; rfl, hI, hF1⟩) dX5_mindsInState_53
      · refine lv_aload_n hx hb dX5_mindsInState_17 rfl (lv_at hl 0 rfl) ?_
        refine x_gl hx hb hu in_X5 hown hK hW (hA.pier (by omega)) (kX_6 _ _ _ _) rfl 12 (by decide) uF_X5_29 dX5_mindsInState_18 ?_
        refine n_topl (y := x) (by rw [hF1.2]; exact hx0) ?_
        refine lv_iload hx hb dX5_mindsInState_21 (lv_at hl 4 rfl) ?_
        refine o_calli (o_runSN (As := [.long x, .int (nI k)]) (rest := []) ⟨hx, hb, hml, hown, hu⟩ (c_X9_holds l D cA B0 ad hal dG x k (by omega)) uC_X9_holds uT_X9_holds uI_X9 uMN_X5_104 (n0 := 2) (by decide +kernel) rfl ⟨Nat.le_of_ble_eq_true rfl, Nat.le_of_ble_eq_true rfl⟩ hK hW hB hS hl.1 rfl (lv_room (Nat.le_of_ble_eq_true rfl)) ⟨Nat.zero_le _, Nat.zero_le _⟩ dX5_mindsInState_23) hS (fun r_5 d_4 q_6 H locs hW hS => ?_)
        obtain ⟨rfl, rfl⟩ := q_6
        refine lv_if_eq (tgt := 46) hx hb dX5_mindsInState_26 (by decide) (fun c_h => ?_) (fun c_h => ?_)
        · have hst : sBits (fun m => hasB x m && decide (sState S pp m dd = sv)) (k + 1) = sBits (fun m => hasB x m && decide (sState S pp m dd = sv)) k := by rw [sBits, if_neg (by rw [bI_z c_h, Bool.false_and]; decide)]
          refine n_iinc (q := 1) (lv' := [(5, .int (nI (k + 1))), (0, .ref (ad.1 6 pp)), (1, .int (nI dd)), (2, .int (nI sv)), (3, .long bt)]) hx hb dX5_mindsInState_46 hl (k := 4) rfl (by decide) (by decide) rfl (fun ls hl => ?_)
          refine lv_goto (tgt := 10) hx hb dX5_mindsInState_49 (by decide) ?_
          exact ih_lp10 bt (k + 1) _ _ ls (by omega) (by omega) (by rw [hst, ← hbt]) hW hS (lv_sub hl [1, 2, 3, 4, 0] rfl)
        · refine lv_aload_n hx hb dX5_mindsInState_29 rfl (lv_at hl 0 rfl) ?_
          refine lv_iload hx hb dX5_mindsInState_30 (lv_at hl 4 rfl) ?_
          refine o_calli (o_runV (As := [.int (nI k)]) (rest := []) ⟨hx, hb, hml, hown, hu⟩ (c_X5_stateBy l D cA B0 ad hal S dG hI.1.1 pp k (dd + 1) hp (by omega) hat) (gV_X5_111 (fun _ h => h)) (n0 := 1) rfl (by decide +kernel) rfl ⟨Nat.le_of_ble_eq_true rfl, Nat.le_of_ble_eq_true rfl⟩ (o_recv hK hW (hA.pier (by omega)) (kX_6 _ _ _ _) rfl) hK hW hB hS hl.1 rfl (lv_room (Nat.le_of_ble_eq_true rfl)) ⟨Nat.zero_le _, Nat.zero_le _⟩ dX5_mindsInState_32) hS (fun r_8 d_7 q_9 H locs hW hS => ?_)
          obtain ⟨rfl, rfl⟩ := q_9
          have hs2 := stW_le S pp (sHE S pp k (dd + 1)).2
          refine lv_iload_n hx hb dX5_mindsInState_35 rfl (lv_at hl 2 rfl) ?_
          refine n_icmp_ne (tgt := 46) hx hb (by omega) (by omega) dX5_mindsInState_36 (by decide) (fun c_s => ?_) (fun c_s => ?_)
          · have hst : sBits (fun m => hasB x m && decide (sState S pp m dd = sv)) (k + 1) = sBits (fun m => hasB x m && decide (sState S pp m dd = sv)) k := by rw [sBits, if_neg (by rw [decide_eq_false (show ¬ sState S pp k dd = sv from c_s), Bool.and_false]; decide)]
            refine n_iinc (q := 1) (lv' := [(5, .int (nI (k + 1))), (0, .ref (ad.1 6 pp)), (1, .int (nI dd)), (2, .int (nI sv)), (3, .long bt)]) hx hb dX5_mindsInState_46 hl (k := 4) rfl (by decide) (by decide) rfl (fun ls hl => ?_)
            refine lv_goto (tgt := 10) hx hb dX5_mindsInState_49 (by decide) ?_
            exact ih_lp10 bt (k + 1) _ _ ls (by omega) (by omega) (by rw [hst, ← hbt]) hW hS (lv_sub hl [1, 2, 3, 4, 0] rfl)
          · have hst : sBits (fun m => hasB x m && decide (sState S pp m dd = sv)) (k + 1) = sBits (fun m => hasB x m && decide (sState S pp m dd = sv)) k ||| lsl 1 k := by rw [sBits, if_pos (by rw [bI_n c_h, decide_eq_true (show sState S pp k dd = sv from c_s)]; rfl)]
            refine lv_lload_n hx hb dX5_mindsInState_39 rfl (lv_at hl 3 rfl) ?_
            refine lv_lconst (v := 1) hx hb dX5_mindsInState_40 (by decide) ?_
            refine lv_iload hx hb dX5_mindsInState_41 (lv_at hl 4 rfl) ?_
            refine lv_lshl (v := lsl 1 k) hx hb dX5_mindsInState_43 rfl ?_
            refine lv_lor hx hb dX5_mindsInState_44 ?_
            refine lv_lstore_n (lv' := [(3, .long (bt ||| (lsl 1 k))), (0, .ref (ad.1 6 pp)), (1, .int (nI dd)), (2, .int (nI sv)), (5, .int (nI k))]) hx hb dX5_mindsInState_45 rfl hl (by decide) rfl (fun ls hl => ?_)
            refine n_iinc (q := 1) (lv' := [(5, .int (nI (k + 1))), (3, .long (bt ||| (lsl 1 k))), (0, .ref (ad.1 6 pp)), (1, .int (nI dd)), (2, .int (nI sv))]) hx hb dX5_mindsInState_46 hl (k := 4) rfl (by decide) (by decide) rfl (fun ls hl => ?_)
            refine lv_goto (tgt := 10) hx hb dX5_mindsInState_49 (by decide) ?_
            exact ih_lp10 (bt ||| (lsl 1 k)) (k + 1) _ _ ls (by omega) (by omega) (by rw [hst, ← hbt]) hW hS (lv_sub hl [2, 3, 4, 1, 0] rfl)
  exact lp10 (65) 0 0 _ _ ls (by omega) (by omega) rfl hW hS (lv_sub hl [2, 3, 4, 1, 0] rfl)

set_option maxHeartbeats 400000 in
set_option maxRecDepth 100000 in
theorem c_X5_mindsThatSayYes (l : Launch) (D : va_G) (cA : Nat → ClassId) (B0 : Nat) (ad : kA) (hal : mAl ad) (S : sS) (d0 : kD) (hM : InvX cA ad S d0) (pp : Nat) (dd : Nat) (qq : Nat) (x : Int64) (hp : pp < S 7 0) (hd : dd < 400) (hq2 : qq < 2) (hx0 : d0.2.1 6 pp 12 = x) : oM l yX5_mindsThatSayYes wX5_mindsThatSayYes 5 0 0 D cA B0 ad d0 ([.ref (ad.1 6 pp), .int (nI dd), .int (nI qq)] : List Value) (oQl D cA B0 ad (fun r d1 => r = sYes S pp x dd qq ∧ XW cA ad S d0 d1 ∧ F1 pp d0 d1)) := by
  refine o_ofW (cc := cX5_mindsThatSayYes) (maxL := 3) (ret := some .long) (by decide) rfl (Nat.le_of_ble_eq_true rfl) ?_
  intro p e s m below meth c hx hb hr hml hts hown hlocks hnm hK hW hB hS ls hl
  have hu : ∀ w ∈ UW, w.before _ s = true := fun w h => hts w (uw_c w h)
  have hl : lv_has ls 3 [(0, .ref (ad.1 6 pp)), (1, .int (nI dd)), (2, .int (nI qq))] := hl
  have hX := hM.1
  have hA := hX.1
  have hG := hX.2.2
  have hb7 : S 7 0 ≤ 8 := hG.f 7 (mx := 8) (by decide)
  have hb11 : S 11 0 ≤ 20 := hG.f 11 (mx := 20) (by decide)
  have hb18 : S 18 0 ≤ 40 := hG.f 18 (mx := 40) (by decide)
  have hI : XW cA ad S d0 d0 := XW.start hM
  refine lv_aload_n hx hb dX5_mindsThatSayYes_0 rfl (lv_at hl 0 rfl) ?_
  refine lv_iload_n hx hb dX5_mindsThatSayYes_1 rfl (lv_at hl 1 rfl) ?_
  refine lv_iload_n hx hb dX5_mindsThatSayYes_2 rfl (lv_at hl 2 rfl) ?_
  have j11 : ∀ (sv : Nat)  (H : Heap) (locs : List Loc) (ls : Array Slot), (sv = 2 * qq) → oW D cA B0 ad d0 H → va_S (oA B0) s.heap H locs → lv_has ls 3 [(0, .ref (ad.1 6 pp)), (1, .int (nI dd)), (2, .int (nI qq))] → W p l e (oR 5 0 0) s m ([.ref (ad.1 6 pp), .int (nI dd), .int (nI qq)] : List Value).toArray below meth c H locs 0 0 (MQ below (oQl D cA B0 ad (fun r d1 => r = sYes S pp x dd qq ∧ XW cA ad S d0 d1 ∧ F1 pp d0 d1)) ([.ref (ad.1 6 pp), .int (nI dd), .int (nI qq)] : List Value).toArray s 0 0 (oA B0)) (F0 m 11 ls [.int (nI sv), .int (nI dd), .ref (ad.1 6 pp)]) := by
    intro sv  H locs ls hsv hW hS hl
    refine o_calll (o_runV (As := [.int (nI dd), .int (nI sv)]) (rest := []) ⟨hx, hb, hml, hown, hu⟩ (c_X5_mindsInState l D cA B0 ad hal S d0 hI.1 pp dd sv x hp hd (by omega) hx0) (gV_X5_114 (fun _ h => h)) (n0 := 2) rfl (by decide +kernel) rfl ⟨Nat.le_of_ble_eq_true rfl, Nat.le_of_ble_eq_true rfl⟩ (o_recv hK hW (hA.pier (by omega)) (kX_6 _ _ _ _) rfl) hK hW hB hS hl.1 rfl (lv_room (Nat.le_of_ble_eq_true rfl)) ⟨Nat.zero_le _, Nat.zero_le _⟩ dX5_mindsThatSayYes_11) hS (fun r_2 d_1 q_3 H locs hW hS => ?_)
    obtain ⟨rfl, hq, hF1⟩ := q_3
    have hI := hI.trans hq
    exact o_lret hx hb hr hlocks hW hS (⟨by rw [hsv]; rfl, hI, hF1⟩) dX5_mindsThatSayYes_14
  refine n_if_ne (tgt := 10) hx hb (by omega) dX5_mindsThatSayYes_3 (by decide) (fun c_4 => ?_) (fun c_4 => ?_)
  · refine n_iconst (v := 2) hx hb dX5_mindsThatSayYes_10 (by decide) ?_
    exact j11 2 _ _ ls (by omega) hW hS (lv_sub hl [0, 1, 2] rfl)
  · refine n_iconst (v := 0) hx hb dX5_mindsThatSayYes_6 (by decide) ?_
    refine lv_goto (tgt := 11) hx hb dX5_mindsThatSayYes_7 (by decide) ?_
    exact j11 0 _ _ ls (by omega) hW hS (lv_sub hl [0, 1, 2] rfl)

set_option maxHeartbeats 400000 in
set_option maxRecDepth 100000 in
theorem c_X5_greatestEver (l : Launch) (D : va_G) (cA : Nat → ClassId) (B0 : Nat) (ad : kA) (hal : mAl ad) (S : sS) (d0 : kD) (hM : InvX cA ad S d0) (pp : Nat) (dd : Nat) (x : Int64) (hp : pp < S 7 0) (hd : dd < 400) (hx0 : d0.2.1 6 pp 12 = x) : oM l yX5_greatestEver wX5_greatestEver 4 0 0 D cA B0 ad d0 ([.ref (ad.1 6 pp), .int (nI dd)] : List Value) (oQi D cA B0 ad (fun r d1 => r = nI (gEv S pp dd x 64) ∧ XW cA ad S d0 d1 ∧ F1 pp d0 d1)) := by
  refine o_ofW (cc := cX5_greatestEver) (maxL := 4) (ret := some .int) (by decide) rfl (Nat.le_of_ble_eq_true rfl) ?_
  intro p e s m below meth c hx hb hr hml hts hown hlocks hnm hK hW hB hS ls hl
  have hu : ∀ w ∈ UW, w.before _ s = true := fun w h => hts w (uw_c w h)
  have hl : lv_has ls 4 [(0, .ref (ad.1 6 pp)), (1, .int (nI dd))] := hl
  have hX := hM.1
  have hA := hX.1
  have hG := hX.2.2
  have hb7 : S 7 0 ≤ 8 := hG.f 7 (mx := 8) (by decide)
  have hb11 : S 11 0 ≤ 20 := hG.f 11 (mx := 20) (by decide)
  have hb18 : S 18 0 ≤ 40 := hG.f 18 (mx := 40) (by decide)
  have hI : XW cA ad S d0 d0 := XW.start hM
  refine lv_aload_n hx hb dX5_greatestEver_0 rfl (lv_at hl 0 rfl) ?_
  refine lv_iload_n hx hb dX5_greatestEver_1 rfl (lv_at hl 1 rfl) ?_
  refine o_callv (o_runV (As := [.int (nI dd)]) (rest := []) ⟨hx, hb, hml, hown, hu⟩ (c_X5_goTo l D cA B0 ad hal S d0 hI.1 pp dd (by omega) (by omega)) (gV_X5_101 (fun _ h => h)) (n0 := 1) rfl (by decide +kernel) rfl ⟨Nat.le_of_ble_eq_true rfl, Nat.le_of_ble_eq_true rfl⟩ (o_recv hK hW (hA.pier (by omega)) (kX_6 _ _ _ _) rfl) hK hW hB hS hl.1 rfl (lv_room (Nat.le_of_ble_eq_true rfl)) ⟨Nat.zero_le _, Nat.zero_le _⟩ dX5_greatestEver_2) hS (fun dG q_2 H locs hW hS => ?_)
  obtain ⟨hq, hat, hF1⟩ := q_2
  have hI := hI.trans hq
  refine n_iconst (v := 0) hx hb dX5_greatestEver_5 (by decide) ?_
  refine lv_istore_n (lv' := [(2, .int (nI 0)), (0, .ref (ad.1 6 pp)), (1, .int (nI dd))]) hx hb dX5_greatestEver_6 rfl hl (by decide) rfl (fun ls hl => ?_)
  refine n_iconst (v := 0) hx hb dX5_greatestEver_7 (by decide) ?_
  refine lv_istore_n (lv' := [(3, .int (nI 0)), (2, .int (nI 0)), (0, .ref (ad.1 6 pp)), (1, .int (nI dd))]) hx hb dX5_greatestEver_8 rfl hl (by decide) rfl (fun ls hl => ?_)
  have lp9 : ∀ (n : Nat) (bt : Nat) (k : Nat)  (H : Heap) (locs : List Loc) (ls : Array Slot), 64 - k < n → (k ≤ 64) → (bt = gEv S pp dd x k) → oW D cA B0 ad dG H → va_S (oA B0) s.heap H locs → lv_has ls 4 [(0, .ref (ad.1 6 pp)), (1, .int (nI dd)), (2, .int (nI bt)), (3, .int (nI k))] → W p l e (oR 4 0 0) s m ([.ref (ad.1 6 pp), .int (nI dd)] : List Value).toArray below meth c H locs 0 0 (MQ below (oQi D cA B0 ad (fun r d1 => r = nI (gEv S pp dd x 64) ∧ XW cA ad S d0 d1 ∧ F1 pp d0 d1)) ([.ref (ad.1 6 pp), .int (nI dd)] : List Value).toArray s 0 0 (oA B0)) (F0 m 9 ls []) := by
    intro n
    induction n with
    | zero => intro bt k  H locs ls hmu; exact absurd hmu (Nat.not_lt_zero _)
    | succ n ih_lp9 =>
      intro bt k  H locs ls hmu hk hbt hW hS hl
      have hge0 := gEv_le hG (p := pp) (by omega) dd x k
      refine lv_iload_n hx hb dX5_greatestEver_9 rfl (lv_at hl 3 rfl) ?_
      refine n_bipush (v := 64) hx hb dX5_greatestEver_10 (by decide) ?_
      refine n_icmp_ge (tgt := 42) hx hb (by omega) (by omega) dX5_greatestEver_12 (by decide) (fun c_3 => ?_) (fun c_3 => ?_)
      · refine lv_iload_n hx hb dX5_greatestEver_42 rfl (lv_at hl 2 rfl) ?_
        exact o_iret hx hb hr hlocks hW hS (⟨by rw [hbt, show k = 64 by omega], hI, hF1⟩) dX5_greatestEver_43
      · refine lv_aload_n hx hb dX5_greatestEver_15 rfl (lv_at hl 0 rfl) ?_
        refine x_gl hx hb hu in_X5 hown hK hW (hA.pier (by omega)) (kX_6 _ _ _ _) rfl 12 (by decide) uF_X5_29 dX5_greatestEver_16 ?_
        refine n_topl (y := x) (by rw [hF1.2]; exact hx0) ?_
        refine lv_iload_n hx hb dX5_greatestEver_19 rfl (lv_at hl 3 rfl) ?_
        refine o_calli (o_runSN (As := [.long x, .int (nI k)]) (rest := []) ⟨hx, hb, hml, hown, hu⟩ (c_X9_holds l D cA B0 ad hal dG x k (by omega)) uC_X9_holds uT_X9_holds uI_X9 uMN_X5_104 (n0 := 2) (by decide +kernel) rfl ⟨Nat.le_of_ble_eq_true rfl, Nat.le_of_ble_eq_true rfl⟩ hK hW hB hS hl.1 rfl (lv_room (Nat.le_of_ble_eq_true rfl)) ⟨Nat.zero_le _, Nat.zero_le _⟩ dX5_greatestEver_20) hS (fun r_5 d_4 q_6 H locs hW hS => ?_)
        obtain ⟨rfl, rfl⟩ := q_6
        refine lv_if_eq (tgt := 36) hx hb dX5_greatestEver_23 (by decide) (fun c_h => ?_) (fun c_h => ?_)
        · have hst : gEv S pp dd x (k + 1) = gEv S pp dd x k := by rw [gEv, if_neg (by rw [bI_z c_h]; decide)]
          refine n_iinc (q := 1) (lv' := [(3, .int (nI (k + 1))), (0, .ref (ad.1 6 pp)), (1, .int (nI dd)), (2, .int (nI bt))]) hx hb dX5_greatestEver_36 hl (k := 3) rfl (by decide) (by decide) rfl (fun ls hl => ?_)
          refine lv_goto (tgt := 9) hx hb dX5_greatestEver_39 (by decide) ?_
          exact ih_lp9 bt (k + 1) _ _ ls (by omega) (by omega) (by rw [hst, ← hbt]) hW hS (lv_sub hl [1, 2, 3, 0] rfl)
        · have hst : gEv S pp dd x (k + 1) = max (gEv S pp dd x k) (sHE S pp k (dd + 1)).2 := by rw [gEv, if_pos (bI_n c_h)]; rfl
          have hev := sHE_le hG (p := pp) (m := k) (by omega) (dd + 1)
          have hge := gEv_le hG (p := pp) (by omega) dd x k
          refine lv_iload_n hx hb dX5_greatestEver_26 rfl (lv_at hl 2 rfl) ?_
          refine lv_aload_n hx hb dX5_greatestEver_27 rfl (lv_at hl 0 rfl) ?_
          refine lv_iload_n hx hb dX5_greatestEver_28 rfl (lv_at hl 3 rfl) ?_
          refine o_calli (o_runV (As := [.int (nI k)]) (rest := [.int (nI bt)]) ⟨hx, hb, hml, hown, hu⟩ (c_X5_everBy l D cA B0 ad hal S dG hI.1.1 pp k (dd + 1) hp (by omega) hat) (gV_X5_92 (fun _ h => h)) (n0 := 1) rfl (by decide +kernel) rfl ⟨Nat.le_of_ble_eq_true rfl, Nat.le_of_ble_eq_true rfl⟩ (o_recv hK hW (hA.pier (by omega)) (kX_6 _ _ _ _) rfl) hK hW hB hS hl.1 rfl (lv_room (Nat.le_of_ble_eq_true rfl)) ⟨Nat.zero_le _, Nat.zero_le _⟩ dX5_greatestEver_29) hS (fun r_8 d_7 q_9 H locs hW hS => ?_)
          obtain ⟨rfl, rfl⟩ := q_9
          refine va_mmax hx hb (hml.trans hl.1.symm) hown (hu _ uM_X5_108) (hu _ uT_J9_max_7cf53) (hu _ uI_J9) (hu _ uC_J9_max_7cf53) (Nat.le_of_ble_eq_true rfl) (Nat.le_of_ble_eq_true rfl) (Nat.le_of_ble_eq_true rfl) (Nat.le_of_ble_eq_true rfl) dX5_greatestEver_32 ?_
          refine n_topi (y := nI (max bt ((sHE S pp k (dd + 1)).2))) (n_max (by omega) (by omega)) ?_
          refine lv_istore_n (lv' := [(2, .int (nI (max bt ((sHE S pp k (dd + 1)).2)))), (0, .ref (ad.1 6 pp)), (1, .int (nI dd)), (3, .int (nI k))]) hx hb dX5_greatestEver_35 rfl hl (by decide) rfl (fun ls hl => ?_)
          refine n_iinc (q := 1) (lv' := [(3, .int (nI (k + 1))), (2, .int (nI (max bt ((sHE S pp k (dd + 1)).2)))), (0, .ref (ad.1 6 pp)), (1, .int (nI dd))]) hx hb dX5_greatestEver_36 hl (k := 3) rfl (by decide) (by decide) rfl (fun ls hl => ?_)
          refine lv_goto (tgt := 9) hx hb dX5_greatestEver_39 (by decide) ?_
          exact ih_lp9 (max bt ((sHE S pp k (dd + 1)).2)) (k + 1) _ _ ls (by omega) (by omega) (by rw [hst, ← hbt]) hW hS (lv_sub hl [2, 3, 1, 0] rfl)
  exact lp9 (65) 0 0 _ _ ls (by omega) (by omega) rfl hW hS (lv_sub hl [2, 3, 1, 0] rfl)

set_option maxHeartbeats 400000 in
set_option maxRecDepth 100000 in
theorem c_X5_firstDay (l : Launch) (D : va_G) (cA : Nat → ClassId) (B0 : Nat) (ad : kA) (hal : mAl ad) (S : sS) (d0 : kD) (hX : XB cA ad S d0) (pp : Nat) (mm : Nat) (sv : Nat) (hp : pp < S 7 0) (hm : mm < 64) (hs1 : 1 ≤ sv) (hs2 : sv ≤ 2) : oM l yX5_firstDay wX5_firstDay 3 0 0 D cA B0 ad d0 ([.ref (ad.1 6 pp), .int (nI mm), .int (nI sv)] : List Value) (oQi D cA B0 ad (fun r d1 => r = wn S pp mm (sv - 1) 400 0 ∧ d0 = d1)) := by
  refine o_ofW (cc := cX5_firstDay) (maxL := 5) (ret := some .int) (by decide) rfl (Nat.le_of_ble_eq_true rfl) ?_
  intro p e s m below meth c hx hb hr hml hts hown hlocks hnm hK hW hB hS ls hl
  have hu : ∀ w ∈ UW, w.before _ s = true := fun w h => hts w (uw_c w h)
  have hl : lv_has ls 5 [(0, .ref (ad.1 6 pp)), (1, .int (nI mm)), (2, .int (nI sv))] := hl
  have hA := hX.1
  have hG := hX.2.2
  have hb7 : S 7 0 ≤ 8 := hG.f 7 (mx := 8) (by decide)
  have hb11 : S 11 0 ≤ 20 := hG.f 11 (mx := 20) (by decide)
  have hb18 : S 18 0 ≤ 40 := hG.f 18 (mx := 40) (by decide)
  refine n_iconst (v := 0) hx hb dX5_firstDay_0 (by decide) ?_
  refine lv_istore_n (lv' := [(3, .int (nI 0)), (0, .ref (ad.1 6 pp)), (1, .int (nI mm)), (2, .int (nI sv))]) hx hb dX5_firstDay_1 rfl hl (by decide) rfl (fun ls hl => ?_)
  refine n_iconst (v := 0) hx hb dX5_firstDay_2 (by decide) ?_
  refine lv_istore (lv' := [(4, .int (nI 0)), (3, .int (nI 0)), (0, .ref (ad.1 6 pp)), (1, .int (nI mm)), (2, .int (nI sv))]) hx hb dX5_firstDay_3 hl (by decide) rfl (fun ls hl => ?_)
  have lp5 : ∀ (n : Nat) (nw : Nat) (k : Nat)  (H : Heap) (locs : List Loc) (ls : Array Slot), 400 - k < n → (k ≤ 400) → (nw = pkd (sHE S pp mm k)) → (wn S pp mm (sv - 1) 400 0 = wn S pp mm (sv - 1) (400 - k) k) → oW D cA B0 ad d0 H → va_S (oA B0) s.heap H locs → lv_has ls 5 [(0, .ref (ad.1 6 pp)), (1, .int (nI mm)), (2, .int (nI sv)), (3, .int (nI nw)), (4, .int (nI k))] → W p l e (oR 3 0 0) s m ([.ref (ad.1 6 pp), .int (nI mm), .int (nI sv)] : List Value).toArray below meth c H locs 0 0 (MQ below (oQi D cA B0 ad (fun r d1 => r = wn S pp mm (sv - 1) 400 0 ∧ d0 = d1)) ([.ref (ad.1 6 pp), .int (nI mm), .int (nI sv)] : List Value).toArray s 0 0 (oA B0)) (F0 m 5 ls []) := by
    intro n
    induction n with
    | zero => intro nw k  H locs ls hmu; exact absurd hmu (Nat.not_lt_zero _)
    | succ n ih_lp5 =>
      intro nw k  H locs ls hmu hk hnw hwn hW hS hl
      have hle := sHE_le hG (p := pp) (m := mm) (by omega) k
      have hle2 := sHE_le hG (p := pp) (m := mm) (by omega) (k + 1)
      refine lv_iload hx hb dX5_firstDay_5 (lv_at hl 4 rfl) ?_
      refine n_sipush (v := 400) hx hb dX5_firstDay_7 (by decide) ?_
      refine n_icmp_ge (tgt := 50) hx hb (by omega) (by omega) dX5_firstDay_10 (by decide) (fun c_1 => ?_) (fun c_1 => ?_)
      · refine lv_iconst (v := -1) hx hb dX5_firstDay_50 (by decide) ?_
        exact o_iret hx hb hr hlocks hW hS (⟨by rw [hwn, show 400 - k = 0 by omega]; rfl, rfl⟩) dX5_firstDay_51
      · refine lv_iload_n hx hb dX5_firstDay_13 rfl (lv_at hl 3 rfl) ?_
        refine n_top (b := pkd (sHE S pp mm k)) (hnw) ?_
        refine lv_aload_n hx hb dX5_firstDay_14 rfl (lv_at hl 0 rfl) ?_
        refine lv_iload_n hx hb dX5_firstDay_15 rfl (lv_at hl 1 rfl) ?_
        refine lv_iload hx hb dX5_firstDay_16 (lv_at hl 4 rfl) ?_
        refine o_calli (o_runV (As := [.int (nI mm), .int (nI k)]) (rest := [.int (nI (pkd (sHE S pp mm k)))]) ⟨hx, hb, hml, hown, hu⟩ (c_X5_goalBy l D cA B0 ad hal S d0 hX pp mm k (by omega) (by omega) (by omega)) (gV_X5_98 (fun _ h => h)) (n0 := 2) rfl (by decide +kernel) rfl ⟨Nat.le_of_ble_eq_true rfl, Nat.le_of_ble_eq_true rfl⟩ (o_recv hK hW (hA.pier (by omega)) (kX_6 _ _ _ _) rfl) hK hW hB hS hl.1 rfl (lv_room (Nat.le_of_ble_eq_true rfl)) ⟨Nat.zero_le _, Nat.zero_le _⟩ dX5_firstDay_18) hS (fun r_3 d_2 q_4 H locs hW hS => ?_)
        obtain ⟨rfl, rfl⟩ := q_4
        have hgl : sGoal S pp mm k ≤ 200 := Nat.le_trans (Nat.min_le_left _ _) (hG.a 4 pp (n := 8) (mx := 200) (by decide) (by omega))
        refine lv_iload_n hx hb dX5_firstDay_21 rfl (lv_at hl 1 rfl) ?_
        refine n_bipush (v := 8) hx hb dX5_firstDay_22 (by decide) ?_
        refine n_irem hx hb (by omega) (by omega) (by omega) dX5_firstDay_24 ?_
        refine o_calli (o_runS (As := [.int (nI (pkd (sHE S pp mm k))), .int (nI (sGoal S pp mm k)), .int (nI (mm % 8))]) (rest := []) ⟨hx, hb, hml, hown, hu⟩ (c_X5_behindDay l D cA B0 ad hal d0 (sHE S pp mm k) (sGoal S pp mm k) (mm % 8) hle.1 hle.2 hgl (by omega)) (gS_X5_75 (fun _ h => h)) (n0 := 3) rfl (by decide +kernel) rfl ⟨Nat.le_of_ble_eq_true rfl, Nat.le_of_ble_eq_true rfl⟩ hK hW hB hS hl.1 rfl (lv_room (Nat.le_of_ble_eq_true rfl)) ⟨Nat.zero_le _, Nat.zero_le _⟩ dX5_firstDay_25) hS (fun r_6 d_5 q_7 H locs hW hS => ?_)
        obtain ⟨rfl, rfl⟩ := q_7
        refine n_topi (y := nI (pkd (sHE S pp mm (k + 1)))) rfl ?_
        refine lv_istore_n (lv' := [(3, .int (nI (pkd (sStep (sHE S pp mm k).1 (sGoal S pp mm k) (mm % 8), max (sHE S pp mm k).2 (sStep (sHE S pp mm k).1 (sGoal S pp mm k) (mm % 8)))))), (0, .ref (ad.1 6 pp)), (1, .int (nI mm)), (2, .int (nI sv)), (4, .int (nI k))]) hx hb dX5_firstDay_28 rfl hl (by decide) rfl (fun ls hl => ?_)
        refine lv_aload_n hx hb dX5_firstDay_29 rfl (lv_at hl 1 rfl) ?_
        refine lv_iload_n hx hb dX5_firstDay_30 rfl (lv_at hl 0 rfl) ?_
        refine n_bipush (v := 8) hx hb dX5_firstDay_31 (by decide) ?_
        refine lv_ishr hx hb dX5_firstDay_33 ?_
        refine n_topi (y := nI ((sHE S pp mm (k + 1)).2)) (pkd_hi hle2.1 hle2.2) ?_
        refine o_calli (o_runV (As := [.int (nI ((sHE S pp mm (k + 1)).2))]) (rest := []) ⟨hx, hb, hml, hown, hu⟩ (c_X5_stateWith l D cA B0 ad hal S d0 hX pp ((sHE S pp mm (k + 1)).2) (by omega) (by omega)) (gV_X5_95 (fun _ h => h)) (n0 := 1) rfl (by decide +kernel) rfl ⟨Nat.le_of_ble_eq_true rfl, Nat.le_of_ble_eq_true rfl⟩ (o_recv hK hW (hA.pier (by omega)) (kX_6 _ _ _ _) rfl) hK hW hB hS hl.1 rfl (lv_room (Nat.le_of_ble_eq_true rfl)) ⟨Nat.zero_le _, Nat.zero_le _⟩ dX5_firstDay_34) hS (fun r_9 d_8 q_10 H locs hW hS => ?_)
        obtain ⟨rfl, rfl⟩ := q_10
        have hs3 := stW_le S pp (sHE S pp mm (k + 1)).2
        refine lv_iload_n hx hb dX5_firstDay_37 rfl (lv_at hl 3 rfl) ?_
        refine n_icmp_lt (tgt := 44) hx hb (by omega) (by omega) dX5_firstDay_38 (by decide) (fun c_s => ?_) (fun c_s => ?_)
        · have hst : wn S pp mm (sv - 1) (400 - k) k = wn S pp mm (sv - 1) (400 - (k + 1)) (k + 1) := by rw [show 400 - k = (400 - (k + 1)) + 1 by omega, wn, if_neg (by show ¬ sv - 1 < stW S pp (sHE S pp mm (k + 1)).2; omega)]
          refine n_iinc (q := 1) (lv' := [(4, .int (nI (k + 1))), (3, .int (nI (pkd (sStep (sHE S pp mm k).1 (sGoal S pp mm k) (mm % 8), max (sHE S pp mm k).2 (sStep (sHE S pp mm k).1 (sGoal S pp mm k) (mm % 8)))))), (0, .ref (ad.1 6 pp)), (1, .int (nI mm)), (2, .int (nI sv))]) hx hb dX5_firstDay_44 hl (k := 4) rfl (by decide) (by decide) rfl (fun ls hl => ?_)
          refine lv_goto (tgt := 5) hx hb dX5_firstDay_47 (by decide) ?_
          exact ih_lp5 (pkd (sStep (sHE S pp mm k).1 (sGoal S pp mm k) (mm % 8), max (sHE S pp mm k).2 (sStep (sHE S pp mm k).1 (sGoal S pp mm k) (mm % 8)))) (k + 1) _ _ ls (by omega) (by omega) rfl (by rw [hwn, hst]) hW hS (lv_sub hl [2, 3, 4, 1, 0] rfl)
        · refine lv_iload hx hb dX5_firstDay_41 (lv_at hl 4 rfl) ?_
          exact o_iret hx hb hr hlocks hW hS (⟨by rw [hwn, show 400 - k = (400 - (k + 1)) + 1 by omega, wn, if_pos (by show sv - 1 < stW S pp (sHE S pp mm (k + 1)).2; omega)], rfl⟩) dX5_firstDay_43
  exact lp5 (401) 0 0 _ _ ls (by omega) (by omega) rfl rfl hW hS (lv_sub hl [2, 3, 4, 1, 0] rfl)
