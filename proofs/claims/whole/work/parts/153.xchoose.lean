set_option maxHeartbeats 400000 in
set_option maxRecDepth 100000 in
theorem c_X9_findLacking (l : Launch) (D : va_G) (cA : Nat → ClassId) (B0 : Nat) (ad : kA) (hal : mAl ad) (S : sS) (d0 : kD) (hM : InvX cA ad S d0) (dd : Nat) (hd : dd < 400) : oM l yX9_findLacking wX9_findLacking 6 0 0 D cA B0 ad d0 ([.ref (ad.1 0 0), .int (nI dd)] : List Value) (oQv D cA B0 ad (fun d1 => XX cA ad S d0 d1 ∧ LA S dd (S 7 0) d1)) := by
  refine o_ofW (cc := cX9_findLacking) (maxL := 4) (ret := none) (by decide) rfl (Nat.le_of_ble_eq_true rfl) ?_
  intro p e s m below meth c hx hb hr hml hts hown hlocks hnm hK hW hB hS ls hl
  have hu : ∀ w ∈ UW, w.before _ s = true := fun w h => hts w (uw_c w h)
  have hl : lv_has ls 4 [(0, .ref (ad.1 0 0)), (1, .int (nI dd))] := hl
  have hX := hM.1
  have hA := hX.1
  have hG := hX.2.2
  have hb7 : S 7 0 ≤ 8 := hG.f 7 (mx := 8) (by decide)
  have hb11 : S 11 0 ≤ 20 := hG.f 11 (mx := 20) (by decide)
  have hb18 : S 18 0 ≤ 40 := hG.f 18 (mx := 40) (by decide)
  have hI : XX cA ad S d0 d0 := XX.start hM
  have hb1 : S 1 0 ≤ 4 := hG.f 1 (mx := 4) (by decide)
  have hb19 : S 19 0 ≤ 399 := hG.f 19 (mx := 399) (by decide)
  have hb22 : S 22 0 ≤ 64 := hG.f 22 (mx := 64) (by decide)
  have hb25 : S 25 0 ≤ 4 := hG.f 25 (mx := 4) (by decide)
  have hb30 : S 30 0 ≤ 10 := hG.f 30 (mx := 10) (by decide)
  have hb32 : S 32 0 ≤ 64 := hG.f 32 (mx := 64) (by decide)
  refine lv_aload_n hx hb dX9_findLacking_0 rfl (lv_at hl 0 rfl) ?_
  refine lv_aload_n hx hb dX9_findLacking_1 rfl (lv_at hl 0 rfl) ?_
  refine x_gi hx hb hu in_X9 hown hK hW (hA.o (k := 0) rfl) (kX_0 _ _ _ _) rfl 15 (by decide) uF_X9_78 dX9_findLacking_2 ?_
  refine n_topi (y := nI (S 19 0)) (hI.1.1.2.1.as) ?_
  have b_1 : S 19 0 ≤ 399 := hG.f 19 (mx := 399) (by decide)
  refine o_callv (o_runV (As := [.int (nI (S 19 0))]) (rest := []) ⟨hx, hb, hml, hown, hu⟩ (c_X9_findKept l D cA B0 ad hal S d0 hI.1 (S 19 0) (by omega)) (gV_X9_160 (fun _ h => h)) (n0 := 1) rfl (by decide +kernel) rfl ⟨Nat.le_of_ble_eq_true rfl, Nat.le_of_ble_eq_true rfl⟩ (o_recv hK hW (hA.o (k := 0) rfl) (kX_0 _ _ _ _) rfl) hK hW hB hS hl.1 rfl (lv_room (Nat.le_of_ble_eq_true rfl)) ⟨Nat.zero_le _, Nat.zero_le _⟩ dX9_findLacking_5) hS (fun d_2 q_4 H locs hW hS => ?_)
  obtain ⟨hq, hKP⟩ := q_4
  have hI := hI.k hq
  refine n_iconst (v := 0) hx hb dX9_findLacking_8 (by decide) ?_
  refine lv_istore_n (lv' := [(2, .int (nI 0)), (0, .ref (ad.1 0 0)), (1, .int (nI dd))]) hx hb dX9_findLacking_9 rfl hl (by decide) rfl (fun ls hl => ?_)
  have lp10 : ∀ (n : Nat) (k : Nat)  (d : kD) (H : Heap) (locs : List Loc) (ls : Array Slot), S 7 0 - k < n → (k ≤ S 7 0) → (XX cA ad S d0 d) → (KP S (S 19 0) d) → (LA S dd k d) → oW D cA B0 ad d H → va_S (oA B0) s.heap H locs → lv_has ls 4 [(0, .ref (ad.1 0 0)), (1, .int (nI dd)), (2, .int (nI k))] → W p l e (oR 6 0 0) s m ([.ref (ad.1 0 0), .int (nI dd)] : List Value).toArray below meth c H locs 0 0 (MQ below (oQv D cA B0 ad (fun d1 => XX cA ad S d0 d1 ∧ LA S dd (S 7 0) d1)) ([.ref (ad.1 0 0), .int (nI dd)] : List Value).toArray s 0 0 (oA B0)) (F0 m 10 ls []) := by
    intro n
    induction n with
    | zero => intro k  d H locs ls hmu; exact absurd hmu (Nat.not_lt_zero _)
    | succ n ih_lp10 =>
      intro k  d H locs ls hmu hk hI hKP hLA hW hS hl
      refine lv_iload_n hx hb dX9_findLacking_10 rfl (lv_at hl 2 rfl) ?_
      refine lv_aload_n hx hb dX9_findLacking_11 rfl (lv_at hl 0 rfl) ?_
      refine x_gr hx hb hu in_X9 hown hK hW (hA.o (k := 0) rfl) (kX_0 _ _ _ _) rfl 2 (by decide) uF_X9_21 (hA.f 2 (k := 4) (i := 0) (by decide) (hA.li (by omega))) dX9_findLacking_12 ?_
      refine o_calli (o_runV (As := []) (rest := [.int (nI k)]) ⟨hx, hb, hml, hown, hu⟩ (c_Jx4a65c_size_8abf5 l D cA B0 ad hal S d hI.1.1 0 (by decide)) (gV_X9_105 (fun _ h => h)) (n0 := 0) rfl (by decide +kernel) rfl ⟨Nat.le_of_ble_eq_true rfl, Nat.le_of_ble_eq_true rfl⟩ (o_recv hK hW (hA.li (by omega)) (kX_4 _ _ _ _) rfl) hK hW hB hS hl.1 rfl (lv_room (Nat.le_of_ble_eq_true rfl)) ⟨Nat.zero_le _, Nat.zero_le _⟩ dX9_findLacking_15) hS (fun r_6 d_5 q_7 H locs hW hS => ?_)
      obtain ⟨rfl, rfl⟩ := q_7
      refine n_topi (y := nI (S 7 0)) rfl ?_
      refine n_icmp_ge (tgt := 84) hx hb (by omega) (by omega) dX9_findLacking_18 (by decide) (fun c_e => ?_) (fun c_e => ?_)
      · exact o_vret hx hb hr hlocks hW hS (⟨hI, (show k = S 7 0 by omega) ▸ hLA⟩) dX9_findLacking_84
      · refine lv_iload_n hx hb dX9_findLacking_21 rfl (lv_at hl 2 rfl) ?_
        refine lv_aload_n hx hb dX9_findLacking_22 rfl (lv_at hl 0 rfl) ?_
        refine x_gr hx hb hu in_X9 hown hK hW (hA.o (k := 0) rfl) (kX_0 _ _ _ _) rfl 11 (by decide) uF_X9_65 (hA.f 11 (k := 26) (i := 0) (by decide) (hA.o (k := 26) rfl)) dX9_findLacking_23 ?_
        refine x_len hx hb hK hW (hA.o (k := 26) rfl) 0 (kX_26 _ _ _ _) rfl dX9_findLacking_26 ?_
        refine n_icmp_ge (tgt := 84) hx hb (by omega) (by omega) dX9_findLacking_27 (by decide) (fun c_l => ?_) (fun c_l => ?_)
        · exfalso; omega
        · refine lv_aload_n hx hb dX9_findLacking_30 rfl (lv_at hl 0 rfl) ?_
          refine x_gr hx hb hu in_X9 hown hK hW (hA.o (k := 0) rfl) (kX_0 _ _ _ _) rfl 2 (by decide) uF_X9_21 (hA.f 2 (k := 4) (i := 0) (by decide) (hA.li (by omega))) dX9_findLacking_31 ?_
          refine lv_iload_n hx hb dX9_findLacking_34 rfl (lv_at hl 2 rfl) ?_
          refine o_callq (o_runV (As := [.int (nI k)]) (rest := []) ⟨hx, hb, hml, hown, hu⟩ (c_Jx4a65c_get_915e3 l D cA B0 ad hal S d hI.1.1 0 k (by decide) (show k < S 7 0 by omega)) (gV_X9_109 (fun _ h => h)) (n0 := 1) rfl (by decide +kernel) rfl ⟨Nat.le_of_ble_eq_true rfl, Nat.le_of_ble_eq_true rfl⟩ (o_recv hK hW (hA.li (by omega)) (kX_4 _ _ _ _) rfl) hK hW hB hS hl.1 rfl (lv_room (Nat.le_of_ble_eq_true rfl)) ⟨Nat.zero_le _, Nat.zero_le _⟩ dX9_findLacking_35) hS (fun r_9 d_8 q_10 H locs hW hS => ?_)
          obtain ⟨rfl, rfl⟩ := q_10
          refine W.eq (g2 := F0 m 38 ls [.ref (ad.1 6 k)]) rfl ?_
          refine x_cast hx hb hu hown uL_X9_113 hK hW (hA.pier (by omega)) (kX_6 _ _ _ _) rfl dX9_findLacking_38 ?_
          refine lv_astore_n (lv' := [(3, .ref (ad.1 6 k)), (0, .ref (ad.1 0 0)), (1, .int (nI dd)), (2, .int (nI k))]) hx hb dX9_findLacking_41 rfl hl (by decide) rfl (fun ls hl => ?_)
          refine lv_aload_n hx hb dX9_findLacking_42 rfl (lv_at hl 1 rfl) ?_
          refine x_gr hx hb hu in_X9 hown hK hW (hA.o (k := 0) rfl) (kX_0 _ _ _ _) rfl 11 (by decide) uF_X9_65 (hA.f 11 (k := 26) (i := 0) (by decide) (hA.o (k := 26) rfl)) dX9_findLacking_43 ?_
          refine lv_iload_n hx hb dX9_findLacking_46 rfl (lv_at hl 3 rfl) ?_
          refine lv_aload_n hx hb dX9_findLacking_47 rfl (lv_at hl 0 rfl) ?_
          refine x_gl hx hb hu in_X5 hown hK hW (hA.pier (by omega)) (kX_6 _ _ _ _) rfl 12 (by decide) uF_X9_171 dX9_findLacking_48 ?_
          refine n_topl (y := sKept S k (S 19 0)) ((hKP.1 k (by omega)).2) ?_
          refine lv_lconst (v := 0) hx hb dX9_findLacking_51 (by decide) ?_
          refine W.lcmp hx hb dX9_findLacking_52 ?_
          refine lv_if_ne (tgt := 62) hx hb dX9_findLacking_53 (by decide) (fun c_z => ?_) (fun c_z => ?_)
          · have hlv : lkI S k dd (sKept S k (S 19 0)) = nI (gEv S k dd (sKept S k (S 19 0)) 64) - nI (S 5 k) - nI (S 6 k) := by unfold lkI; rw [if_neg (lg0n c_z)]
            refine lv_aload_n hx hb dX9_findLacking_62 rfl (lv_at hl 0 rfl) ?_
            refine lv_iload_n hx hb dX9_findLacking_63 rfl (lv_at hl 2 rfl) ?_
            refine o_calli (o_runV (As := [.int (nI dd)]) (rest := [.int (nI k), .ref (ad.1 26 0)]) ⟨hx, hb, hml, hown, hu⟩ (c_X5_greatestEver l D cA B0 ad hal S d hI.1 k dd (sKept S k (S 19 0)) (by omega) (by omega) ((hKP.1 k (by omega)).2)) (gV_X9_351 (fun _ h => h)) (n0 := 1) rfl (by decide +kernel) rfl ⟨Nat.le_of_ble_eq_true rfl, Nat.le_of_ble_eq_true rfl⟩ (o_recv hK hW (hA.pier (by omega)) (kX_6 _ _ _ _) rfl) hK hW hB hS hl.1 rfl (lv_room (Nat.le_of_ble_eq_true rfl)) ⟨Nat.zero_le _, Nat.zero_le _⟩ dX9_findLacking_64) hS (fun r_12 d_11 q_13 H locs hW hS => ?_)
            obtain ⟨rfl, hq, hF1⟩ := q_13
            have hI := hI.w hq
            have hKP := hKP.fr hq.2
            have hLA := hLA.fw hq.2
            refine lv_aload_n hx hb dX9_findLacking_67 rfl (lv_at hl 0 rfl) ?_
            refine x_gi hx hb hu in_X5 hown hK hW (hA.pier (by omega)) (kX_6 _ _ _ _) rfl 3 (by decide) uF_X9_354 dX9_findLacking_68 ?_
            refine n_topi (y := nI (S 5 k)) (hI.1.1.2.1.pier (by omega) 3 (by decide)) ?_
            have b_14 : S 5 k ≤ 99 := hG.a 5 k (n := 8) (mx := 99) (by decide) (by omega)
            refine lv_isub hx hb dX9_findLacking_71 ?_
            refine lv_aload_n hx hb dX9_findLacking_72 rfl (lv_at hl 0 rfl) ?_
            refine x_gi hx hb hu in_X5 hown hK hW (hA.pier (by omega)) (kX_6 _ _ _ _) rfl 4 (by decide) uF_X9_357 dX9_findLacking_73 ?_
            refine n_topi (y := nI (S 6 k)) (hI.1.1.2.1.pier (by omega) 4 (by decide)) ?_
            have b_15 : S 6 k ≤ 99 := hG.a 6 k (n := 8) (mx := 99) (by decide) (by omega)
            refine lv_isub hx hb dX9_findLacking_76 ?_
            refine x_is hx hb hK hW hS (hA.o (k := 26) rfl) (kI_26 _ _ _ _) (by decide) (by omega) dX9_findLacking_77 (fun H locs hW hS => ?_)
            have hI := hI.uIk 26 0 k (((nI (gEv S k dd (sKept S k (S 19 0)) 64)) - (nI (S 5 k))) - (nI (S 6 k))) (by decide)
            have hLA := hLA.st (v := ((nI (gEv S k dd (sKept S k (S 19 0)) 64)) - (nI (S 5 k))) - (nI (S 6 k))) hlv.symm
            have hKP : KP S (S 19 0) (uI d_11 26 0 k (((nI (gEv S k dd (sKept S k (S 19 0)) 64)) - (nI (S 5 k))) - (nI (S 6 k)))) := ⟨hKP.1, fun b hb => by rw [uI_k _ _ _ _ (by decide)]; exact hKP.2.1 b hb, hKP.2.2⟩
            refine n_iinc (q := 1) (lv' := [(2, .int (nI (k + 1))), (3, .ref (ad.1 6 k)), (0, .ref (ad.1 0 0)), (1, .int (nI dd))]) hx hb dX9_findLacking_78 hl (k := 3) rfl (by decide) (by decide) rfl (fun ls hl => ?_)
            refine lv_goto (tgt := 10) hx hb dX9_findLacking_81 (by decide) ?_
            exact ih_lp10 (k + 1) (uI d_11 26 0 k (((nI (gEv S k dd (sKept S k (S 19 0)) 64)) - (nI (S 5 k))) - (nI (S 6 k)))) _ _ ls (by omega) (by omega) hI hKP hLA hW hS (lv_sub hl [2, 3, 0] rfl)
          · have hlv : lkI S k dd (sKept S k (S 19 0)) = nI 1001 := by unfold lkI; rw [if_pos (lg0 c_z)]
            refine n_sipush (v := 1001) hx hb dX9_findLacking_56 (by decide) ?_
            refine lv_goto (tgt := 77) hx hb dX9_findLacking_59 (by decide) ?_
            refine x_is hx hb hK hW hS (hA.o (k := 26) rfl) (kI_26 _ _ _ _) (by decide) (by omega) dX9_findLacking_77 (fun H locs hW hS => ?_)
            have hI := hI.uIk 26 0 k (nI 1001) (by decide)
            have hLA := hLA.st (v := nI 1001) hlv.symm
            have hKP : KP S (S 19 0) (uI d 26 0 k (nI 1001)) := ⟨hKP.1, fun b hb => by rw [uI_k _ _ _ _ (by decide)]; exact hKP.2.1 b hb, hKP.2.2⟩
            refine n_iinc (q := 1) (lv' := [(2, .int (nI (k + 1))), (3, .ref (ad.1 6 k)), (0, .ref (ad.1 0 0)), (1, .int (nI dd))]) hx hb dX9_findLacking_78 hl (k := 3) rfl (by decide) (by decide) rfl (fun ls hl => ?_)
            refine lv_goto (tgt := 10) hx hb dX9_findLacking_81 (by decide) ?_
            exact ih_lp10 (k + 1) (uI d 26 0 k (nI 1001)) _ _ ls (by omega) (by omega) hI hKP hLA hW hS (lv_sub hl [2, 3, 0] rfl)
  exact lp10 (S 7 0 + 1) 0 d_2 _ _ ls (by omega) (by omega) hI hKP (fun _ h => absurd h (Nat.not_lt_zero _)) hW hS (lv_sub hl [1, 2, 0] rfl)

set_option maxHeartbeats 400000 in
set_option maxRecDepth 100000 in
theorem c_X9_costOf (l : Launch) (D : va_G) (cA : Nat → ClassId) (B0 : Nat) (ad : kA) (hal : mAl ad) (S : sS) (d0 : kD) (hX : XB cA ad S d0) (b : Nat)  : oM l yX9_costOf wX9_costOf 4 0 0 D cA B0 ad d0 ([.ref (ad.1 0 0), .int (nI b)] : List Value) (oQi D cA B0 ad (fun r d1 => r = nI (coL S b (S 30 0)) ∧ d0 = d1)) := by
  refine o_ofW (cc := cX9_costOf) (maxL := 4) (ret := some .int) (by decide) rfl (Nat.le_of_ble_eq_true rfl) ?_
  intro p e s m below meth c hx hb hr hml hts hown hlocks hnm hK hW hB hS ls hl
  have hu : ∀ w ∈ UW, w.before _ s = true := fun w h => hts w (uw_c w h)
  have hl : lv_has ls 4 [(0, .ref (ad.1 0 0)), (1, .int (nI b))] := hl
  have hA := hX.1
  have hG := hX.2.2
  have hb7 : S 7 0 ≤ 8 := hG.f 7 (mx := 8) (by decide)
  have hb11 : S 11 0 ≤ 20 := hG.f 11 (mx := 20) (by decide)
  have hb18 : S 18 0 ≤ 40 := hG.f 18 (mx := 40) (by decide)
  have hb30 : S 30 0 ≤ 10 := hG.f 30 (mx := 10) (by decide)
  refine n_iconst (v := 0) hx hb dX9_costOf_0 (by decide) ?_
  refine lv_istore_n (lv' := [(2, .int (nI 0)), (0, .ref (ad.1 0 0)), (1, .int (nI b))]) hx hb dX9_costOf_1 rfl hl (by decide) rfl (fun ls hl => ?_)
  refine n_iconst (v := 0) hx hb dX9_costOf_2 (by decide) ?_
  refine lv_istore_n (lv' := [(3, .int (nI 0)), (2, .int (nI 0)), (0, .ref (ad.1 0 0)), (1, .int (nI b))]) hx hb dX9_costOf_3 rfl hl (by decide) rfl (fun ls hl => ?_)
  have lp4 : ∀ (n : Nat) (co : Nat) (k : Nat)  (H : Heap) (locs : List Loc) (ls : Array Slot), S 30 0 - k < n → (k ≤ S 30 0) → (co = coL S b k) → oW D cA B0 ad d0 H → va_S (oA B0) s.heap H locs → lv_has ls 4 [(0, .ref (ad.1 0 0)), (1, .int (nI b)), (2, .int (nI co)), (3, .int (nI k))] → W p l e (oR 4 0 0) s m ([.ref (ad.1 0 0), .int (nI b)] : List Value).toArray below meth c H locs 0 0 (MQ below (oQi D cA B0 ad (fun r d1 => r = nI (coL S b (S 30 0)) ∧ d0 = d1)) ([.ref (ad.1 0 0), .int (nI b)] : List Value).toArray s 0 0 (oA B0)) (F0 m 4 ls []) := by
    intro n
    induction n with
    | zero => intro co k  H locs ls hmu; exact absurd hmu (Nat.not_lt_zero _)
    | succ n ih_lp4 =>
      intro co k  H locs ls hmu hk hco hW hS hl
      have hcl := coL_le hG b k (by omega)
      refine lv_iload_n hx hb dX9_costOf_4 rfl (lv_at hl 3 rfl) ?_
      refine lv_aload_n hx hb dX9_costOf_5 rfl (lv_at hl 0 rfl) ?_
      refine x_gr hx hb hu in_X9 hown hK hW (hA.o (k := 0) rfl) (kX_0 _ _ _ _) rfl 5 (by decide) uF_X9_31 (hA.f 5 (k := 4) (i := 3) (by decide) (hA.li (by omega))) dX9_costOf_6 ?_
      refine o_calli (o_runV (As := []) (rest := [.int (nI k)]) ⟨hx, hb, hml, hown, hu⟩ (c_Jx4a65c_size_8abf5 l D cA B0 ad hal S d0 hX 3 (by decide)) (gV_X9_105 (fun _ h => h)) (n0 := 0) rfl (by decide +kernel) rfl ⟨Nat.le_of_ble_eq_true rfl, Nat.le_of_ble_eq_true rfl⟩ (o_recv hK hW (hA.li (by omega)) (kX_4 _ _ _ _) rfl) hK hW hB hS hl.1 rfl (lv_room (Nat.le_of_ble_eq_true rfl)) ⟨Nat.zero_le _, Nat.zero_le _⟩ dX9_costOf_9) hS (fun r_2 d_1 q_3 H locs hW hS => ?_)
      obtain ⟨rfl, rfl⟩ := q_3
      refine n_topi (y := nI (S 30 0)) rfl ?_
      refine n_icmp_ge (tgt := 46) hx hb (by omega) (by omega) dX9_costOf_12 (by decide) (fun c_4 => ?_) (fun c_4 => ?_)
      · refine lv_iload_n hx hb dX9_costOf_46 rfl (lv_at hl 2 rfl) ?_
        exact o_iret hx hb hr hlocks hW hS (⟨by rw [hco, show k = S 30 0 by omega], rfl⟩) dX9_costOf_47
      · refine lv_iload_n hx hb dX9_costOf_15 rfl (lv_at hl 1 rfl) ?_
        refine lv_iload_n hx hb dX9_costOf_16 rfl (lv_at hl 3 rfl) ?_
        refine lv_ishr hx hb dX9_costOf_17 ?_
        refine n_iconst (v := 1) hx hb dX9_costOf_18 (by decide) ?_
        refine lv_iand hx hb dX9_costOf_19 ?_
        refine lv_if_eq (tgt := 40) hx hb dX9_costOf_20 (by decide) (fun c_i => ?_) (fun c_i => ?_)
        · have hc2 : coL S b (k + 1) = coL S b k := by rw [coL, if_neg (by rw [bitI_f c_i]; decide)]
          refine n_iinc (q := 1) (lv' := [(3, .int (nI (k + 1))), (0, .ref (ad.1 0 0)), (1, .int (nI b)), (2, .int (nI co))]) hx hb dX9_costOf_40 hl (k := 3) rfl (by decide) (by decide) rfl (fun ls hl => ?_)
          refine lv_goto (tgt := 4) hx hb dX9_costOf_43 (by decide) ?_
          exact ih_lp4 co (k + 1) _ _ ls (by omega) (by omega) (by rw [hc2, ← hco]) hW hS (lv_sub hl [1, 2, 3, 0] rfl)
        · have hc2 : coL S b (k + 1) = coL S b k + S 29 k := by rw [coL, if_pos (bitI_t c_i)]
          refine lv_iload_n hx hb dX9_costOf_23 rfl (lv_at hl 2 rfl) ?_
          refine lv_aload_n hx hb dX9_costOf_24 rfl (lv_at hl 0 rfl) ?_
          refine x_gr hx hb hu in_X9 hown hK hW (hA.o (k := 0) rfl) (kX_0 _ _ _ _) rfl 5 (by decide) uF_X9_31 (hA.f 5 (k := 4) (i := 3) (by decide) (hA.li (by omega))) dX9_costOf_25 ?_
          refine lv_iload_n hx hb dX9_costOf_28 rfl (lv_at hl 3 rfl) ?_
          refine o_callq (o_runV (As := [.int (nI k)]) (rest := [.int (nI co)]) ⟨hx, hb, hml, hown, hu⟩ (c_Jx4a65c_get_915e3 l D cA B0 ad hal S d0 hX 3 k (by decide) (show k < S 30 0 by omega)) (gV_X9_109 (fun _ h => h)) (n0 := 1) rfl (by decide +kernel) rfl ⟨Nat.le_of_ble_eq_true rfl, Nat.le_of_ble_eq_true rfl⟩ (o_recv hK hW (hA.li (by omega)) (kX_4 _ _ _ _) rfl) hK hW hB hS hl.1 rfl (lv_room (Nat.le_of_ble_eq_true rfl)) ⟨Nat.zero_le _, Nat.zero_le _⟩ dX9_costOf_29) hS (fun r_6 d_5 q_7 H locs hW hS => ?_)
          obtain ⟨rfl, rfl⟩ := q_7
          refine W.eq (g2 := F0 m 32 ls [.ref (ad.1 10 k), .int (nI co)]) rfl ?_
          refine x_cast hx hb hu hown uL_X9_337 hK hW (hA.offr (by omega)) (kX_10 _ _ _ _) rfl dX9_costOf_32 ?_
          refine x_gi hx hb hu in_X4 hown hK hW (hA.offr (by omega)) (kX_10 _ _ _ _) rfl 2 (by decide) uF_X9_360 dX9_costOf_35 ?_
          refine n_topi (y := nI (S 29 k)) (hX.2.1.offr (by omega) 2 (by decide)) ?_
          have b_8 : S 29 k ≤ 999 := hG.a 29 k (n := 10) (mx := 999) (by decide) (by omega)
          refine n_iadd hx hb dX9_costOf_38 ?_
          refine lv_istore_n (lv' := [(2, .int (nI (co + (S 29 k)))), (0, .ref (ad.1 0 0)), (1, .int (nI b)), (3, .int (nI k))]) hx hb dX9_costOf_39 rfl hl (by decide) rfl (fun ls hl => ?_)
          refine n_iinc (q := 1) (lv' := [(3, .int (nI (k + 1))), (2, .int (nI (co + (S 29 k)))), (0, .ref (ad.1 0 0)), (1, .int (nI b))]) hx hb dX9_costOf_40 hl (k := 3) rfl (by decide) (by decide) rfl (fun ls hl => ?_)
          refine lv_goto (tgt := 4) hx hb dX9_costOf_43 (by decide) ?_
          exact ih_lp4 (co + (S 29 k)) (k + 1) _ _ ls (by omega) (by omega) (by rw [hc2, ← hco]) hW hS (lv_sub hl [2, 3, 1, 0] rfl)
  exact lp4 (S 30 0 + 1) 0 0 _ _ ls (by omega) (by omega) rfl hW hS (lv_sub hl [2, 3, 1, 0] rfl)

set_option maxHeartbeats 400000 in
set_option maxRecDepth 100000 in
theorem c_X9_sureWith (l : Launch) (D : va_G) (cA : Nat → ClassId) (B0 : Nat) (ad : kA) (hal : mAl ad) (S : sS) (d0 : kD) (hM : InvX cA ad S d0) (b dd : Nat) (hLA : LA S dd (S 7 0) d0) : oM l yX9_sureWith wX9_sureWith 4 0 0 D cA B0 ad d0 ([.ref (ad.1 0 0), .int (nI b)] : List Value) (oQi D cA B0 ad (fun r d1 => r = nI (suL S b dd (S 7 0)) ∧ XX cA ad S d0 d1 ∧ LA S dd (S 7 0) d1)) := by
  refine o_ofW (cc := cX9_sureWith) (maxL := 4) (ret := some .int) (by decide) rfl (Nat.le_of_ble_eq_true rfl) ?_
  intro p e s m below meth c hx hb hr hml hts hown hlocks hnm hK hW hB hS ls hl
  have hu : ∀ w ∈ UW, w.before _ s = true := fun w h => hts w (uw_c w h)
  have hl : lv_has ls 4 [(0, .ref (ad.1 0 0)), (1, .int (nI b))] := hl
  have hX := hM.1
  have hA := hX.1
  have hG := hX.2.2
  have hb7 : S 7 0 ≤ 8 := hG.f 7 (mx := 8) (by decide)
  have hb11 : S 11 0 ≤ 20 := hG.f 11 (mx := 20) (by decide)
  have hb18 : S 18 0 ≤ 40 := hG.f 18 (mx := 40) (by decide)
  have hI : XX cA ad S d0 d0 := XX.start hM
  have hb1 : S 1 0 ≤ 4 := hG.f 1 (mx := 4) (by decide)
  have hb19 : S 19 0 ≤ 399 := hG.f 19 (mx := 399) (by decide)
  have hb22 : S 22 0 ≤ 64 := hG.f 22 (mx := 64) (by decide)
  have hb25 : S 25 0 ≤ 4 := hG.f 25 (mx := 4) (by decide)
  have hb30 : S 30 0 ≤ 10 := hG.f 30 (mx := 10) (by decide)
  have hb32 : S 32 0 ≤ 64 := hG.f 32 (mx := 64) (by decide)
  refine lv_aload_n hx hb dX9_sureWith_0 rfl (lv_at hl 0 rfl) ?_
  refine x_gr hx hb hu in_X9 hown hK hW (hA.o (k := 0) rfl) (kX_0 _ _ _ _) rfl 12 (by decide) uF_X9_68 (hA.f 12 (k := 27) (i := 0) (by decide) (hA.o (k := 27) rfl)) dX9_sureWith_1 ?_
  refine n_iconst (v := 0) hx hb dX9_sureWith_4 (by decide) ?_
  refine o_callv (o_runS (As := [.ref (ad.1 27 0), .int (nI 0)]) (rest := []) ⟨hx, hb, hml, hown, hu⟩ (c_fill_27 l D cA B0 ad hal S d0 hI.1.1 (nI 0)) (gS_X9_201 (fun _ h => h)) (n0 := 2) rfl (by decide +kernel) rfl ⟨Nat.le_of_ble_eq_true rfl, Nat.le_of_ble_eq_true rfl⟩ hK hW hB hS hl.1 rfl (lv_room (Nat.le_of_ble_eq_true rfl)) ⟨Nat.zero_le _, Nat.zero_le _⟩ dX9_sureWith_5) hS (fun d_1 q_3 H locs hW hS => ?_)
  obtain ⟨hFK, hfl⟩ := q_3
  have hI : XX cA ad S d0 d_1 := ⟨hFK.inv (by decide) hI.1, hI.2.trans (hFK.x (by decide))⟩
  have hLA : LA S dd (S 7 0) d_1 := fun q hq => by rw [hFK.1 26 0 q (by omega)]; exact hLA q hq
  have hGA : GA (adL S b 0) d_1 := fun q hq => hfl q hq
  refine n_iconst (v := 0) hx hb dX9_sureWith_8 (by decide) ?_
  refine lv_istore_n (lv' := [(2, .int (nI 0)), (0, .ref (ad.1 0 0)), (1, .int (nI b))]) hx hb dX9_sureWith_9 rfl hl (by decide) rfl (fun ls hl => ?_)
  have lp10 : ∀ (n : Nat) (k : Nat)  (d : kD) (H : Heap) (locs : List Loc) (ls : Array Slot), S 30 0 - k < n → (k ≤ S 30 0) → (XX cA ad S d0 d) → (LA S dd (S 7 0) d) → (GA (adL S b k) d) → oW D cA B0 ad d H → va_S (oA B0) s.heap H locs → lv_has ls 4 [(0, .ref (ad.1 0 0)), (1, .int (nI b)), (2, .int (nI k))] → W p l e (oR 4 0 0) s m ([.ref (ad.1 0 0), .int (nI b)] : List Value).toArray below meth c H locs 0 0 (MQ below (oQi D cA B0 ad (fun r d1 => r = nI (suL S b dd (S 7 0)) ∧ XX cA ad S d0 d1 ∧ LA S dd (S 7 0) d1)) ([.ref (ad.1 0 0), .int (nI b)] : List Value).toArray s 0 0 (oA B0)) (F0 m 10 ls []) := by
    intro n
    induction n with
    | zero => intro k  d H locs ls hmu; exact absurd hmu (Nat.not_lt_zero _)
    | succ n ih_lp10 =>
      intro k  d H locs ls hmu hk hI hLA hGA hW hS hl
      have had3 := adL_le hG b k (by omega)
      refine lv_iload_n hx hb dX9_sureWith_10 rfl (lv_at hl 2 rfl) ?_
      refine lv_aload_n hx hb dX9_sureWith_11 rfl (lv_at hl 0 rfl) ?_
      refine x_gr hx hb hu in_X9 hown hK hW (hA.o (k := 0) rfl) (kX_0 _ _ _ _) rfl 5 (by decide) uF_X9_31 (hA.f 5 (k := 4) (i := 3) (by decide) (hA.li (by omega))) dX9_sureWith_12 ?_
      refine o_calli (o_runV (As := []) (rest := [.int (nI k)]) ⟨hx, hb, hml, hown, hu⟩ (c_Jx4a65c_size_8abf5 l D cA B0 ad hal S d hI.1.1 3 (by decide)) (gV_X9_105 (fun _ h => h)) (n0 := 0) rfl (by decide +kernel) rfl ⟨Nat.le_of_ble_eq_true rfl, Nat.le_of_ble_eq_true rfl⟩ (o_recv hK hW (hA.li (by omega)) (kX_4 _ _ _ _) rfl) hK hW hB hS hl.1 rfl (lv_room (Nat.le_of_ble_eq_true rfl)) ⟨Nat.zero_le _, Nat.zero_le _⟩ dX9_sureWith_15) hS (fun r_5 d_4 q_6 H locs hW hS => ?_)
      obtain ⟨rfl, rfl⟩ := q_6
      refine n_topi (y := nI (S 30 0)) rfl ?_
      refine n_icmp_ge (tgt := 63) hx hb (by omega) (by omega) dX9_sureWith_18 (by decide) (fun c_7 => ?_) (fun c_7 => ?_)
      · have hk30 : k = S 30 0 := by omega
        rw [hk30] at hGA
        refine n_iconst (v := 0) hx hb dX9_sureWith_63 (by decide) ?_
        refine lv_istore_n (lv' := [(2, .int (nI 0)), (0, .ref (ad.1 0 0)), (1, .int (nI b))]) hx hb dX9_sureWith_64 rfl hl (by decide) rfl (fun ls hl => ?_)
        refine n_iconst (v := 0) hx hb dX9_sureWith_65 (by decide) ?_
        refine lv_istore_n (lv' := [(3, .int (nI 0)), (2, .int (nI 0)), (0, .ref (ad.1 0 0)), (1, .int (nI b))]) hx hb dX9_sureWith_66 rfl hl (by decide) rfl (fun ls hl => ?_)
        have lp67 : ∀ (n : Nat) (su : Nat) (q1 : Nat)  (H : Heap) (locs : List Loc) (ls : Array Slot), S 7 0 - q1 < n → (q1 ≤ S 7 0) → (su = suL S b dd q1) → oW D cA B0 ad d H → va_S (oA B0) s.heap H locs → lv_has ls 4 [(0, .ref (ad.1 0 0)), (1, .int (nI b)), (2, .int (nI su)), (3, .int (nI q1))] → W p l e (oR 4 0 0) s m ([.ref (ad.1 0 0), .int (nI b)] : List Value).toArray below meth c H locs 0 0 (MQ below (oQi D cA B0 ad (fun r d1 => r = nI (suL S b dd (S 7 0)) ∧ XX cA ad S d0 d1 ∧ LA S dd (S 7 0) d1)) ([.ref (ad.1 0 0), .int (nI b)] : List Value).toArray s 0 0 (oA B0)) (F0 m 67 ls []) := by
          intro n
          induction n with
          | zero => intro su q1  H locs ls hmu; exact absurd hmu (Nat.not_lt_zero _)
          | succ n ih_lp67 =>
            intro su q1  H locs ls hmu hq1 hsu hW hS hl
            have hsl := suL_le S b dd q1
            refine lv_iload_n hx hb dX9_sureWith_67 rfl (lv_at hl 3 rfl) ?_
            refine lv_aload_n hx hb dX9_sureWith_68 rfl (lv_at hl 0 rfl) ?_
            refine x_gr hx hb hu in_X9 hown hK hW (hA.o (k := 0) rfl) (kX_0 _ _ _ _) rfl 2 (by decide) uF_X9_21 (hA.f 2 (k := 4) (i := 0) (by decide) (hA.li (by omega))) dX9_sureWith_69 ?_
            refine o_calli (o_runV (As := []) (rest := [.int (nI q1)]) ⟨hx, hb, hml, hown, hu⟩ (c_Jx4a65c_size_8abf5 l D cA B0 ad hal S d hI.1.1 0 (by decide)) (gV_X9_105 (fun _ h => h)) (n0 := 0) rfl (by decide +kernel) rfl ⟨Nat.le_of_ble_eq_true rfl, Nat.le_of_ble_eq_true rfl⟩ (o_recv hK hW (hA.li (by omega)) (kX_4 _ _ _ _) rfl) hK hW hB hS hl.1 rfl (lv_room (Nat.le_of_ble_eq_true rfl)) ⟨Nat.zero_le _, Nat.zero_le _⟩ dX9_sureWith_72) hS (fun r_9 d_8 q_10 H locs hW hS => ?_)
            obtain ⟨rfl, rfl⟩ := q_10
            refine n_topi (y := nI (S 7 0)) rfl ?_
            refine n_icmp_ge (tgt := 111) hx hb (by omega) (by omega) dX9_sureWith_75 (by decide) (fun c_11 => ?_) (fun c_11 => ?_)
            · refine lv_iload_n hx hb dX9_sureWith_111 rfl (lv_at hl 2 rfl) ?_
              exact o_iret hx hb hr hlocks hW hS (⟨by rw [hsu, show q1 = S 7 0 by omega], hI, hLA⟩) dX9_sureWith_112
            · refine lv_iload_n hx hb dX9_sureWith_78 rfl (lv_at hl 3 rfl) ?_
              refine lv_aload_n hx hb dX9_sureWith_79 rfl (lv_at hl 0 rfl) ?_
              refine x_gr hx hb hu in_X9 hown hK hW (hA.o (k := 0) rfl) (kX_0 _ _ _ _) rfl 11 (by decide) uF_X9_65 (hA.f 11 (k := 26) (i := 0) (by decide) (hA.o (k := 26) rfl)) dX9_sureWith_80 ?_
              refine x_len hx hb hK hW (hA.o (k := 26) rfl) 0 (kX_26 _ _ _ _) rfl dX9_sureWith_83 ?_
              refine n_icmp_ge (tgt := 111) hx hb (by omega) (by omega) dX9_sureWith_84 (by decide) (fun c_l => ?_) (fun c_l => ?_)
              · exfalso; omega
              · refine lv_aload_n hx hb dX9_sureWith_87 rfl (lv_at hl 0 rfl) ?_
                refine x_gr hx hb hu in_X9 hown hK hW (hA.o (k := 0) rfl) (kX_0 _ _ _ _) rfl 12 (by decide) uF_X9_68 (hA.f 12 (k := 27) (i := 0) (by decide) (hA.o (k := 27) rfl)) dX9_sureWith_88 ?_
                refine lv_iload_n hx hb dX9_sureWith_91 rfl (lv_at hl 3 rfl) ?_
                refine x_il hx hb hK hW (hA.o (k := 27) rfl) (kX_27 _ _ _ _) (by decide) (by omega) dX9_sureWith_92 ?_
                refine n_topi (y := nI (adL S b (S 30 0) q1)) (hGA q1 (by omega)) ?_
                refine lv_aload_n hx hb dX9_sureWith_93 rfl (lv_at hl 0 rfl) ?_
                refine x_gr hx hb hu in_X9 hown hK hW (hA.o (k := 0) rfl) (kX_0 _ _ _ _) rfl 11 (by decide) uF_X9_65 (hA.f 11 (k := 26) (i := 0) (by decide) (hA.o (k := 26) rfl)) dX9_sureWith_94 ?_
                refine lv_iload_n hx hb dX9_sureWith_97 rfl (lv_at hl 3 rfl) ?_
                refine x_il hx hb hK hW (hA.o (k := 26) rfl) (kX_26 _ _ _ _) (by decide) (by omega) dX9_sureWith_98 ?_
                refine n_topi (y := lkI S q1 dd (sKept S q1 (S 19 0))) (hLA q1 (by omega)) ?_
                refine lv_icmp_lt (tgt := 105) hx hb dX9_sureWith_99 (by decide) (fun c_g => ?_) (fun c_g => ?_)
                · have hs2 : suL S b dd (q1 + 1) = suL S b dd q1 := by rw [suL, if_neg (fun z => absurd ((lk_eq hG (by omega) dd b rfl).mpr z) (Int32.not_le.mpr c_g))]
                  refine n_iinc (q := 1) (lv' := [(3, .int (nI (q1 + 1))), (0, .ref (ad.1 0 0)), (1, .int (nI b)), (2, .int (nI su))]) hx hb dX9_sureWith_105 hl (k := 3) rfl (by decide) (by decide) rfl (fun ls hl => ?_)
                  refine lv_goto (tgt := 67) hx hb dX9_sureWith_108 (by decide) ?_
                  exact ih_lp67 su (q1 + 1) _ _ ls (by omega) (by omega) (by rw [hs2, ← hsu]) hW hS (lv_sub hl [1, 2, 3, 0] rfl)
                · have hs2 : suL S b dd (q1 + 1) = suL S b dd q1 + 1 := by rw [suL, if_pos ((lk_eq hG (by omega) dd b rfl).mp (Int32.not_lt.mp c_g))]
                  refine n_iinc (q := 1) (lv' := [(2, .int (nI (su + 1))), (0, .ref (ad.1 0 0)), (1, .int (nI b)), (3, .int (nI q1))]) hx hb dX9_sureWith_102 hl (k := 2) rfl (by decide) (by decide) rfl (fun ls hl => ?_)
                  refine n_iinc (q := 1) (lv' := [(3, .int (nI (q1 + 1))), (2, .int (nI (su + 1))), (0, .ref (ad.1 0 0)), (1, .int (nI b))]) hx hb dX9_sureWith_105 hl (k := 3) rfl (by decide) (by decide) rfl (fun ls hl => ?_)
                  refine lv_goto (tgt := 67) hx hb dX9_sureWith_108 (by decide) ?_
                  exact ih_lp67 (su + 1) (q1 + 1) _ _ ls (by omega) (by omega) (by rw [hs2, ← hsu]) hW hS (lv_sub hl [2, 3, 1, 0] rfl)
        exact lp67 (S 7 0 + 1) 0 0 _ _ ls (by omega) (by omega) rfl hW hS (lv_sub hl [2, 3, 1, 0] rfl)
      · refine lv_iload_n hx hb dX9_sureWith_21 rfl (lv_at hl 1 rfl) ?_
        refine lv_iload_n hx hb dX9_sureWith_22 rfl (lv_at hl 2 rfl) ?_
        refine lv_ishr hx hb dX9_sureWith_23 ?_
        refine n_iconst (v := 1) hx hb dX9_sureWith_24 (by decide) ?_
        refine lv_iand hx hb dX9_sureWith_25 ?_
        refine lv_if_eq (tgt := 57) hx hb dX9_sureWith_26 (by decide) (fun c_i => ?_) (fun c_i => ?_)
        · have ha2 : adL S b (k + 1) = adL S b k := by rw [adL, if_neg (by rw [bitI_f c_i]; decide)]
          refine n_iinc (q := 1) (lv' := [(2, .int (nI (k + 1))), (0, .ref (ad.1 0 0)), (1, .int (nI b))]) hx hb dX9_sureWith_57 hl (k := 2) rfl (by decide) (by decide) rfl (fun ls hl => ?_)
          refine lv_goto (tgt := 10) hx hb dX9_sureWith_60 (by decide) ?_
          exact ih_lp10 (k + 1) d _ _ ls (by omega) (by omega) hI hLA (by rw [ha2]; exact hGA) hW hS (lv_sub hl [1, 2, 0] rfl)
        · have ha2 : adL S b (k + 1) = va_up (adL S b k) (S 27 k) (adL S b k (S 27 k) + S 28 k) := by rw [adL, if_pos (bitI_t c_i)]
          refine lv_aload_n hx hb dX9_sureWith_29 rfl (lv_at hl 0 rfl) ?_
          refine x_gr hx hb hu in_X9 hown hK hW (hA.o (k := 0) rfl) (kX_0 _ _ _ _) rfl 5 (by decide) uF_X9_31 (hA.f 5 (k := 4) (i := 3) (by decide) (hA.li (by omega))) dX9_sureWith_30 ?_
          refine lv_iload_n hx hb dX9_sureWith_33 rfl (lv_at hl 2 rfl) ?_
          refine o_callq (o_runV (As := [.int (nI k)]) (rest := []) ⟨hx, hb, hml, hown, hu⟩ (c_Jx4a65c_get_915e3 l D cA B0 ad hal S d hI.1.1 3 k (by decide) (show k < S 30 0 by omega)) (gV_X9_109 (fun _ h => h)) (n0 := 1) rfl (by decide +kernel) rfl ⟨Nat.le_of_ble_eq_true rfl, Nat.le_of_ble_eq_true rfl⟩ (o_recv hK hW (hA.li (by omega)) (kX_4 _ _ _ _) rfl) hK hW hB hS hl.1 rfl (lv_room (Nat.le_of_ble_eq_true rfl)) ⟨Nat.zero_le _, Nat.zero_le _⟩ dX9_sureWith_34) hS (fun r_13 d_12 q_14 H locs hW hS => ?_)
          obtain ⟨rfl, rfl⟩ := q_14
          refine W.eq (g2 := F0 m 37 ls [.ref (ad.1 10 k)]) rfl ?_
          refine x_cast hx hb hu hown uL_X9_337 hK hW (hA.offr (by omega)) (kX_10 _ _ _ _) rfl dX9_sureWith_37 ?_
          refine lv_astore_n (lv' := [(3, .ref (ad.1 10 k)), (0, .ref (ad.1 0 0)), (1, .int (nI b)), (2, .int (nI k))]) hx hb dX9_sureWith_40 rfl hl (by decide) rfl (fun ls hl => ?_)
          refine lv_aload_n hx hb dX9_sureWith_41 rfl (lv_at hl 1 rfl) ?_
          refine x_gr hx hb hu in_X9 hown hK hW (hA.o (k := 0) rfl) (kX_0 _ _ _ _) rfl 12 (by decide) uF_X9_68 (hA.f 12 (k := 27) (i := 0) (by decide) (hA.o (k := 27) rfl)) dX9_sureWith_42 ?_
          refine lv_aload_n hx hb dX9_sureWith_45 rfl (lv_at hl 0 rfl) ?_
          refine x_gi hx hb hu in_X4 hown hK hW (hA.offr (by omega)) (kX_10 _ _ _ _) rfl 0 (by decide) uF_X9_363 dX9_sureWith_46 ?_
          refine n_topi (y := nI (S 27 k)) (hI.1.1.2.1.offr (by omega) 0 (by decide)) ?_
          have b_15 : S 27 k ≤ 7 := hG.a 27 k (n := 10) (mx := 7) (by decide) (by omega)
          refine lv_dup2_11 hx hb dX9_sureWith_49 rfl rfl ?_
          refine x_il hx hb hK hW (hA.o (k := 27) rfl) (kX_27 _ _ _ _) (by decide) (by omega) dX9_sureWith_50 ?_
          refine n_topi (y := nI (adL S b k (S 27 k))) (hGA _ (by omega)) ?_
          refine lv_aload_n hx hb dX9_sureWith_51 rfl (lv_at hl 0 rfl) ?_
          refine x_gi hx hb hu in_X4 hown hK hW (hA.offr (by omega)) (kX_10 _ _ _ _) rfl 1 (by decide) uF_X9_365 dX9_sureWith_52 ?_
          refine n_topi (y := nI (S 28 k)) (hI.1.1.2.1.offr (by omega) 1 (by decide)) ?_
          have b_16 : S 28 k ≤ 99 := hG.a 28 k (n := 10) (mx := 99) (by decide) (by omega)
          refine n_iadd hx hb dX9_sureWith_55 ?_
          refine x_is hx hb hK hW hS (hA.o (k := 27) rfl) (kI_27 _ _ _ _) (by decide) (by omega) dX9_sureWith_56 (fun H locs hW hS => ?_)
          have hI := hI.uIk 27 0 (S 27 k) (nI (adL S b k (S 27 k) + S 28 k)) (by decide)
          have hGA := hGA.st (S 27 k) (adL S b k (S 27 k) + S 28 k)
          have hLA : LA S dd (S 7 0) (uI d 27 0 (S 27 k) (nI (adL S b k (S 27 k) + S 28 k))) := fun q hq => by rw [uI_k _ _ _ _ (by decide)]; exact hLA q hq
          refine n_iinc (q := 1) (lv' := [(2, .int (nI (k + 1))), (3, .ref (ad.1 10 k)), (0, .ref (ad.1 0 0)), (1, .int (nI b))]) hx hb dX9_sureWith_57 hl (k := 3) rfl (by decide) (by decide) rfl (fun ls hl => ?_)
          refine lv_goto (tgt := 10) hx hb dX9_sureWith_60 (by decide) ?_
          exact ih_lp10 (k + 1) (uI d 27 0 (S 27 k) (nI ((adL S b k (S 27 k)) + (S 28 k)))) _ _ ls (by omega) (by omega) hI hLA (by rw [ha2]; exact hGA) hW hS (lv_sub hl [2, 3, 0] rfl)
  exact lp10 (S 30 0 + 1) 0 d_1 _ _ ls (by omega) (by omega) hI hLA hGA hW hS (lv_sub hl [1, 2, 0] rfl)

set_option maxHeartbeats 400000 in
set_option maxRecDepth 100000 in
theorem c_X9_choose (l : Launch) (D : va_G) (cA : Nat → ClassId) (B0 : Nat) (ad : kA) (hal : mAl ad) (S : sS) (sr : Nat → Int32) (d0 : kD) (hM : InvX cA ad S d0) (hR : RowX S sr d0) (mo day : Int32) : oM l yX9_choose wX9_choose 7 0 0 D cA B0 ad d0 ([.ref (ad.1 0 0), .int mo, .int day] : List Value) (oQi D cA B0 ad (fun r d1 => r = aChoose S mo day ∧ PX cA ad (nChoose S mo day) (rChoose S sr mo day) d0 d1)) := by
  refine o_ofW (cc := cX9_choose) (maxL := 9) (ret := some .int) (by decide) rfl (Nat.le_of_ble_eq_true rfl) ?_
  intro p e s m below meth c hx hb hr hml hts hown hlocks hnm hK hW hB hS ls hl
  have hu : ∀ w ∈ UW, w.before _ s = true := fun w h => hts w (uw_c w h)
  have hl : lv_has ls 9 [(0, .ref (ad.1 0 0)), (1, .int mo), (2, .int day)] := hl
  have hX := hM.1
  have hA := hX.1
  have hG := hX.2.2
  have hb7 : S 7 0 ≤ 8 := hG.f 7 (mx := 8) (by decide)
  have hb11 : S 11 0 ≤ 20 := hG.f 11 (mx := 20) (by decide)
  have hb18 : S 18 0 ≤ 40 := hG.f 18 (mx := 40) (by decide)
  have hI : XX cA ad S d0 d0 := XX.start hM
  have hb1 : S 1 0 ≤ 4 := hG.f 1 (mx := 4) (by decide)
  have hb19 : S 19 0 ≤ 399 := hG.f 19 (mx := 399) (by decide)
  have hb22 : S 22 0 ≤ 64 := hG.f 22 (mx := 64) (by decide)
  have hb25 : S 25 0 ≤ 4 := hG.f 25 (mx := 4) (by decide)
  have hb30 : S 30 0 ≤ 10 := hG.f 30 (mx := 10) (by decide)
  have hb32 : S 32 0 ≤ 64 := hG.f 32 (mx := 64) (by decide)
  have hpw := pow10 hb30
  refine lv_iload_n hx hb dX9_choose_0 rfl (lv_at hl 1 rfl) ?_
  refine n_iconst (v := 0) hx hb dX9_choose_1 (by decide) ?_
  refine n_sipush (v := 9999) hx hb dX9_choose_2 (by decide) ?_
  refine o_calli (o_runS (As := [.int mo, .int (nI 0), .int (nI 9999)]) (rest := []) ⟨hx, hb, hml, hown, hu⟩ (c_X9_within l D cA B0 ad hal d0 mo (nI 0) (nI 9999)) (gS_X9_85 (fun _ h => h)) (n0 := 3) rfl (by decide +kernel) rfl ⟨Nat.le_of_ble_eq_true rfl, Nat.le_of_ble_eq_true rfl⟩ hK hW hB hS hl.1 rfl (lv_room (Nat.le_of_ble_eq_true rfl)) ⟨Nat.zero_le _, Nat.zero_le _⟩ dX9_choose_5) hS (fun r_2 d_1 q_3 H locs hW hS => ?_)
  obtain ⟨rfl, rfl⟩ := q_3
  refine n_topi (y := bI (ix mo 10000)) (in_ixc 10000 rfl (by decide)) ?_
  refine lv_if_eq (tgt := 18) hx hb dX9_choose_8 (by decide) (fun c_4 => ?_) (fun c_4 => ?_)
  · refine lv_iconst (v := -1) hx hb dX9_choose_18 (by decide) ?_
    exact o_iret hx hb hr hlocks hW hS (⟨by simp only [aChoose, bI_z c_4, eq_self, ↓reduceIte, Bool.false_eq_true], by simp only [nChoose, rChoose, bI_z c_4, eq_self, ↓reduceIte, Bool.false_eq_true]; exact hI.pub hR⟩) dX9_choose_19
  · obtain ⟨mon, hmon, rfl⟩ := ix_t (bI_n c_4) (by omega)
    refine lv_iload_n hx hb dX9_choose_11 rfl (lv_at hl 2 rfl) ?_
    refine o_calli (o_runS (As := [.int day]) (rest := []) ⟨hx, hb, hml, hown, hu⟩ (c_X9_isDay l D cA B0 ad hal d0 day) (gS_X9_81 (fun _ h => h)) (n0 := 1) rfl (by decide +kernel) rfl ⟨Nat.le_of_ble_eq_true rfl, Nat.le_of_ble_eq_true rfl⟩ hK hW hB hS hl.1 rfl (lv_room (Nat.le_of_ble_eq_true rfl)) ⟨Nat.zero_le _, Nat.zero_le _⟩ dX9_choose_12) hS (fun r_6 d_5 q_7 H locs hW hS => ?_)
    obtain ⟨rfl, rfl⟩ := q_7
    refine lv_if_ne (tgt := 20) hx hb dX9_choose_15 (by decide) (fun c_8 => ?_) (fun c_8 => ?_)
    · obtain ⟨dayn, hdayn, rfl⟩ := ix_t (bI_n c_8) (by omega)
      refine lv_aload_n hx hb dX9_choose_20 rfl (lv_at hl 0 rfl) ?_
      refine lv_iload_n hx hb dX9_choose_21 rfl (lv_at hl 2 rfl) ?_
      refine o_callv (o_runV (As := [.int (nI dayn)]) (rest := []) ⟨hx, hb, hml, hown, hu⟩ (c_X9_findLacking l D cA B0 ad hal S d0 hI.1 dayn (by omega)) (gV_X9_342 (fun _ h => h)) (n0 := 1) rfl (by decide +kernel) rfl ⟨Nat.le_of_ble_eq_true rfl, Nat.le_of_ble_eq_true rfl⟩ (o_recv hK hW (hA.o (k := 0) rfl) (kX_0 _ _ _ _) rfl) hK hW hB hS hl.1 rfl (lv_room (Nat.le_of_ble_eq_true rfl)) ⟨Nat.zero_le _, Nat.zero_le _⟩ dX9_choose_22) hS (fun d_9 q_11 H locs hW hS => ?_)
      obtain ⟨hq, hLA⟩ := q_11
      have hI := hI.trans hq
      refine lv_iconst (v := -1) hx hb dX9_choose_25 (by decide) ?_
      refine lv_istore_n (lv' := [(3, .int (-1)), (0, .ref (ad.1 0 0)), (1, .int (nI mon)), (2, .int (nI dayn))]) hx hb dX9_choose_26 rfl hl (by decide) rfl (fun ls hl => ?_)
      refine n_iconst (v := 0) hx hb dX9_choose_27 (by decide) ?_
      refine lv_istore (lv' := [(4, .int (nI 0)), (3, .int (-1)), (0, .ref (ad.1 0 0)), (1, .int (nI mon)), (2, .int (nI dayn))]) hx hb dX9_choose_28 hl (by decide) rfl (fun ls hl => ?_)
      refine n_iconst (v := 0) hx hb dX9_choose_30 (by decide) ?_
      refine lv_istore (lv' := [(5, .int (nI 0)), (4, .int (nI 0)), (3, .int (-1)), (0, .ref (ad.1 0 0)), (1, .int (nI mon)), (2, .int (nI dayn))]) hx hb dX9_choose_31 hl (by decide) rfl (fun ls hl => ?_)
      refine n_iconst (v := 0) hx hb dX9_choose_33 (by decide) ?_
      refine lv_istore (lv' := [(6, .int (nI 0)), (5, .int (nI 0)), (4, .int (nI 0)), (3, .int (-1)), (0, .ref (ad.1 0 0)), (1, .int (nI mon)), (2, .int (nI dayn))]) hx hb dX9_choose_34 hl (by decide) rfl (fun ls hl => ?_)
      have lp36 : ∀ (n : Nat) (be : Int32) (bc : Nat) (bb : Nat) (b1 : Nat)  (d : kD) (H : Heap) (locs : List Loc) (ls : Array Slot), 2 ^ S 30 0 - b1 < n → (b1 ≤ 2 ^ S 30 0) → (XX cA ad S d0 d) → (LA S dayn (S 7 0) d) → (be = (chL S mon dayn b1).1) → (bc = (chL S mon dayn b1).2.1) → (bb = (chL S mon dayn b1).2.2) → oW D cA B0 ad d H → va_S (oA B0) s.heap H locs → lv_has ls 9 [(0, .ref (ad.1 0 0)), (1, .int (nI mon)), (2, .int (nI dayn)), (3, .int be), (4, .int (nI bc)), (5, .int (nI bb)), (6, .int (nI b1))] → W p l e (oR 7 0 0) s m ([.ref (ad.1 0 0), .int (nI mon), .int (nI dayn)] : List Value).toArray below meth c H locs 0 0 (MQ below (oQi D cA B0 ad (fun r d1 => r = aChoose S (nI mon) (nI dayn) ∧ PX cA ad (nChoose S (nI mon) (nI dayn)) (rChoose S sr (nI mon) (nI dayn)) d0 d1)) ([.ref (ad.1 0 0), .int (nI mon), .int (nI dayn)] : List Value).toArray s 0 0 (oA B0)) (F0 m 36 ls []) := by
        intro n
        induction n with
        | zero => intro be bc bb b1  d H locs ls hmu; exact absurd hmu (Nat.not_lt_zero _)
        | succ n ih_lp36 =>
          intro be bc bb b1  d H locs ls hmu hb1 hI hLA hbe hbc hbb hW hS hl
          have hcl := chL_le hG mon dayn b1
          refine lv_iload hx hb dX9_choose_36 (lv_at hl 6 rfl) ?_
          refine n_iconst (v := 1) hx hb dX9_choose_38 (by decide) ?_
          refine lv_aload_n hx hb dX9_choose_39 rfl (lv_at hl 0 rfl) ?_
          refine x_gr hx hb hu in_X9 hown hK hW (hA.o (k := 0) rfl) (kX_0 _ _ _ _) rfl 5 (by decide) uF_X9_31 (hA.f 5 (k := 4) (i := 3) (by decide) (hA.li (by omega))) dX9_choose_40 ?_
          refine o_calli (o_runV (As := []) (rest := [.int (nI 1), .int (nI b1)]) ⟨hx, hb, hml, hown, hu⟩ (c_Jx4a65c_size_8abf5 l D cA B0 ad hal S d hI.1.1 3 (by decide)) (gV_X9_105 (fun _ h => h)) (n0 := 0) rfl (by decide +kernel) rfl ⟨Nat.le_of_ble_eq_true rfl, Nat.le_of_ble_eq_true rfl⟩ (o_recv hK hW (hA.li (by omega)) (kX_4 _ _ _ _) rfl) hK hW hB hS hl.1 rfl (lv_room (Nat.le_of_ble_eq_true rfl)) ⟨Nat.zero_le _, Nat.zero_le _⟩ dX9_choose_43) hS (fun r_13 d_12 q_14 H locs hW hS => ?_)
          obtain ⟨rfl, rfl⟩ := q_14
          refine n_topi (y := nI (S 30 0)) rfl ?_
          refine lv_ishl hx hb dX9_choose_46 ?_
          refine n_topi (y := nI (2 ^ S 30 0)) (shl10 (by omega)) ?_
          refine n_icmp_ge (tgt := 108) hx hb (by omega) (by omega) dX9_choose_47 (by decide) (fun c_15 => ?_) (fun c_15 => ?_)
          · have hb2 : b1 = 2 ^ S 30 0 := by omega
            have hSp := hR.2.fr hI.2
            have hI := hI.r
            refine lv_aload_n hx hb dX9_choose_108 rfl (lv_at hl 0 rfl) ?_
            refine x_gr hx hb hu in_X9 hown hK hW (hA.o (k := 0) rfl) (kX_0 _ _ _ _) rfl 6 (by decide) uF_X9_37 (hA.f 6 (k := 11) (i := 0) (by decide) (hA.o (k := 11) rfl)) dX9_choose_109 ?_
            refine o_callv (o_runV (As := []) (rest := []) ⟨hx, hb, hml, hown, hu⟩ (c_X3_clear l D cA B0 ad hal S d hI.1.1) (gV_X9_174 (fun _ h => h)) (n0 := 0) rfl (by decide +kernel) rfl ⟨Nat.le_of_ble_eq_true rfl, Nat.le_of_ble_eq_true rfl⟩ (o_recv hK hW (hA.o (k := 11) rfl) (kX_11 _ _ _ _) rfl) hK hW hB hS hl.1 rfl (lv_room (Nat.le_of_ble_eq_true rfl)) ⟨Nat.zero_le _, Nat.zero_le _⟩ dX9_choose_112) hS (fun d_16 q_18 H locs hW hS => ?_)
            subst q_18
            have hI := hI.k12 11 0 1 (nI 0) (by decide)
            have hT := TR.zero (fun _ => 0) d
            have hSp := hSp.k 11 0 1 (nI 0) (by decide)
            refine lv_aload_n hx hb dX9_choose_115 rfl (lv_at hl 0 rfl) ?_
            refine x_gr hx hb hu in_X9 hown hK hW (hA.o (k := 0) rfl) (kX_0 _ _ _ _) rfl 6 (by decide) uF_X9_37 (hA.f 6 (k := 11) (i := 0) (by decide) (hA.o (k := 11) rfl)) dX9_choose_116 ?_
            refine lv_iload hx hb dX9_choose_119 (lv_at hl 5 rfl) ?_
            refine o_callv (o_runV (As := [.int (nI bb)]) (rest := []) ⟨hx, hb, hml, hown, hu⟩ (c_X3_put l D cA B0 ad hal S (uI d 11 0 1 (nI 0)) hI.1.1 0 (nI bb) (by omega) hT.1) (gV_X9_177 (fun _ h => h)) (n0 := 1) rfl (by decide +kernel) rfl ⟨Nat.le_of_ble_eq_true rfl, Nat.le_of_ble_eq_true rfl⟩ (o_recv hK hW (hA.o (k := 11) rfl) (kX_11 _ _ _ _) rfl) hK hW hB hS hl.1 rfl (lv_room (Nat.le_of_ble_eq_true rfl)) ⟨Nat.zero_le _, Nat.zero_le _⟩ dX9_choose_121) hS (fun d_19 q_21 H locs hW hS => ?_)
            subst q_21
            have hI := hI.k12 12 0 0 (nI bb) (by decide)
            have hI := hI.k12 11 0 1 (nI (0 + 1)) (by decide)
            have hT := hT.tell (nI bb)
            have hSp := (hSp.k 12 0 0 (nI bb) (by decide)).k 11 0 1 (nI (0 + 1)) (by decide)
            refine lv_aload_n hx hb dX9_choose_124 rfl (lv_at hl 0 rfl) ?_
            refine x_gr hx hb hu in_X9 hown hK hW (hA.o (k := 0) rfl) (kX_0 _ _ _ _) rfl 6 (by decide) uF_X9_37 (hA.f 6 (k := 11) (i := 0) (by decide) (hA.o (k := 11) rfl)) dX9_choose_125 ?_
            refine lv_iload hx hb dX9_choose_128 (lv_at hl 4 rfl) ?_
            refine o_callv (o_runV (As := [.int (nI bc)]) (rest := []) ⟨hx, hb, hml, hown, hu⟩ (c_X3_put l D cA B0 ad hal S (uI (uI (uI d 11 0 1 (nI 0)) 12 0 0 (nI bb)) 11 0 1 (nI (0 + 1))) hI.1.1 1 (nI bc) (by omega) hT.1) (gV_X9_177 (fun _ h => h)) (n0 := 1) rfl (by decide +kernel) rfl ⟨Nat.le_of_ble_eq_true rfl, Nat.le_of_ble_eq_true rfl⟩ (o_recv hK hW (hA.o (k := 11) rfl) (kX_11 _ _ _ _) rfl) hK hW hB hS hl.1 rfl (lv_room (Nat.le_of_ble_eq_true rfl)) ⟨Nat.zero_le _, Nat.zero_le _⟩ dX9_choose_130) hS (fun d_22 q_24 H locs hW hS => ?_)
            subst q_24
            have hI := hI.k12 12 0 1 (nI bc) (by decide)
            have hI := hI.k12 11 0 1 (nI (1 + 1)) (by decide)
            have hT := hT.tell (nI bc)
            have hSp := (hSp.k 12 0 1 (nI bc) (by decide)).k 11 0 1 (nI (1 + 1)) (by decide)
            refine lv_iload_n hx hb dX9_choose_133 rfl (lv_at hl 3 rfl) ?_
            exact o_iret hx hb hr hlocks hW hS (⟨by simp only [aChoose, ix_nI hmon (by omega), nx_nI (j := mon) (by omega), ix_nI hdayn (by omega), nx_nI (j := dayn) (by omega), eq_self, ↓reduceIte, Bool.false_eq_true]; rw [hbe, hb2], by simp only [nChoose, rChoose, ix_nI hmon (by omega), nx_nI (j := mon) (by omega), ix_nI hdayn (by omega), nx_nI (j := dayn) (by omega), eq_self, ↓reduceIte, Bool.false_eq_true]; rw [show (chL S mon dayn (2 ^ S 30 0)).2.2 = bb by rw [hbb, hb2], show (chL S mon dayn (2 ^ S 30 0)).2.1 = bc by rw [hbc, hb2]]; exact hI.end (by omega) hT hSp⟩) dX9_choose_134
          · refine lv_aload_n hx hb dX9_choose_50 rfl (lv_at hl 0 rfl) ?_
            refine lv_iload hx hb dX9_choose_51 (lv_at hl 6 rfl) ?_
            refine o_calli (o_runV (As := [.int (nI b1)]) (rest := []) ⟨hx, hb, hml, hown, hu⟩ (c_X9_costOf l D cA B0 ad hal S d hI.1.1 b1 ) (gV_X9_345 (fun _ h => h)) (n0 := 1) rfl (by decide +kernel) rfl ⟨Nat.le_of_ble_eq_true rfl, Nat.le_of_ble_eq_true rfl⟩ (o_recv hK hW (hA.o (k := 0) rfl) (kX_0 _ _ _ _) rfl) hK hW hB hS hl.1 rfl (lv_room (Nat.le_of_ble_eq_true rfl)) ⟨Nat.zero_le _, Nat.zero_le _⟩ dX9_choose_53) hS (fun r_26 d_25 q_27 H locs hW hS => ?_)
            obtain ⟨rfl, rfl⟩ := q_27
            have hcl1 := coL_le hG b1 (S 30 0) hb30
            have hbs := chL_b hG mon dayn b1
            refine lv_istore (lv' := [(7, .int (nI (coL S b1 (S 30 0)))), (0, .ref (ad.1 0 0)), (1, .int (nI mon)), (2, .int (nI dayn)), (3, .int be), (4, .int (nI bc)), (5, .int (nI bb)), (6, .int (nI b1))]) hx hb dX9_choose_56 hl (by decide) rfl (fun ls hl => ?_)
            refine lv_iload hx hb dX9_choose_58 (lv_at hl 0 rfl) ?_
            refine lv_iload_n hx hb dX9_choose_60 rfl (lv_at hl 2 rfl) ?_
            refine n_icmp_gt (tgt := 102) hx hb (by omega) (by omega) dX9_choose_61 (by decide) (fun c_m => ?_) (fun c_m => ?_)
            · have hst : chL S mon dayn (b1 + 1) = (chL S mon dayn b1) := by rw [chL, if_neg (fun q => absurd q.1 (by omega))]
              refine n_iinc (q := 1) (lv' := [(6, .int (nI (b1 + 1))), (7, .int (nI (coL S b1 (S 30 0)))), (0, .ref (ad.1 0 0)), (1, .int (nI mon)), (2, .int (nI dayn)), (3, .int be), (4, .int (nI bc)), (5, .int (nI bb))]) hx hb dX9_choose_102 hl (k := 7) rfl (by decide) (by decide) rfl (fun ls hl => ?_)
              refine lv_goto (tgt := 36) hx hb dX9_choose_105 (by decide) ?_
              exact ih_lp36 be bc bb (b1 + 1) d _ _ ls (by omega) (by omega) hI hLA (by first | (rw [hst]; done) | (rw [hst]; exact hbe)) (by first | (rw [hst]; done) | (rw [hst]; exact hbc)) (by first | (rw [hst]; done) | (rw [hst]; exact hbb)) hW hS (lv_sub hl [2, 3, 4, 5, 6, 7, 0] rfl)
            · refine lv_aload_n hx hb dX9_choose_64 rfl (lv_at hl 1 rfl) ?_
              refine lv_iload hx hb dX9_choose_65 (lv_at hl 7 rfl) ?_
              refine o_calli (o_runV (As := [.int (nI b1)]) (rest := []) ⟨hx, hb, hml, hown, hu⟩ (c_X9_sureWith l D cA B0 ad hal S d hI.1 b1 dayn hLA) (gV_X9_348 (fun _ h => h)) (n0 := 1) rfl (by decide +kernel) rfl ⟨Nat.le_of_ble_eq_true rfl, Nat.le_of_ble_eq_true rfl⟩ (o_recv hK hW (hA.o (k := 0) rfl) (kX_0 _ _ _ _) rfl) hK hW hB hS hl.1 rfl (lv_room (Nat.le_of_ble_eq_true rfl)) ⟨Nat.zero_le _, Nat.zero_le _⟩ dX9_choose_67) hS (fun r_29 d_28 q_30 H locs hW hS => ?_)
              obtain ⟨rfl, hq, hLA⟩ := q_30
              have hI := hI.trans hq
              have hsl := suL_le S b1 dayn (S 7 0)
              refine lv_istore (lv' := [(8, .int (nI (suL S b1 dayn (S 7 0)))), (7, .int (nI (coL S b1 (S 30 0)))), (0, .ref (ad.1 0 0)), (1, .int (nI mon)), (2, .int (nI dayn)), (3, .int be), (4, .int (nI bc)), (5, .int (nI bb)), (6, .int (nI b1))]) hx hb dX9_choose_70 hl (by decide) rfl (fun ls hl => ?_)
              refine lv_iload hx hb dX9_choose_72 (lv_at hl 0 rfl) ?_
              refine lv_iload_n hx hb dX9_choose_74 rfl (lv_at hl 5 rfl) ?_
              refine lv_icmp_gt (tgt := 91) hx hb dX9_choose_75 (by decide) (fun c_s => ?_) (fun c_s => ?_)
              · have hst : chL S mon dayn (b1 + 1) = (nI (suL S b1 dayn (S 7 0)), coL S b1 (S 30 0), b1) := by rw [chL, if_pos ⟨by omega, (ch_eq (be := 0) (mo := 0) (chL_b hG mon dayn b1) (by omega)).mp (Or.inl (by rw [← hbe]; exact c_s))⟩]
                refine lv_iload hx hb dX9_choose_91 (lv_at hl 0 rfl) ?_
                refine lv_istore_n (lv' := [(3, .int (nI (suL S b1 dayn (S 7 0)))), (8, .int (nI (suL S b1 dayn (S 7 0)))), (7, .int (nI (coL S b1 (S 30 0)))), (0, .ref (ad.1 0 0)), (1, .int (nI mon)), (2, .int (nI dayn)), (4, .int (nI bc)), (5, .int (nI bb)), (6, .int (nI b1))]) hx hb dX9_choose_93 rfl hl (by decide) rfl (fun ls hl => ?_)
                refine lv_iload hx hb dX9_choose_94 (lv_at hl 2 rfl) ?_
                refine lv_istore (lv' := [(4, .int (nI (coL S b1 (S 30 0)))), (3, .int (nI (suL S b1 dayn (S 7 0)))), (8, .int (nI (suL S b1 dayn (S 7 0)))), (7, .int (nI (coL S b1 (S 30 0)))), (0, .ref (ad.1 0 0)), (1, .int (nI mon)), (2, .int (nI dayn)), (5, .int (nI bb)), (6, .int (nI b1))]) hx hb dX9_choose_96 hl (by decide) rfl (fun ls hl => ?_)
                refine lv_iload hx hb dX9_choose_98 (lv_at hl 8 rfl) ?_
                refine lv_istore (lv' := [(5, .int (nI b1)), (4, .int (nI (coL S b1 (S 30 0)))), (3, .int (nI (suL S b1 dayn (S 7 0)))), (8, .int (nI (suL S b1 dayn (S 7 0)))), (7, .int (nI (coL S b1 (S 30 0)))), (0, .ref (ad.1 0 0)), (1, .int (nI mon)), (2, .int (nI dayn)), (6, .int (nI b1))]) hx hb dX9_choose_100 hl (by decide) rfl (fun ls hl => ?_)
                refine n_iinc (q := 1) (lv' := [(6, .int (nI (b1 + 1))), (5, .int (nI b1)), (4, .int (nI (coL S b1 (S 30 0)))), (3, .int (nI (suL S b1 dayn (S 7 0)))), (8, .int (nI (suL S b1 dayn (S 7 0)))), (7, .int (nI (coL S b1 (S 30 0)))), (0, .ref (ad.1 0 0)), (1, .int (nI mon)), (2, .int (nI dayn))]) hx hb dX9_choose_102 hl (k := 8) rfl (by decide) (by decide) rfl (fun ls hl => ?_)
                refine lv_goto (tgt := 36) hx hb dX9_choose_105 (by decide) ?_
                exact ih_lp36 (nI (suL S b1 dayn (S 7 0))) (coL S b1 (S 30 0)) b1 (b1 + 1) d_28 _ _ ls (by omega) (by omega) hI hLA (by first | (rw [hst]; done) | (rw [hst]; exact hbe)) (by first | (rw [hst]; done) | (rw [hst]; exact hbc)) (by first | (rw [hst]; done) | (rw [hst]; exact hbb)) hW hS (lv_sub hl [6, 7, 8, 3, 2, 1, 0] rfl)
              · refine lv_iload hx hb dX9_choose_78 (lv_at hl 0 rfl) ?_
                refine lv_iload_n hx hb dX9_choose_80 rfl (lv_at hl 5 rfl) ?_
                refine lv_icmp_ne (tgt := 102) hx hb dX9_choose_81 (by decide) (fun c_n => ?_) (fun c_n => ?_)
                · have hst : chL S mon dayn (b1 + 1) = (chL S mon dayn b1) := by rw [chL, if_neg (fun q => (ch_eq (be := 0) (mo := 0) hbs (by omega)).mpr q.2 |>.elim (fun z => c_s (by rw [hbe]; exact z)) (fun z => c_n (by rw [hbe]; exact z.1)))]
                  refine n_iinc (q := 1) (lv' := [(6, .int (nI (b1 + 1))), (8, .int (nI (suL S b1 dayn (S 7 0)))), (7, .int (nI (coL S b1 (S 30 0)))), (0, .ref (ad.1 0 0)), (1, .int (nI mon)), (2, .int (nI dayn)), (3, .int be), (4, .int (nI bc)), (5, .int (nI bb))]) hx hb dX9_choose_102 hl (k := 8) rfl (by decide) (by decide) rfl (fun ls hl => ?_)
                  refine lv_goto (tgt := 36) hx hb dX9_choose_105 (by decide) ?_
                  exact ih_lp36 be bc bb (b1 + 1) d_28 _ _ ls (by omega) (by omega) hI hLA (by first | (rw [hst]; done) | (rw [hst]; exact hbe)) (by first | (rw [hst]; done) | (rw [hst]; exact hbc)) (by first | (rw [hst]; done) | (rw [hst]; exact hbb)) hW hS (lv_sub hl [3, 4, 5, 6, 7, 8, 0] rfl)
                · refine lv_iload hx hb dX9_choose_84 (lv_at hl 1 rfl) ?_
                  refine lv_iload hx hb dX9_choose_86 (lv_at hl 6 rfl) ?_
                  refine n_icmp_ge (tgt := 102) hx hb (by omega) (by omega) dX9_choose_88 (by decide) (fun c_c => ?_) (fun c_c => ?_)
                  · have hst : chL S mon dayn (b1 + 1) = (chL S mon dayn b1) := by rw [chL, if_neg (fun q => (ch_eq (be := 0) (mo := 0) hbs (by omega)).mpr q.2 |>.elim (fun z => c_s (by rw [hbe]; exact z)) (fun z => absurd z.2 (by rw [← hbc]; omega)))]
                    refine n_iinc (q := 1) (lv' := [(6, .int (nI (b1 + 1))), (8, .int (nI (suL S b1 dayn (S 7 0)))), (7, .int (nI (coL S b1 (S 30 0)))), (0, .ref (ad.1 0 0)), (1, .int (nI mon)), (2, .int (nI dayn)), (3, .int be), (4, .int (nI bc)), (5, .int (nI bb))]) hx hb dX9_choose_102 hl (k := 8) rfl (by decide) (by decide) rfl (fun ls hl => ?_)
                    refine lv_goto (tgt := 36) hx hb dX9_choose_105 (by decide) ?_
                    exact ih_lp36 be bc bb (b1 + 1) d_28 _ _ ls (by omega) (by omega) hI hLA (by first | (rw [hst]; done) | (rw [hst]; exact hbe)) (by first | (rw [hst]; done) | (rw [hst]; exact hbc)) (by first | (rw [hst]; done) | (rw [hst]; exact hbb)) hW hS (lv_sub hl [3, 4, 5, 6, 7, 8, 0] rfl)
                  · have hst : chL S mon dayn (b1 + 1) = (nI (suL S b1 dayn (S 7 0)), coL S b1 (S 30 0), b1) := by rw [chL, if_pos ⟨by omega, (ch_eq (be := 0) (mo := 0) (chL_b hG mon dayn b1) (by omega)).mp (Or.inr ⟨by rw [← hbe]; exact c_n, by rw [← hbc]; omega⟩)⟩]
                    refine lv_iload hx hb dX9_choose_91 (lv_at hl 0 rfl) ?_
                    refine lv_istore_n (lv' := [(3, .int (nI (suL S b1 dayn (S 7 0)))), (8, .int (nI (suL S b1 dayn (S 7 0)))), (7, .int (nI (coL S b1 (S 30 0)))), (0, .ref (ad.1 0 0)), (1, .int (nI mon)), (2, .int (nI dayn)), (4, .int (nI bc)), (5, .int (nI bb)), (6, .int (nI b1))]) hx hb dX9_choose_93 rfl hl (by decide) rfl (fun ls hl => ?_)
                    refine lv_iload hx hb dX9_choose_94 (lv_at hl 2 rfl) ?_
                    refine lv_istore (lv' := [(4, .int (nI (coL S b1 (S 30 0)))), (3, .int (nI (suL S b1 dayn (S 7 0)))), (8, .int (nI (suL S b1 dayn (S 7 0)))), (7, .int (nI (coL S b1 (S 30 0)))), (0, .ref (ad.1 0 0)), (1, .int (nI mon)), (2, .int (nI dayn)), (5, .int (nI bb)), (6, .int (nI b1))]) hx hb dX9_choose_96 hl (by decide) rfl (fun ls hl => ?_)
                    refine lv_iload hx hb dX9_choose_98 (lv_at hl 8 rfl) ?_
                    refine lv_istore (lv' := [(5, .int (nI b1)), (4, .int (nI (coL S b1 (S 30 0)))), (3, .int (nI (suL S b1 dayn (S 7 0)))), (8, .int (nI (suL S b1 dayn (S 7 0)))), (7, .int (nI (coL S b1 (S 30 0)))), (0, .ref (ad.1 0 0)), (1, .int (nI mon)), (2, .int (nI dayn)), (6, .int (nI b1))]) hx hb dX9_choose_100 hl (by decide) rfl (fun ls hl => ?_)
                    refine n_iinc (q := 1) (lv' := [(6, .int (nI (b1 + 1))), (5, .int (nI b1)), (4, .int (nI (coL S b1 (S 30 0)))), (3, .int (nI (suL S b1 dayn (S 7 0)))), (8, .int (nI (suL S b1 dayn (S 7 0)))), (7, .int (nI (coL S b1 (S 30 0)))), (0, .ref (ad.1 0 0)), (1, .int (nI mon)), (2, .int (nI dayn))]) hx hb dX9_choose_102 hl (k := 8) rfl (by decide) (by decide) rfl (fun ls hl => ?_)
                    refine lv_goto (tgt := 36) hx hb dX9_choose_105 (by decide) ?_
                    exact ih_lp36 (nI (suL S b1 dayn (S 7 0))) (coL S b1 (S 30 0)) b1 (b1 + 1) d_28 _ _ ls (by omega) (by omega) hI hLA (by first | (rw [hst]; done) | (rw [hst]; exact hbe)) (by first | (rw [hst]; done) | (rw [hst]; exact hbc)) (by first | (rw [hst]; done) | (rw [hst]; exact hbb)) hW hS (lv_sub hl [6, 7, 8, 3, 2, 1, 0] rfl)
      exact lp36 (2 ^ S 30 0 + 1) (-1) 0 0 0 d_9 _ _ ls (by omega) (by omega) hI hLA rfl rfl rfl hW hS (lv_sub hl [4, 5, 6, 3, 2, 1, 0] rfl)
    · refine lv_iconst (v := -1) hx hb dX9_choose_18 (by decide) ?_
      exact o_iret hx hb hr hlocks hW hS (⟨by simp only [aChoose, ix_nI hmon (by omega), nx_nI (j := mon) (by omega), bI_z c_8, eq_self, ↓reduceIte, Bool.false_eq_true], by simp only [nChoose, rChoose, ix_nI hmon (by omega), nx_nI (j := mon) (by omega), bI_z c_8, eq_self, ↓reduceIte, Bool.false_eq_true]; exact hI.pub hR⟩) dX9_choose_19
