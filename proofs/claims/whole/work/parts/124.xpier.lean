set_option maxHeartbeats 400000 in
set_option maxRecDepth 100000 in
theorem c_X5_wideOn (l : Launch) (D : va_G) (cA : Nat → ClassId) (B0 : Nat) (ad : kA) (hal : mAl ad) (S : sS) (d0 : kD) (hX : XB cA ad S d0) (pp : Nat) (dd : Nat) (hp : pp < S 7 0) (hd : dd < 400) : oM l yX5_wideOn wX5_wideOn 1 0 0 D cA B0 ad d0 ([.ref (ad.1 6 pp), .int (nI dd)] : List Value) (oQi D cA B0 ad (fun r d1 => r = nI (sW S pp dd (S 11 0)) ∧ d0 = d1)) := by
  refine o_ofW (cc := cX5_wideOn) (maxL := 4) (ret := some .int) (by decide) rfl (Nat.le_of_ble_eq_true rfl) ?_
  intro p e s m below meth c hx hb hr hml hts hown hlocks hnm hK hW hB hS ls hl
  have hu : ∀ w ∈ UW, w.before _ s = true := fun w h => hts w (uw_c w h)
  have hl : lv_has ls 4 [(0, .ref (ad.1 6 pp)), (1, .int (nI dd))] := hl
  have hA := hX.1
  have hG := hX.2.2
  have hb7 : S 7 0 ≤ 8 := hG.f 7 (mx := 8) (by decide)
  have hb11 : S 11 0 ≤ 20 := hG.f 11 (mx := 20) (by decide)
  have hb18 : S 18 0 ≤ 40 := hG.f 18 (mx := 40) (by decide)
  refine lv_aload_n hx hb dX5_wideOn_0 rfl (lv_at hl 0 rfl) ?_
  refine x_gi hx hb hu in_X5 hown hK hW (hA.pier (by omega)) (kX_6 _ _ _ _) rfl 1 (by decide) uF_X5_35 dX5_wideOn_1 ?_
  refine n_topi (y := nI (S 3 pp)) (hX.2.1.pier (by omega) 1 (by decide)) ?_
  have b_1 : S 3 pp ≤ 20 := hG.a 3 pp (n := 8) (mx := 20) (by decide) (by omega)
  refine lv_istore_n (lv' := [(2, .int (nI (S 3 pp))), (0, .ref (ad.1 6 pp)), (1, .int (nI dd))]) hx hb dX5_wideOn_4 rfl hl (by decide) rfl (fun ls hl => ?_)
  refine lv_aload_n hx hb dX5_wideOn_5 rfl (lv_at hl 1 rfl) ?_
  refine x_gq hx hb hu in_X5 hown hK hW (hA.pier (by omega)) (kX_6 _ _ _ _) rfl 9 (by decide) uF_X5_18 dX5_wideOn_6 ?_
  refine n_topq (b := trA ad S pp (S 11 0)) (hA.pt (by omega)) ?_
  refine x_astore_n (lv' := [(3, va_rf (rf (trA ad S pp (S 11 0)))), (2, .int (nI (S 3 pp))), (0, .ref (ad.1 6 pp)), (1, .int (nI dd))]) hx hb dX5_wideOn_9 rfl hl (by decide) rfl (fun ls hl => ?_)
  have lp10 : ∀ (n : Nat) (w : Nat) (k : Nat) (H : Heap) (locs : List Loc) (ls : Array Slot), k < n → (k ≤ S 11 0) → (w + sW S pp dd k = sW S pp dd (S 11 0) + S 3 pp) → oW D cA B0 ad d0 H → va_S (oA B0) s.heap H locs → lv_has ls 4 [(0, .ref (ad.1 6 pp)), (1, .int (nI dd)), (2, .int (nI w)), (3, va_rf (rf (trA ad S pp k)))] → W p l e (oR 1 0 0) s m ([.ref (ad.1 6 pp), .int (nI dd)] : List Value).toArray below meth c H locs 0 0 (MQ below (oQi D cA B0 ad (fun r d1 => r = nI (sW S pp dd (S 11 0)) ∧ d0 = d1)) ([.ref (ad.1 6 pp), .int (nI dd)] : List Value).toArray s 0 0 (oA B0)) (F0 m 10 ls []) := by
    intro n
    induction n with
    | zero => intro w k H locs ls hmu; exact absurd hmu (Nat.not_lt_zero _)
    | succ n ih_lp10 =>
      intro w k H locs ls hmu hk hw hW hS hl
      refine x_aload_n hx hb dX5_wideOn_10 rfl (lv_at hl 3 rfl) ?_
      rcases trA_cases hA pp dd k hk with ⟨h0, hw0⟩ | ⟨t, ht, hta, htn, htq, htw⟩
      · have hqv : va_rf (rf (trA ad S pp k)) = .null := by rw [h0]; rfl
        rw [hqv] at hl ⊢
        refine lv_ifnullN (tgt := 41) hx hb dX5_wideOn_11 (by decide) ?_
        refine lv_iload_n hx hb dX5_wideOn_41 rfl (lv_at hl 2 rfl) ?_
        exact o_iret hx hb hr hlocks hW hS (⟨congrArg nI (by omega), rfl⟩) dX5_wideOn_42
      · have hqv : va_rf (rf (trA ad S pp k)) = .ref (ad.1 7 t) := by rw [hta, rf_ne htn]
        rw [hqv] at hl ⊢
        refine lv_ifnull hx hb dX5_wideOn_11 ?_
        refine lv_iload_n hx hb dX5_wideOn_14 rfl (lv_at hl 2 rfl) ?_
        refine lv_aload_n hx hb dX5_wideOn_15 rfl (lv_at hl 3 rfl) ?_
        refine x_gi hx hb hu in_X7 hown hK hW (hA.tree (by omega)) (kX_7 _ _ _ _) rfl 0 (by decide) uF_X5_81 dX5_wideOn_16 ?_
        refine n_topi (y := nI (S 9 t)) ((hX.2.1.tree (by omega)).1) ?_
        have b_2 : S 9 t ≤ 399 := hG.a 9 t (n := 20) (mx := 399) (by decide) (by omega)
        refine lv_iload_n hx hb dX5_wideOn_19 rfl (lv_at hl 1 rfl) ?_
        have j31 : ∀ (wd : Nat)  (H : Heap) (locs : List Loc) (ls : Array Slot), (wd = if S 9 t ≤ dd then S 10 t else 0) → oW D cA B0 ad d0 H → va_S (oA B0) s.heap H locs → lv_has ls 4 [(0, .ref (ad.1 6 pp)), (1, .int (nI dd)), (2, .int (nI w)), (3, .ref (ad.1 7 t))] → W p l e (oR 1 0 0) s m ([.ref (ad.1 6 pp), .int (nI dd)] : List Value).toArray below meth c H locs 0 0 (MQ below (oQi D cA B0 ad (fun r d1 => r = nI (sW S pp dd (S 11 0)) ∧ d0 = d1)) ([.ref (ad.1 6 pp), .int (nI dd)] : List Value).toArray s 0 0 (oA B0)) (F0 m 31 ls [.int (nI wd), .int (nI w)]) := by
          intro wd  H locs ls hwd hW hS hl
          refine n_iadd hx hb dX5_wideOn_31 ?_
          refine lv_istore_n (lv' := [(2, .int (nI (w + wd))), (0, .ref (ad.1 6 pp)), (1, .int (nI dd)), (3, .ref (ad.1 7 t))]) hx hb dX5_wideOn_32 rfl hl (by decide) rfl (fun ls hl => ?_)
          refine lv_aload_n hx hb dX5_wideOn_33 rfl (lv_at hl 3 rfl) ?_
          refine x_gq hx hb hu in_X7 hown hK hW (hA.tree (by omega)) (kX_7 _ _ _ _) rfl 2 (by decide) uF_X5_89 dX5_wideOn_34 ?_
          refine n_topq (b := trA ad S pp t) (htq) ?_
          refine x_astore_n (lv' := [(3, va_rf (rf (trA ad S pp t))), (2, .int (nI (w + wd))), (0, .ref (ad.1 6 pp)), (1, .int (nI dd))]) hx hb dX5_wideOn_37 rfl hl (by decide) rfl (fun ls hl => ?_)
          refine lv_goto (tgt := 10) hx hb dX5_wideOn_38 (by decide) ?_
          exact ih_lp10 (w + wd) t _ _ ls (by omega) (by omega) (w_st hw htw hwd) hW hS (lv_sub hl [2, 3, 1, 0] rfl)
        refine n_icmp_gt (tgt := 30) hx hb (by omega) (by omega) dX5_wideOn_20 (by decide) (fun c_3 => ?_) (fun c_3 => ?_)
        · refine n_iconst (v := 0) hx hb dX5_wideOn_30 (by decide) ?_
          exact j31 0 _ _ ls (by first | rw [if_pos (by omega)] | rw [if_neg (by omega)]) hW hS (lv_sub hl [0, 1, 2, 3] rfl)
        · refine lv_aload_n hx hb dX5_wideOn_23 rfl (lv_at hl 3 rfl) ?_
          refine x_gi hx hb hu in_X7 hown hK hW (hA.tree (by omega)) (kX_7 _ _ _ _) rfl 1 (by decide) uF_X5_86 dX5_wideOn_24 ?_
          refine n_topi (y := nI (S 10 t)) ((hX.2.1.tree (by omega)).2) ?_
          have b_4 : S 10 t ≤ 20 := hG.a 10 t (n := 20) (mx := 20) (by decide) (by omega)
          refine lv_goto (tgt := 31) hx hb dX5_wideOn_27 (by decide) ?_
          exact j31 (S 10 t) _ _ ls (by first | rw [if_pos (by omega)] | rw [if_neg (by omega)]) hW hS (lv_sub hl [0, 1, 2, 3] rfl)
  exact lp10 (S 11 0 + 1) (S 3 pp) (S 11 0) _ _ ls (by omega) (by omega) (by omega) hW hS (lv_sub hl [2, 3, 1, 0] rfl)

set_option maxHeartbeats 400000 in
set_option maxRecDepth 100000 in
theorem c_X5_goalWith (l : Launch) (D : va_G) (cA : Nat → ClassId) (B0 : Nat) (ad : kA) (hal : mAl ad) (S : sS) (d0 : kD) (hX : XB cA ad S d0) (pp : Nat) (w : Nat) (mm : Nat) (dd : Nat) (hp : pp < S 7 0) (hm : mm < 64) (hd : dd < 400) (hw : w ≤ 420) : oM l yX5_goalWith wX5_goalWith 1 0 0 D cA B0 ad d0 ([.ref (ad.1 6 pp), .int (nI w), .int (nI mm), .int (nI dd)] : List Value) (oQi D cA B0 ad (fun r d1 => r = nI (gW S pp mm dd w) ∧ d0 = d1)) := by
  refine o_ofW (cc := cX5_goalWith) (maxL := 6) (ret := some .int) (by decide) rfl (Nat.le_of_ble_eq_true rfl) ?_
  intro p e s m below meth c hx hb hr hml hts hown hlocks hnm hK hW hB hS ls hl
  have hu : ∀ w ∈ UW, w.before _ s = true := fun w h => hts w (uw_c w h)
  have hl : lv_has ls 6 [(0, .ref (ad.1 6 pp)), (1, .int (nI w)), (2, .int (nI mm)), (3, .int (nI dd))] := hl
  have hA := hX.1
  have hG := hX.2.2
  have hb7 : S 7 0 ≤ 8 := hG.f 7 (mx := 8) (by decide)
  have hb11 : S 11 0 ≤ 20 := hG.f 11 (mx := 20) (by decide)
  have hb18 : S 18 0 ≤ 40 := hG.f 18 (mx := 40) (by decide)
  refine lv_iload_n hx hb dX5_goalWith_0 rfl (lv_at hl 2 rfl) ?_
  refine n_bipush (v := 8) hx hb dX5_goalWith_1 (by decide) ?_
  refine n_idiv hx hb (by omega) (by omega) (by omega) dX5_goalWith_3 ?_
  refine n_iconst (v := 1) hx hb dX5_goalWith_4 (by decide) ?_
  refine n_iadd hx hb dX5_goalWith_5 ?_
  refine lv_istore (lv' := [(4, .int (nI ((mm / 8) + 1))), (0, .ref (ad.1 6 pp)), (1, .int (nI w)), (2, .int (nI mm)), (3, .int (nI dd))]) hx hb dX5_goalWith_6 hl (by decide) rfl (fun ls hl => ?_)
  refine lv_iload hx hb dX5_goalWith_8 (lv_at hl 0 rfl) ?_
  refine lv_aload_n hx hb dX5_goalWith_10 rfl (lv_at hl 1 rfl) ?_
  refine x_gr hx hb hu in_X5 hown hK hW (hA.pier (by omega)) (kX_6 _ _ _ _) rfl 5 (by decide) uF_X5_47 (hA.pf (by omega)) dX5_goalWith_11 ?_
  refine lv_iload_n hx hb dX5_goalWith_14 rfl (lv_at hl 4 rfl) ?_
  refine x_il hx hb hK hW (hA.o (k := 1) rfl) (kX_1 _ _ _ _) (by decide) (by omega) dX5_goalWith_15 ?_
  refine n_topi (y := nI (S 0 dd)) (hX.2.1.flow (by omega)) ?_
  have b_1 : S 0 dd ≤ 99 := hG.a 0 dd (n := 400) (mx := 99) (by decide) (by omega)
  refine n_imul hx hb dX5_goalWith_16 ?_
  refine lv_iload_n hx hb dX5_goalWith_17 rfl (lv_at hl 2 rfl) ?_
  refine n_imul hx hb dX5_goalWith_18 ?_
  have hpr := sGoal_prod (a := mm / 8 + 1) (f := S 0 dd) (w := w) (by omega) (by omega) (by omega)
  refine n_bipush (v := 100) hx hb dX5_goalWith_19 (by decide) ?_
  refine n_idiv hx hb (by omega) (by omega) (by omega) dX5_goalWith_21 ?_
  refine lv_istore (lv' := [(5, .int (nI (((((mm / 8) + 1) * (S 0 dd)) * w) / 100))), (4, .int (nI ((mm / 8) + 1))), (0, .ref (ad.1 6 pp)), (1, .int (nI w)), (2, .int (nI mm)), (3, .int (nI dd))]) hx hb dX5_goalWith_22 hl (by decide) rfl (fun ls hl => ?_)
  refine lv_iload hx hb dX5_goalWith_24 (lv_at hl 0 rfl) ?_
  refine lv_aload_n hx hb dX5_goalWith_26 rfl (lv_at hl 2 rfl) ?_
  refine x_gi hx hb hu in_X5 hown hK hW (hA.pier (by omega)) (kX_6 _ _ _ _) rfl 2 (by decide) uF_X5_38 dX5_goalWith_27 ?_
  refine n_topi (y := nI (S 4 pp)) (hX.2.1.pier (by omega) 2 (by decide)) ?_
  have b_2 : S 4 pp ≤ 200 := hG.a 4 pp (n := 8) (mx := 200) (by decide) (by omega)
  refine n_icmp_ge (tgt := 38) hx hb (by omega) (by omega) dX5_goalWith_30 (by decide) (fun c_3 => ?_) (fun c_3 => ?_)
  · refine lv_aload_n hx hb dX5_goalWith_38 rfl (lv_at hl 2 rfl) ?_
    refine x_gi hx hb hu in_X5 hown hK hW (hA.pier (by omega)) (kX_6 _ _ _ _) rfl 2 (by decide) uF_X5_38 dX5_goalWith_39 ?_
    refine n_topi (y := nI (S 4 pp)) (hX.2.1.pier (by omega) 2 (by decide)) ?_
    have b_4 : S 4 pp ≤ 200 := hG.a 4 pp (n := 8) (mx := 200) (by decide) (by omega)
    exact o_iret hx hb hr hlocks hW hS (⟨by unfold gW; congr 1; omega, rfl⟩) dX5_goalWith_42
  · refine lv_iload hx hb dX5_goalWith_33 (lv_at hl 0 rfl) ?_
    refine lv_goto (tgt := 42) hx hb dX5_goalWith_35 (by decide) ?_
    exact o_iret hx hb hr hlocks hW hS (⟨by unfold gW; congr 1; omega, rfl⟩) dX5_goalWith_42

set_option maxHeartbeats 400000 in
set_option maxRecDepth 100000 in
theorem c_X5_goalBy (l : Launch) (D : va_G) (cA : Nat → ClassId) (B0 : Nat) (ad : kA) (hal : mAl ad) (S : sS) (d0 : kD) (hX : XB cA ad S d0) (pp : Nat) (mm : Nat) (dd : Nat) (hp : pp < S 7 0) (hm : mm < 64) (hd : dd < 400) : oM l yX5_goalBy wX5_goalBy 2 0 0 D cA B0 ad d0 ([.ref (ad.1 6 pp), .int (nI mm), .int (nI dd)] : List Value) (oQi D cA B0 ad (fun r d1 => r = nI (sGoal S pp mm dd) ∧ d0 = d1)) := by
  refine o_ofW (cc := cX5_goalBy) (maxL := 3) (ret := some .int) (by decide) rfl (Nat.le_of_ble_eq_true rfl) ?_
  intro p e s m below meth c hx hb hr hml hts hown hlocks hnm hK hW hB hS ls hl
  have hu : ∀ w ∈ UW, w.before _ s = true := fun w h => hts w (uw_c w h)
  have hl : lv_has ls 3 [(0, .ref (ad.1 6 pp)), (1, .int (nI mm)), (2, .int (nI dd))] := hl
  have hA := hX.1
  have hG := hX.2.2
  have hb7 : S 7 0 ≤ 8 := hG.f 7 (mx := 8) (by decide)
  have hb11 : S 11 0 ≤ 20 := hG.f 11 (mx := 20) (by decide)
  have hb18 : S 18 0 ≤ 40 := hG.f 18 (mx := 40) (by decide)
  refine lv_aload_n hx hb dX5_goalBy_0 rfl (lv_at hl 0 rfl) ?_
  refine lv_aload_n hx hb dX5_goalBy_1 rfl (lv_at hl 0 rfl) ?_
  refine lv_iload_n hx hb dX5_goalBy_2 rfl (lv_at hl 2 rfl) ?_
  refine o_calli (o_runV (As := [.int (nI dd)]) (rest := [.ref (ad.1 6 pp)]) ⟨hx, hb, hml, hown, hu⟩ (c_X5_wideOn l D cA B0 ad hal S d0 hX pp dd (by omega) (by omega)) (gV_X5_67 (fun _ h => h)) (n0 := 1) rfl (by decide +kernel) rfl ⟨Nat.le_of_ble_eq_true rfl, Nat.le_of_ble_eq_true rfl⟩ (o_recv hK hW (hA.pier (by omega)) (kX_6 _ _ _ _) rfl) hK hW hB hS hl.1 rfl (lv_room (Nat.le_of_ble_eq_true rfl)) ⟨Nat.zero_le _, Nat.zero_le _⟩ dX5_goalBy_3) hS (fun r_2 d_1 q_3 H locs hW hS => ?_)
  obtain ⟨rfl, rfl⟩ := q_3
  refine lv_iload_n hx hb dX5_goalBy_6 rfl (lv_at hl 1 rfl) ?_
  refine lv_iload_n hx hb dX5_goalBy_7 rfl (lv_at hl 2 rfl) ?_
  refine o_calli (o_runV (As := [.int (nI (sW S pp dd (S 11 0))), .int (nI mm), .int (nI dd)]) (rest := []) ⟨hx, hb, hml, hown, hu⟩ (c_X5_goalWith l D cA B0 ad hal S d0 hX pp (sW S pp dd (S 11 0)) mm dd hp hm hd (by have := sW_le hG (p := pp) (day := dd) (by omega) (S 11 0) (by omega); omega)) (gV_X5_71 (fun _ h => h)) (n0 := 3) rfl (by decide +kernel) rfl ⟨Nat.le_of_ble_eq_true rfl, Nat.le_of_ble_eq_true rfl⟩ (o_recv hK hW (hA.pier (by omega)) (kX_6 _ _ _ _) rfl) hK hW hB hS hl.1 rfl (lv_room (Nat.le_of_ble_eq_true rfl)) ⟨Nat.zero_le _, Nat.zero_le _⟩ dX5_goalBy_8) hS (fun r_5 d_4 q_6 H locs hW hS => ?_)
  obtain ⟨rfl, rfl⟩ := q_6
  exact o_iret hx hb hr hlocks hW hS (⟨rfl, rfl⟩) dX5_goalBy_11

set_option maxHeartbeats 400000 in
set_option maxRecDepth 100000 in
theorem c_X5_holeBy (l : Launch) (D : va_G) (cA : Nat → ClassId) (B0 : Nat) (ad : kA) (hal : mAl ad) (S : sS) (d0 : kD) (hX : XB cA ad S d0) (pp : Nat) (mm : Nat) (nn : Nat) (hp : pp < S 7 0) (hm : mm < 64) (hat : At S d0 pp nn) : oM l yX5_holeBy wX5_holeBy 1 0 0 D cA B0 ad d0 ([.ref (ad.1 6 pp), .int (nI mm)] : List Value) (oQi D cA B0 ad (fun r d1 => r = nI ((sHE S pp mm nn).1) ∧ d0 = d1)) := by
  refine o_ofW (cc := cX5_holeBy) (maxL := 2) (ret := some .int) (by decide) rfl (Nat.le_of_ble_eq_true rfl) ?_
  intro p e s m below meth c hx hb hr hml hts hown hlocks hnm hK hW hB hS ls hl
  have hu : ∀ w ∈ UW, w.before _ s = true := fun w h => hts w (uw_c w h)
  have hl : lv_has ls 2 [(0, .ref (ad.1 6 pp)), (1, .int (nI mm))] := hl
  have hA := hX.1
  have hG := hX.2.2
  have hb7 : S 7 0 ≤ 8 := hG.f 7 (mx := 8) (by decide)
  have hb11 : S 11 0 ≤ 20 := hG.f 11 (mx := 20) (by decide)
  have hb18 : S 18 0 ≤ 40 := hG.f 18 (mx := 40) (by decide)
  have hle := sHE_le hG (p := pp) (m := mm) (by omega) nn
  refine lv_aload_n hx hb dX5_holeBy_0 rfl (lv_at hl 0 rfl) ?_
  refine x_gr hx hb hu in_X5 hown hK hW (hA.pier (by omega)) (kX_6 _ _ _ _) rfl 6 (by decide) uF_X5_51 (hA.ps (by omega) (by omega)) dX5_holeBy_1 ?_
  refine lv_iload_n hx hb dX5_holeBy_4 rfl (lv_at hl 1 rfl) ?_
  refine x_il hx hb hK hW (hA.st (by omega)) (kX_3 _ _ _ _) (by decide) (by omega) dX5_holeBy_5 ?_
  refine n_topi (y := nI (pkd (sHE S pp mm nn))) (hat.2 mm hm) ?_
  refine n_sipush (v := 255) hx hb dX5_holeBy_6 (by decide) ?_
  refine lv_iand hx hb dX5_holeBy_9 ?_
  refine n_topi (y := nI ((sHE S pp mm nn).1)) (pkd_lo hle.1 hle.2) ?_
  exact o_iret hx hb hr hlocks hW hS (⟨rfl, rfl⟩) dX5_holeBy_10

set_option maxHeartbeats 400000 in
set_option maxRecDepth 100000 in
theorem c_X5_everBy (l : Launch) (D : va_G) (cA : Nat → ClassId) (B0 : Nat) (ad : kA) (hal : mAl ad) (S : sS) (d0 : kD) (hX : XB cA ad S d0) (pp : Nat) (mm : Nat) (nn : Nat) (hp : pp < S 7 0) (hm : mm < 64) (hat : At S d0 pp nn) : oM l yX5_everBy wX5_everBy 1 0 0 D cA B0 ad d0 ([.ref (ad.1 6 pp), .int (nI mm)] : List Value) (oQi D cA B0 ad (fun r d1 => r = nI ((sHE S pp mm nn).2) ∧ d0 = d1)) := by
  refine o_ofW (cc := cX5_everBy) (maxL := 2) (ret := some .int) (by decide) rfl (Nat.le_of_ble_eq_true rfl) ?_
  intro p e s m below meth c hx hb hr hml hts hown hlocks hnm hK hW hB hS ls hl
  have hu : ∀ w ∈ UW, w.before _ s = true := fun w h => hts w (uw_c w h)
  have hl : lv_has ls 2 [(0, .ref (ad.1 6 pp)), (1, .int (nI mm))] := hl
  have hA := hX.1
  have hG := hX.2.2
  have hb7 : S 7 0 ≤ 8 := hG.f 7 (mx := 8) (by decide)
  have hb11 : S 11 0 ≤ 20 := hG.f 11 (mx := 20) (by decide)
  have hb18 : S 18 0 ≤ 40 := hG.f 18 (mx := 40) (by decide)
  have hle := sHE_le hG (p := pp) (m := mm) (by omega) nn
  refine lv_aload_n hx hb dX5_everBy_0 rfl (lv_at hl 0 rfl) ?_
  refine x_gr hx hb hu in_X5 hown hK hW (hA.pier (by omega)) (kX_6 _ _ _ _) rfl 6 (by decide) uF_X5_51 (hA.ps (by omega) (by omega)) dX5_everBy_1 ?_
  refine lv_iload_n hx hb dX5_everBy_4 rfl (lv_at hl 1 rfl) ?_
  refine x_il hx hb hK hW (hA.st (by omega)) (kX_3 _ _ _ _) (by decide) (by omega) dX5_everBy_5 ?_
  refine n_topi (y := nI (pkd (sHE S pp mm nn))) (hat.2 mm hm) ?_
  refine n_bipush (v := 8) hx hb dX5_everBy_6 (by decide) ?_
  refine lv_ishr hx hb dX5_everBy_8 ?_
  refine n_topi (y := nI ((sHE S pp mm nn).2)) (pkd_hi hle.1 hle.2) ?_
  exact o_iret hx hb hr hlocks hW hS (⟨rfl, rfl⟩) dX5_everBy_9

set_option maxHeartbeats 400000 in
set_option maxRecDepth 100000 in
theorem c_X5_stateWith (l : Launch) (D : va_G) (cA : Nat → ClassId) (B0 : Nat) (ad : kA) (hal : mAl ad) (S : sS) (d0 : kD) (hX : XB cA ad S d0) (pp : Nat) (ev : Nat) (hp : pp < S 7 0) (hev : ev ≤ 200) : oM l yX5_stateWith wX5_stateWith 1 0 0 D cA B0 ad d0 ([.ref (ad.1 6 pp), .int (nI ev)] : List Value) (oQi D cA B0 ad (fun r d1 => r = nI (stW S pp ev) ∧ d0 = d1)) := by
  refine o_ofW (cc := cX5_stateWith) (maxL := 2) (ret := some .int) (by decide) rfl (Nat.le_of_ble_eq_true rfl) ?_
  intro p e s m below meth c hx hb hr hml hts hown hlocks hnm hK hW hB hS ls hl
  have hu : ∀ w ∈ UW, w.before _ s = true := fun w h => hts w (uw_c w h)
  have hl : lv_has ls 2 [(0, .ref (ad.1 6 pp)), (1, .int (nI ev))] := hl
  have hA := hX.1
  have hG := hX.2.2
  have hb7 : S 7 0 ≤ 8 := hG.f 7 (mx := 8) (by decide)
  have hb11 : S 11 0 ≤ 20 := hG.f 11 (mx := 20) (by decide)
  have hb18 : S 18 0 ≤ 40 := hG.f 18 (mx := 40) (by decide)
  refine lv_iload_n hx hb dX5_stateWith_0 rfl (lv_at hl 1 rfl) ?_
  refine lv_aload_n hx hb dX5_stateWith_1 rfl (lv_at hl 0 rfl) ?_
  refine x_gi hx hb hu in_X5 hown hK hW (hA.pier (by omega)) (kX_6 _ _ _ _) rfl 3 (by decide) uF_X5_41 dX5_stateWith_2 ?_
  refine n_topi (y := nI (S 5 pp)) (hX.2.1.pier (by omega) 3 (by decide)) ?_
  have b_1 : S 5 pp ≤ 99 := hG.a 5 pp (n := 8) (mx := 99) (by decide) (by omega)
  refine n_icmp_gt (tgt := 10) hx hb (by omega) (by omega) dX5_stateWith_5 (by decide) (fun c_2 => ?_) (fun c_2 => ?_)
  · refine lv_iload_n hx hb dX5_stateWith_10 rfl (lv_at hl 1 rfl) ?_
    refine lv_aload_n hx hb dX5_stateWith_11 rfl (lv_at hl 0 rfl) ?_
    refine x_gi hx hb hu in_X5 hown hK hW (hA.pier (by omega)) (kX_6 _ _ _ _) rfl 3 (by decide) uF_X5_41 dX5_stateWith_12 ?_
    refine n_topi (y := nI (S 5 pp)) (hX.2.1.pier (by omega) 3 (by decide)) ?_
    have b_3 : S 5 pp ≤ 99 := hG.a 5 pp (n := 8) (mx := 99) (by decide) (by omega)
    refine lv_aload_n hx hb dX5_stateWith_15 rfl (lv_at hl 0 rfl) ?_
    refine x_gi hx hb hu in_X5 hown hK hW (hA.pier (by omega)) (kX_6 _ _ _ _) rfl 4 (by decide) uF_X5_44 dX5_stateWith_16 ?_
    refine n_topi (y := nI (S 6 pp)) (hX.2.1.pier (by omega) 4 (by decide)) ?_
    have b_4 : S 6 pp ≤ 99 := hG.a 6 pp (n := 8) (mx := 99) (by decide) (by omega)
    refine n_iadd hx hb dX5_stateWith_19 ?_
    refine n_icmp_gt (tgt := 27) hx hb (by omega) (by omega) dX5_stateWith_20 (by decide) (fun c_5 => ?_) (fun c_5 => ?_)
    · refine n_iconst (v := 2) hx hb dX5_stateWith_27 (by decide) ?_
      exact o_iret hx hb hr hlocks hW hS (⟨by unfold stW; first | (rw [if_pos (by omega)]; done) | (rw [if_neg (by omega), if_pos (by omega)]; done) | (rw [if_neg (by omega), if_neg (by omega)]; done), rfl⟩) dX5_stateWith_28
    · refine n_iconst (v := 1) hx hb dX5_stateWith_23 (by decide) ?_
      refine lv_goto (tgt := 28) hx hb dX5_stateWith_24 (by decide) ?_
      exact o_iret hx hb hr hlocks hW hS (⟨by unfold stW; first | (rw [if_pos (by omega)]; done) | (rw [if_neg (by omega), if_pos (by omega)]; done) | (rw [if_neg (by omega), if_neg (by omega)]; done), rfl⟩) dX5_stateWith_28
  · refine n_iconst (v := 0) hx hb dX5_stateWith_8 (by decide) ?_
    exact o_iret hx hb hr hlocks hW hS (⟨by unfold stW; first | (rw [if_pos (by omega)]; done) | (rw [if_neg (by omega), if_pos (by omega)]; done) | (rw [if_neg (by omega), if_neg (by omega)]; done), rfl⟩) dX5_stateWith_9

set_option maxHeartbeats 400000 in
set_option maxRecDepth 100000 in
theorem c_X5_stateBy (l : Launch) (D : va_G) (cA : Nat → ClassId) (B0 : Nat) (ad : kA) (hal : mAl ad) (S : sS) (d0 : kD) (hX : XB cA ad S d0) (pp : Nat) (mm : Nat) (nn : Nat) (hp : pp < S 7 0) (hm : mm < 64) (hat : At S d0 pp nn) : oM l yX5_stateBy wX5_stateBy 2 0 0 D cA B0 ad d0 ([.ref (ad.1 6 pp), .int (nI mm)] : List Value) (oQi D cA B0 ad (fun r d1 => r = nI (stW S pp (sHE S pp mm nn).2) ∧ d0 = d1)) := by
  refine o_ofW (cc := cX5_stateBy) (maxL := 2) (ret := some .int) (by decide) rfl (Nat.le_of_ble_eq_true rfl) ?_
  intro p e s m below meth c hx hb hr hml hts hown hlocks hnm hK hW hB hS ls hl
  have hu : ∀ w ∈ UW, w.before _ s = true := fun w h => hts w (uw_c w h)
  have hl : lv_has ls 2 [(0, .ref (ad.1 6 pp)), (1, .int (nI mm))] := hl
  have hA := hX.1
  have hG := hX.2.2
  have hb7 : S 7 0 ≤ 8 := hG.f 7 (mx := 8) (by decide)
  have hb11 : S 11 0 ≤ 20 := hG.f 11 (mx := 20) (by decide)
  have hb18 : S 18 0 ≤ 40 := hG.f 18 (mx := 40) (by decide)
  have hle := sHE_le hG (p := pp) (m := mm) (by omega) nn
  refine lv_aload_n hx hb dX5_stateBy_0 rfl (lv_at hl 0 rfl) ?_
  refine lv_aload_n hx hb dX5_stateBy_1 rfl (lv_at hl 0 rfl) ?_
  refine lv_iload_n hx hb dX5_stateBy_2 rfl (lv_at hl 1 rfl) ?_
  refine o_calli (o_runV (As := [.int (nI mm)]) (rest := [.ref (ad.1 6 pp)]) ⟨hx, hb, hml, hown, hu⟩ (c_X5_everBy l D cA B0 ad hal S d0 hX pp mm nn hp hm hat) (gV_X5_92 (fun _ h => h)) (n0 := 1) rfl (by decide +kernel) rfl ⟨Nat.le_of_ble_eq_true rfl, Nat.le_of_ble_eq_true rfl⟩ (o_recv hK hW (hA.pier (by omega)) (kX_6 _ _ _ _) rfl) hK hW hB hS hl.1 rfl (lv_room (Nat.le_of_ble_eq_true rfl)) ⟨Nat.zero_le _, Nat.zero_le _⟩ dX5_stateBy_3) hS (fun r_2 d_1 q_3 H locs hW hS => ?_)
  obtain ⟨rfl, rfl⟩ := q_3
  refine o_calli (o_runV (As := [.int (nI ((sHE S pp mm nn).2))]) (rest := []) ⟨hx, hb, hml, hown, hu⟩ (c_X5_stateWith l D cA B0 ad hal S d0 hX pp ((sHE S pp mm nn).2) (by omega) (by omega)) (gV_X5_95 (fun _ h => h)) (n0 := 1) rfl (by decide +kernel) rfl ⟨Nat.le_of_ble_eq_true rfl, Nat.le_of_ble_eq_true rfl⟩ (o_recv hK hW (hA.pier (by omega)) (kX_6 _ _ _ _) rfl) hK hW hB hS hl.1 rfl (lv_room (Nat.le_of_ble_eq_true rfl)) ⟨Nat.zero_le _, Nat.zero_le _⟩ dX5_stateBy_6) hS (fun r_5 d_4 q_6 H locs hW hS => ?_)
  obtain ⟨rfl, rfl⟩ := q_6
  exact o_iret hx hb hr hlocks hW hS (⟨rfl, rfl⟩) dX5_stateBy_9
