set_option maxHeartbeats 400000 in
set_option maxRecDepth 100000 in
theorem c_J13_bitCount_95d88 (l : Launch) (D : va_G) (cA : Nat → ClassId) (B0 : Nat) (ad : kA) (hal : mAl ad) (d0 : kD) (x : Int64) : oM l yJ13_bitCount_95d88 wJ13_bitCount_95d88 1 0 0 D cA B0 ad d0 ([.long x] : List Value) (oQi D cA B0 ad (fun r d1 => r = nI (popN x) ∧ d0 = d1)) := by
  refine o_ofW (cc := cJ13_bitCount_95d88) (maxL := 2) (ret := some .int) (by decide) rfl (Nat.le_of_ble_eq_true rfl) ?_
  intro p e s m below meth c hx hb hr hml hts hown hlocks hnm hK hW hB hS ls hl
  have hu : ∀ w ∈ UW, w.before _ s = true := fun w h => hts w (uw_c w h)
  have hl : lv_has ls 2 [(0, .long x)] := hl
  refine lv_lload_n hx hb dJ13_bitCount_95d88_0 rfl (lv_at hl 0 rfl) ?_
  refine lv_lload_n hx hb dJ13_bitCount_95d88_1 rfl (lv_at hl 0 rfl) ?_
  refine n_iconst (v := 1) hx hb dJ13_bitCount_95d88_2 (by decide) ?_
  refine lv_lushr (v := lsr x 1) hx hb dJ13_bitCount_95d88_3 rfl ?_
  refine lv_ldc2 (v := (6148914691236517205)) hx hb hown (hu _ uK_J13_314) dJ13_bitCount_95d88_4 ?_
  refine lv_land hx hb dJ13_bitCount_95d88_7 ?_
  refine lv_lsub hx hb dJ13_bitCount_95d88_8 ?_
  refine n_topl (y := bq1 x) (rfl) ?_
  refine lv_lstore_n (lv' := [(0, .long (bq1 x))]) hx hb dJ13_bitCount_95d88_9 rfl hl (by decide) rfl (fun ls hl => ?_)
  refine lv_lload_n hx hb dJ13_bitCount_95d88_10 rfl (lv_at hl 0 rfl) ?_
  refine lv_ldc2 (v := (3689348814741910323)) hx hb hown (hu _ uK_J13_316) dJ13_bitCount_95d88_11 ?_
  refine lv_land hx hb dJ13_bitCount_95d88_14 ?_
  refine lv_lload_n hx hb dJ13_bitCount_95d88_15 rfl (lv_at hl 0 rfl) ?_
  refine n_iconst (v := 2) hx hb dJ13_bitCount_95d88_16 (by decide) ?_
  refine lv_lushr (v := lsr (bq1 x) 2) hx hb dJ13_bitCount_95d88_17 rfl ?_
  refine lv_ldc2 (v := (3689348814741910323)) hx hb hown (hu _ uK_J13_316) dJ13_bitCount_95d88_18 ?_
  refine lv_land hx hb dJ13_bitCount_95d88_21 ?_
  refine lv_ladd hx hb dJ13_bitCount_95d88_22 ?_
  refine n_topl (y := bq2 (bq1 x)) (rfl) ?_
  refine lv_lstore_n (lv' := [(0, .long (bq2 (bq1 x)))]) hx hb dJ13_bitCount_95d88_23 rfl hl (by decide) rfl (fun ls hl => ?_)
  refine lv_lload_n hx hb dJ13_bitCount_95d88_24 rfl (lv_at hl 0 rfl) ?_
  refine lv_lload_n hx hb dJ13_bitCount_95d88_25 rfl (lv_at hl 0 rfl) ?_
  refine n_iconst (v := 4) hx hb dJ13_bitCount_95d88_26 (by decide) ?_
  refine lv_lushr (v := lsr (bq2 (bq1 x)) 4) hx hb dJ13_bitCount_95d88_27 rfl ?_
  refine lv_ladd hx hb dJ13_bitCount_95d88_28 ?_
  refine lv_ldc2 (v := (1085102592571150095)) hx hb hown (hu _ uK_J13_318) dJ13_bitCount_95d88_29 ?_
  refine lv_land hx hb dJ13_bitCount_95d88_32 ?_
  refine n_topl (y := bq3 (bq2 (bq1 x))) (rfl) ?_
  refine lv_lstore_n (lv' := [(0, .long (bq3 (bq2 (bq1 x))))]) hx hb dJ13_bitCount_95d88_33 rfl hl (by decide) rfl (fun ls hl => ?_)
  refine lv_lload_n hx hb dJ13_bitCount_95d88_34 rfl (lv_at hl 0 rfl) ?_
  refine lv_lload_n hx hb dJ13_bitCount_95d88_35 rfl (lv_at hl 0 rfl) ?_
  refine n_bipush (v := 8) hx hb dJ13_bitCount_95d88_36 (by decide) ?_
  refine lv_lushr (v := lsr (bq3 (bq2 (bq1 x))) 8) hx hb dJ13_bitCount_95d88_38 rfl ?_
  refine lv_ladd hx hb dJ13_bitCount_95d88_39 ?_
  refine n_topl (y := bq4 (bq3 (bq2 (bq1 x)))) (rfl) ?_
  refine lv_lstore_n (lv' := [(0, .long (bq4 (bq3 (bq2 (bq1 x)))))]) hx hb dJ13_bitCount_95d88_40 rfl hl (by decide) rfl (fun ls hl => ?_)
  refine lv_lload_n hx hb dJ13_bitCount_95d88_41 rfl (lv_at hl 0 rfl) ?_
  refine lv_lload_n hx hb dJ13_bitCount_95d88_42 rfl (lv_at hl 0 rfl) ?_
  refine n_bipush (v := 16) hx hb dJ13_bitCount_95d88_43 (by decide) ?_
  refine lv_lushr (v := lsr (bq4 (bq3 (bq2 (bq1 x)))) 16) hx hb dJ13_bitCount_95d88_45 rfl ?_
  refine lv_ladd hx hb dJ13_bitCount_95d88_46 ?_
  refine n_topl (y := bq5 (bq4 (bq3 (bq2 (bq1 x))))) (rfl) ?_
  refine lv_lstore_n (lv' := [(0, .long (bq5 (bq4 (bq3 (bq2 (bq1 x))))))]) hx hb dJ13_bitCount_95d88_47 rfl hl (by decide) rfl (fun ls hl => ?_)
  refine lv_lload_n hx hb dJ13_bitCount_95d88_48 rfl (lv_at hl 0 rfl) ?_
  refine lv_lload_n hx hb dJ13_bitCount_95d88_49 rfl (lv_at hl 0 rfl) ?_
  refine n_bipush (v := 32) hx hb dJ13_bitCount_95d88_50 (by decide) ?_
  refine lv_lushr (v := lsr (bq5 (bq4 (bq3 (bq2 (bq1 x))))) 32) hx hb dJ13_bitCount_95d88_52 rfl ?_
  refine lv_ladd hx hb dJ13_bitCount_95d88_53 ?_
  refine n_topl (y := bq6 (bq5 (bq4 (bq3 (bq2 (bq1 x)))))) (rfl) ?_
  refine lv_lstore_n (lv' := [(0, .long (bq6 (bq5 (bq4 (bq3 (bq2 (bq1 x)))))))]) hx hb dJ13_bitCount_95d88_54 rfl hl (by decide) rfl (fun ls hl => ?_)
  refine lv_lload_n hx hb dJ13_bitCount_95d88_55 rfl (lv_at hl 0 rfl) ?_
  refine lv_l2i (v := (bq6 (bq5 (bq4 (bq3 (bq2 (bq1 x)))))).toInt32) hx hb dJ13_bitCount_95d88_56 rfl ?_
  refine n_bipush (v := 127) hx hb dJ13_bitCount_95d88_57 (by decide) ?_
  refine lv_iand hx hb dJ13_bitCount_95d88_59 ?_
  exact o_iret hx hb hr hlocks hW hS (⟨bc_ok x, rfl⟩) dJ13_bitCount_95d88_60

set_option maxHeartbeats 400000 in
set_option maxRecDepth 100000 in
theorem c_X10_many (l : Launch) (D : va_G) (cA : Nat → ClassId) (B0 : Nat) (ad : kA) (hal : mAl ad) (d0 : kD) (x : Int64) : oM l yX10_many wX10_many 2 0 0 D cA B0 ad d0 ([.long x] : List Value) (oQi D cA B0 ad (fun r d1 => r = nI (popN x) ∧ d0 = d1)) := by
  refine o_ofW (cc := cX10_many) (maxL := 2) (ret := some .int) (by decide) rfl (Nat.le_of_ble_eq_true rfl) ?_
  intro p e s m below meth c hx hb hr hml hts hown hlocks hnm hK hW hB hS ls hl
  have hu : ∀ w ∈ UW, w.before _ s = true := fun w h => hts w (uw_c w h)
  have hl : lv_has ls 2 [(0, .long x)] := hl
  refine lv_lload_n hx hb dX10_many_0 rfl (lv_at hl 0 rfl) ?_
  refine o_calli (o_runS (As := [.long x]) (rest := []) ⟨hx, hb, hml, hown, hu⟩ (c_J13_bitCount_95d88 l D cA B0 ad hal d0 x) (gS_X10_201 (fun _ h => h)) (n0 := 1) rfl (by decide +kernel) rfl ⟨Nat.le_of_ble_eq_true rfl, Nat.le_of_ble_eq_true rfl⟩ hK hW hB hS hl.1 rfl (lv_room (Nat.le_of_ble_eq_true rfl)) ⟨Nat.zero_le _, Nat.zero_le _⟩ dX10_many_1) hS (fun r_2 d_1 q_3 H locs hW hS => ?_)
  obtain ⟨rfl, rfl⟩ := q_3
  have b_4 := popN_le x
  exact o_iret hx hb hr hlocks hW hS (⟨rfl, rfl⟩) dX10_many_4
