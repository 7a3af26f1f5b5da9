set_option maxHeartbeats 400000 in
set_option maxRecDepth 100000 in
theorem c_X5_goTo (l : Launch) (D : va_G) (cA : Nat → ClassId) (B0 : Nat) (ad : kA) (hal : mAl ad) (S : sS) (d0 : kD) (hM : InvX cA ad S d0) (pp dd : Nat) (hp : pp < S 7 0) (hd : dd < 400) : oM l yX5_goTo wX5_goTo 3 0 0 D cA B0 ad d0 ([.ref (ad.1 6 pp), .int (nI dd)] : List Value) (oQv D cA B0 ad (fun d1 => XW cA ad S d0 d1 ∧ At S d1 pp (dd + 1) ∧ F1 pp d0 d1)) := by
  refine o_ofW (cc := cX5_goTo) (maxL := 4) (ret := none) (by decide) rfl (Nat.le_of_ble_eq_true rfl) ?_
  intro p e s m below meth c hx hb hr hml hts hown hlocks hnm hK hW hB hS ls hl
  have hu : ∀ w ∈ UW, w.before _ s = true := fun w h => hts w (uw_c w h)
  have hl : lv_has ls 4 [(0, .ref (ad.1 6 pp)), (1, .int (nI dd))] := hl
  have hX := hM.1
  have hA := hX.1
  have hG := hX.2.2
  have hb7 : S 7 0 ≤ 8 := hG.f 7 (mx := 8) (by decide)
  have hb11 : S 11 0 ≤ 20 := hG.f 11 (mx := 20) (by decide)
  have hb18 : S 18 0 ≤ 40 := hG.f 18 (mx := 40) (by decide)
  obtain ⟨w, k, hw⟩ := hM.2.1 pp hp
  have hw4 := hw.1
  have hk10 := hw.2.1
  have hw2 : Wk S d0 pp w k := hw
  have hF := F1.refl pp d0
  refine lv_aload_n hx hb dX5_goTo_0 rfl (lv_at hl 0 rfl) ?_
  refine x_gi hx hb hu in_X5 hown hK hW (hA.pier (by omega)) (kX_6 _ _ _ _) rfl 8 (by decide) uF_X5_15 dX5_goTo_1 ?_
  refine n_topi (y := nI k) (hw.2.2.2.1) ?_
  refine lv_iload_n hx hb dX5_goTo_4 rfl (lv_at hl 1 rfl) ?_
  refine n_iconst (v := 1) hx hb dX5_goTo_5 (by decide) ?_
  refine n_iadd hx hb dX5_goTo_6 ?_
  refine n_bipush (v := 40) hx hb dX5_goTo_7 (by decide) ?_
  refine n_idiv hx hb (by omega) (by omega) (by omega) dX5_goTo_9 ?_
  refine va_mmin hx hb (hml.trans hl.1.symm) hown (hu _ uM_X5_54) (hu _ uT_J9_min_7cf53) (hu _ uI_J9) (hu _ uC_J9_min_7cf53) (Nat.le_of_ble_eq_true rfl) (Nat.le_of_ble_eq_true rfl) (Nat.le_of_ble_eq_true rfl) (Nat.le_of_ble_eq_true rfl) dX5_goTo_10 ?_
  refine n_topi (y := nI (min k ((dd + 1) / 40))) (n_min (by omega) (by omega)) ?_
  refine lv_istore_n (lv' := [(2, .int (nI (min k ((dd + 1) / 40)))), (0, .ref (ad.1 6 pp)), (1, .int (nI dd))]) hx hb dX5_goTo_13 rfl hl (by decide) rfl (fun ls hl => ?_)
  refine lv_aload_n hx hb dX5_goTo_14 rfl (lv_at hl 1 rfl) ?_
  refine x_gi hx hb hu in_X5 hown hK hW (hA.pier (by omega)) (kX_6 _ _ _ _) rfl 7 (by decide) uF_X5_9 dX5_goTo_15 ?_
  refine n_topi (y := nI w) (hw.2.2.1) ?_
  refine lv_iload_n hx hb dX5_goTo_18 rfl (lv_at hl 2 rfl) ?_
  refine n_iconst (v := 1) hx hb dX5_goTo_19 (by decide) ?_
  refine n_iadd hx hb dX5_goTo_20 ?_
  refine n_icmp_gt (tgt := 35) hx hb (by omega) (by omega) dX5_goTo_21 (by decide) (fun c_1 => ?_) (fun c_1 => ?_)
  · refine lv_aload_n hx hb dX5_goTo_35 rfl (lv_at hl 1 rfl) ?_
    refine lv_iload_n hx hb dX5_goTo_36 rfl (lv_at hl 0 rfl) ?_
    refine o_callv (o_runV (As := [.int (nI (min k ((dd + 1) / 40)))]) (rest := []) ⟨hx, hb, hml, hown, hu⟩ (c_X5_backTo l D cA B0 ad hal S d0 hX pp (min k ((dd + 1) / 40)) k hp (by omega) hw.2.1 hw.mk) (gV_X5_60 (fun _ h => h)) (n0 := 1) rfl (by decide +kernel) rfl ⟨Nat.le_of_ble_eq_true rfl, Nat.le_of_ble_eq_true rfl⟩ (o_recv hK hW (hA.pier (by omega)) (kX_6 _ _ _ _) rfl) hK hW hB hS hl.1 rfl (lv_room (Nat.le_of_ble_eq_true rfl)) ⟨Nat.zero_le _, Nat.zero_le _⟩ dX5_goTo_37) hS (fun d_2 q_4 H locs hW hS => ?_)
    obtain ⟨r_3a, r_3b, r_3c, r_3d⟩ := q_4
    have hw2 : Wk S d_2 pp (40 * (min k ((dd + 1) / 40))) k := ⟨by omega, hw.2.1, r_3a.1, r_3d.trans hw.2.2.2.1, r_3a.2, r_3b⟩
    have hF := r_3c
    refine lv_aload_n hx hb dX5_goTo_40 rfl (lv_at hl 1 rfl) ?_
    refine x_gi hx hb hu in_X5 hown hK hW (hA.pier (by omega)) (kX_6 _ _ _ _) rfl 7 (by decide) uF_X5_9 dX5_goTo_41 ?_
    refine n_topi (y := nI (40 * (min k ((dd + 1) / 40)))) (hw2.2.2.1) ?_
    refine lv_istore_n (lv' := [(3, .int (nI (40 * (min k ((dd + 1) / 40))))), (2, .int (nI (min k ((dd + 1) / 40)))), (0, .ref (ad.1 6 pp)), (1, .int (nI dd))]) hx hb dX5_goTo_44 rfl hl (by decide) rfl (fun ls hl => ?_)
    have lp45 : ∀ (n : Nat) (nx : Nat)  (d : kD) (H : Heap) (locs : List Loc) (ls : Array Slot), dd + 1 - nx < n → (nx ≤ dd + 1) → (∃ k', Wk S d pp nx k') → (F1 pp d0 d) → oW D cA B0 ad d H → va_S (oA B0) s.heap H locs → lv_has ls 4 [(0, .ref (ad.1 6 pp)), (1, .int (nI dd)), (2, .int (nI (min k ((dd + 1) / 40)))), (3, .int (nI nx))] → W p l e (oR 3 0 0) s m ([.ref (ad.1 6 pp), .int (nI dd)] : List Value).toArray below meth c H locs 0 0 (MQ below (oQv D cA B0 ad (fun d1 => XW cA ad S d0 d1 ∧ At S d1 pp (dd + 1) ∧ F1 pp d0 d1)) ([.ref (ad.1 6 pp), .int (nI dd)] : List Value).toArray s 0 0 (oA B0)) (F0 m 45 ls []) := by
      intro n
      induction n with
      | zero => intro nx  d H locs ls hmu; exact absurd hmu (Nat.not_lt_zero _)
      | succ n ih_lp45 =>
        intro nx  d H locs ls hmu hn hwE hF hW hS hl
        obtain ⟨k1, hw1⟩ := hwE
        refine lv_iload_n hx hb dX5_goTo_45 rfl (lv_at hl 3 rfl) ?_
        refine lv_iload_n hx hb dX5_goTo_46 rfl (lv_at hl 1 rfl) ?_
        refine n_icmp_gt (tgt := 61) hx hb (by omega) (by omega) dX5_goTo_47 (by decide) (fun c_5 => ?_) (fun c_5 => ?_)
        · exact o_vret hx hb hr hlocks hW hS ((show nx = dd + 1 by omega) ▸ ⟨⟨hF.inv hM hw1 hp, hF.w⟩, hw1.at, hF⟩) dX5_goTo_61
        · refine lv_aload_n hx hb dX5_goTo_50 rfl (lv_at hl 0 rfl) ?_
          refine lv_iload_n hx hb dX5_goTo_51 rfl (lv_at hl 3 rfl) ?_
          refine o_callv (o_runV (As := [.int (nI nx)]) (rest := []) ⟨hx, hb, hml, hown, hu⟩ (c_X5_walk l D cA B0 ad hal S d (⟨hX.1, hX.2.1.fr hF.x, hX.2.2⟩) pp nx k1 hp (by omega) hw1) (gV_X5_64 (fun _ h => h)) (n0 := 1) rfl (by decide +kernel) rfl ⟨Nat.le_of_ble_eq_true rfl, Nat.le_of_ble_eq_true rfl⟩ (o_recv hK hW (hA.pier (by omega)) (kX_6 _ _ _ _) rfl) hK hW hB hS hl.1 rfl (lv_room (Nat.le_of_ble_eq_true rfl)) ⟨Nat.zero_le _, Nat.zero_le _⟩ dX5_goTo_52) hS (fun d_6 q_8 H locs hW hS => ?_)
          obtain ⟨⟨r_7k, r_7a⟩, r_7b⟩ := q_8
          have hF := hF.trans r_7b
          have hwN : ∃ k', Wk S d_6 pp (nx + 1) k' := ⟨r_7k, r_7a⟩
          refine n_iinc (q := 1) (lv' := [(3, .int (nI (nx + 1))), (0, .ref (ad.1 6 pp)), (1, .int (nI dd)), (2, .int (nI (min k ((dd + 1) / 40))))]) hx hb dX5_goTo_55 hl (k := 3) rfl (by decide) (by decide) rfl (fun ls hl => ?_)
          refine lv_goto (tgt := 45) hx hb dX5_goTo_58 (by decide) ?_
          exact ih_lp45 (nx + 1) d_6 _ _ ls (by omega) (by omega) hwN hF hW hS (lv_sub hl [1, 2, 3, 0] rfl)
    exact lp45 (dd + 2) (40 * (min k ((dd + 1) / 40))) d_2 _ _ ls (by omega) (by omega) (⟨k, hw2⟩) hF hW hS (lv_sub hl [2, 3, 1, 0] rfl)
  · refine lv_aload_n hx hb dX5_goTo_24 rfl (lv_at hl 1 rfl) ?_
    refine x_gi hx hb hu in_X5 hown hK hW (hA.pier (by omega)) (kX_6 _ _ _ _) rfl 7 (by decide) uF_X5_9 dX5_goTo_25 ?_
    refine n_topi (y := nI w) (hw.2.2.1) ?_
    refine lv_iload_n hx hb dX5_goTo_28 rfl (lv_at hl 0 rfl) ?_
    refine n_bipush (v := 40) hx hb dX5_goTo_29 (by decide) ?_
    refine n_imul hx hb dX5_goTo_31 ?_
    refine n_icmp_ge (tgt := 40) hx hb (by omega) (by omega) dX5_goTo_32 (by decide) (fun c_9 => ?_) (fun c_9 => ?_)
    · refine lv_aload_n hx hb dX5_goTo_40 rfl (lv_at hl 1 rfl) ?_
      refine x_gi hx hb hu in_X5 hown hK hW (hA.pier (by omega)) (kX_6 _ _ _ _) rfl 7 (by decide) uF_X5_9 dX5_goTo_41 ?_
      refine n_topi (y := nI w) (hw2.2.2.1) ?_
      refine lv_istore_n (lv' := [(3, .int (nI w)), (2, .int (nI (min k ((dd + 1) / 40)))), (0, .ref (ad.1 6 pp)), (1, .int (nI dd))]) hx hb dX5_goTo_44 rfl hl (by decide) rfl (fun ls hl => ?_)
      have lp45 : ∀ (n : Nat) (nx : Nat)  (d : kD) (H : Heap) (locs : List Loc) (ls : Array Slot), dd + 1 - nx < n → (nx ≤ dd + 1) → (∃ k', Wk S d pp nx k') → (F1 pp d0 d) → oW D cA B0 ad d H → va_S (oA B0) s.heap H locs → lv_has ls 4 [(0, .ref (ad.1 6 pp)), (1, .int (nI dd)), (2, .int (nI (min k ((dd + 1) / 40)))), (3, .int (nI nx))] → W p l e (oR 3 0 0) s m ([.ref (ad.1 6 pp), .int (nI dd)] : List Value).toArray below meth c H locs 0 0 (MQ below (oQv D cA B0 ad (fun d1 => XW cA ad S d0 d1 ∧ At S d1 pp (dd + 1) ∧ F1 pp d0 d1)) ([.ref (ad.1 6 pp), .int (nI dd)] : List Value).toArray s 0 0 (oA B0)) (F0 m 45 ls []) := by
        intro n
        induction n with
        | zero => intro nx  d H locs ls hmu; exact absurd hmu (Nat.not_lt_zero _)
        | succ n ih_lp45 =>
          intro nx  d H locs ls hmu hn hwE hF hW hS hl
          obtain ⟨k1, hw1⟩ := hwE
          refine lv_iload_n hx hb dX5_goTo_45 rfl (lv_at hl 3 rfl) ?_
          refine lv_iload_n hx hb dX5_goTo_46 rfl (lv_at hl 1 rfl) ?_
          refine n_icmp_gt (tgt := 61) hx hb (by omega) (by omega) dX5_goTo_47 (by decide) (fun c_10 => ?_) (fun c_10 => ?_)
          · exact o_vret hx hb hr hlocks hW hS ((show nx = dd + 1 by omega) ▸ ⟨⟨hF.inv hM hw1 hp, hF.w⟩, hw1.at, hF⟩) dX5_goTo_61
          · refine lv_aload_n hx hb dX5_goTo_50 rfl (lv_at hl 0 rfl) ?_
            refine lv_iload_n hx hb dX5_goTo_51 rfl (lv_at hl 3 rfl) ?_
            refine o_callv (o_runV (As := [.int (nI nx)]) (rest := []) ⟨hx, hb, hml, hown, hu⟩ (c_X5_walk l D cA B0 ad hal S d (⟨hX.1, hX.2.1.fr hF.x, hX.2.2⟩) pp nx k1 hp (by omega) hw1) (gV_X5_64 (fun _ h => h)) (n0 := 1) rfl (by decide +kernel) rfl ⟨Nat.le_of_ble_eq_true rfl, Nat.le_of_ble_eq_true rfl⟩ (o_recv hK hW (hA.pier (by omega)) (kX_6 _ _ _ _) rfl) hK hW hB hS hl.1 rfl (lv_room (Nat.le_of_ble_eq_true rfl)) ⟨Nat.zero_le _, Nat.zero_le _⟩ dX5_goTo_52) hS (fun d_11 q_13 H locs hW hS => ?_)
            obtain ⟨⟨r_12k, r_12a⟩, r_12b⟩ := q_13
            have hF := hF.trans r_12b
            have hwN : ∃ k', Wk S d_11 pp (nx + 1) k' := ⟨r_12k, r_12a⟩
            refine n_iinc (q := 1) (lv' := [(3, .int (nI (nx + 1))), (0, .ref (ad.1 6 pp)), (1, .int (nI dd)), (2, .int (nI (min k ((dd + 1) / 40))))]) hx hb dX5_goTo_55 hl (k := 3) rfl (by decide) (by decide) rfl (fun ls hl => ?_)
            refine lv_goto (tgt := 45) hx hb dX5_goTo_58 (by decide) ?_
            exact ih_lp45 (nx + 1) d_11 _ _ ls (by omega) (by omega) hwN hF hW hS (lv_sub hl [1, 2, 3, 0] rfl)
      exact lp45 (dd + 2) w d0 _ _ ls (by omega) (by omega) (⟨k, hw2⟩) hF hW hS (lv_sub hl [2, 3, 1, 0] rfl)
    · refine lv_aload_n hx hb dX5_goTo_35 rfl (lv_at hl 1 rfl) ?_
      refine lv_iload_n hx hb dX5_goTo_36 rfl (lv_at hl 0 rfl) ?_
      refine o_callv (o_runV (As := [.int (nI (min k ((dd + 1) / 40)))]) (rest := []) ⟨hx, hb, hml, hown, hu⟩ (c_X5_backTo l D cA B0 ad hal S d0 hX pp (min k ((dd + 1) / 40)) k hp (by omega) hw.2.1 hw.mk) (gV_X5_60 (fun _ h => h)) (n0 := 1) rfl (by decide +kernel) rfl ⟨Nat.le_of_ble_eq_true rfl, Nat.le_of_ble_eq_true rfl⟩ (o_recv hK hW (hA.pier (by omega)) (kX_6 _ _ _ _) rfl) hK hW hB hS hl.1 rfl (lv_room (Nat.le_of_ble_eq_true rfl)) ⟨Nat.zero_le _, Nat.zero_le _⟩ dX5_goTo_37) hS (fun d_14 q_16 H locs hW hS => ?_)
      obtain ⟨r_15a, r_15b, r_15c, r_15d⟩ := q_16
      have hw2 : Wk S d_14 pp (40 * (min k ((dd + 1) / 40))) k := ⟨by omega, hw.2.1, r_15a.1, r_15d.trans hw.2.2.2.1, r_15a.2, r_15b⟩
      have hF := r_15c
      refine lv_aload_n hx hb dX5_goTo_40 rfl (lv_at hl 1 rfl) ?_
      refine x_gi hx hb hu in_X5 hown hK hW (hA.pier (by omega)) (kX_6 _ _ _ _) rfl 7 (by decide) uF_X5_9 dX5_goTo_41 ?_
      refine n_topi (y := nI (40 * (min k ((dd + 1) / 40)))) (hw2.2.2.1) ?_
      refine lv_istore_n (lv' := [(3, .int (nI (40 * (min k ((dd + 1) / 40))))), (2, .int (nI (min k ((dd + 1) / 40)))), (0, .ref (ad.1 6 pp)), (1, .int (nI dd))]) hx hb dX5_goTo_44 rfl hl (by decide) rfl (fun ls hl => ?_)
      have lp45 : ∀ (n : Nat) (nx : Nat)  (d : kD) (H : Heap) (locs : List Loc) (ls : Array Slot), dd + 1 - nx < n → (nx ≤ dd + 1) → (∃ k', Wk S d pp nx k') → (F1 pp d0 d) → oW D cA B0 ad d H → va_S (oA B0) s.heap H locs → lv_has ls 4 [(0, .ref (ad.1 6 pp)), (1, .int (nI dd)), (2, .int (nI (min k ((dd + 1) / 40)))), (3, .int (nI nx))] → W p l e (oR 3 0 0) s m ([.ref (ad.1 6 pp), .int (nI dd)] : List Value).toArray below meth c H locs 0 0 (MQ below (oQv D cA B0 ad (fun d1 => XW cA ad S d0 d1 ∧ At S d1 pp (dd + 1) ∧ F1 pp d0 d1)) ([.ref (ad.1 6 pp), .int (nI dd)] : List Value).toArray s 0 0 (oA B0)) (F0 m 45 ls []) := by
        intro n
        induction n with
        | zero => intro nx  d H locs ls hmu; exact absurd hmu (Nat.not_lt_zero _)
        | succ n ih_lp45 =>
          intro nx  d H locs ls hmu hn hwE hF hW hS hl
          obtain ⟨k1, hw1⟩ := hwE
          refine lv_iload_n hx hb dX5_goTo_45 rfl (lv_at hl 3 rfl) ?_
          refine lv_iload_n hx hb dX5_goTo_46 rfl (lv_at hl 1 rfl) ?_
          refine n_icmp_gt (tgt := 61) hx hb (by omega) (by omega) dX5_goTo_47 (by decide) (fun c_17 => ?_) (fun c_17 => ?_)
          · exact o_vret hx hb hr hlocks hW hS ((show nx = dd + 1 by omega) ▸ ⟨⟨hF.inv hM hw1 hp, hF.w⟩, hw1.at, hF⟩) dX5_goTo_61
          · refine lv_aload_n hx hb dX5_goTo_50 rfl (lv_at hl 0 rfl) ?_
            refine lv_iload_n hx hb dX5_goTo_51 rfl (lv_at hl 3 rfl) ?_
            refine o_callv (o_runV (As := [.int (nI nx)]) (rest := []) ⟨hx, hb, hml, hown, hu⟩ (c_X5_walk l D cA B0 ad hal S d (⟨hX.1, hX.2.1.fr hF.x, hX.2.2⟩) pp nx k1 hp (by omega) hw1) (gV_X5_64 (fun _ h => h)) (n0 := 1) rfl (by decide +kernel) rfl ⟨Nat.le_of_ble_eq_true rfl, Nat.le_of_ble_eq_true rfl⟩ (o_recv hK hW (hA.pier (by omega)) (kX_6 _ _ _ _) rfl) hK hW hB hS hl.1 rfl (lv_room (Nat.le_of_ble_eq_true rfl)) ⟨Nat.zero_le _, Nat.zero_le _⟩ dX5_goTo_52) hS (fun d_18 q_20 H locs hW hS => ?_)
            obtain ⟨⟨r_19k, r_19a⟩, r_19b⟩ := q_20
            have hF := hF.trans r_19b
            have hwN : ∃ k', Wk S d_18 pp (nx + 1) k' := ⟨r_19k, r_19a⟩
            refine n_iinc (q := 1) (lv' := [(3, .int (nI (nx + 1))), (0, .ref (ad.1 6 pp)), (1, .int (nI dd)), (2, .int (nI (min k ((dd + 1) / 40))))]) hx hb dX5_goTo_55 hl (k := 3) rfl (by decide) (by decide) rfl (fun ls hl => ?_)
            refine lv_goto (tgt := 45) hx hb dX5_goTo_58 (by decide) ?_
            exact ih_lp45 (nx + 1) d_18 _ _ ls (by omega) (by omega) hwN hF hW hS (lv_sub hl [1, 2, 3, 0] rfl)
      exact lp45 (dd + 2) (40 * (min k ((dd + 1) / 40))) d_14 _ _ ls (by omega) (by omega) (⟨k, hw2⟩) hF hW hS (lv_sub hl [2, 3, 1, 0] rfl)

set_option maxHeartbeats 400000 in
set_option maxRecDepth 100000 in
theorem c_X5_forgetFrom (l : Launch) (D : va_G) (cA : Nat → ClassId) (B0 : Nat) (ad : kA) (hal : mAl ad) (S : sS) (d0 : kD) (hX : XB cA ad S d0) (pp dd w k : Nat) (hp : pp < S 7 0) (hd : dd < 400) (h7 : d0.1 6 pp 7 = nI w) (hw4 : w ≤ 400) (h8 : d0.1 6 pp 8 = nI k) (hk : k ≤ 10) (hMk : Mk S d0 pp (min k (dd / 40))) (hst : w ≤ dd → ∀ m, m < 64 → d0.1 3 pp m = nI (pkd (sHE S pp m w))) : oM l yX5_forgetFrom wX5_forgetFrom 2 0 0 D cA B0 ad d0 ([.ref (ad.1 6 pp), .int (nI dd)] : List Value) (oQv D cA B0 ad (fun d1 => (∃ w' k', Wk S d1 pp w' k') ∧ F1 pp d0 d1)) := by
  refine o_ofW (cc := cX5_forgetFrom) (maxL := 2) (ret := none) (by decide) rfl (Nat.le_of_ble_eq_true rfl) ?_
  intro p e s m below meth c hx hb hr hml hts hown hlocks hnm hK hW hB hS ls hl
  have hu : ∀ w ∈ UW, w.before _ s = true := fun w h => hts w (uw_c w h)
  have hl : lv_has ls 2 [(0, .ref (ad.1 6 pp)), (1, .int (nI dd))] := hl
  have hA := hX.1
  have hG := hX.2.2
  have hb7 : S 7 0 ≤ 8 := hG.f 7 (mx := 8) (by decide)
  have hb11 : S 11 0 ≤ 20 := hG.f 11 (mx := 20) (by decide)
  have hb18 : S 18 0 ≤ 40 := hG.f 18 (mx := 40) (by decide)
  refine lv_aload_n hx hb dX5_forgetFrom_0 rfl (lv_at hl 0 rfl) ?_
  refine lv_aload_n hx hb dX5_forgetFrom_1 rfl (lv_at hl 0 rfl) ?_
  refine x_gi hx hb hu in_X5 hown hK hW (hA.pier (by omega)) (kX_6 _ _ _ _) rfl 8 (by decide) uF_X5_15 dX5_forgetFrom_2 ?_
  refine n_topi (y := nI k) (h8) ?_
  refine lv_iload_n hx hb dX5_forgetFrom_5 rfl (lv_at hl 1 rfl) ?_
  refine n_bipush (v := 40) hx hb dX5_forgetFrom_6 (by decide) ?_
  refine n_idiv hx hb (by omega) (by omega) (by omega) dX5_forgetFrom_8 ?_
  refine va_mmin hx hb (hml.trans hl.1.symm) hown (hu _ uM_X5_54) (hu _ uT_J9_min_7cf53) (hu _ uI_J9) (hu _ uC_J9_min_7cf53) (Nat.le_of_ble_eq_true rfl) (Nat.le_of_ble_eq_true rfl) (Nat.le_of_ble_eq_true rfl) (Nat.le_of_ble_eq_true rfl) dX5_forgetFrom_9 ?_
  refine n_topi (y := nI (min k (dd / 40))) (n_min (by omega) (by omega)) ?_
  refine x_pi hx hb hu in_X5 tyX5 tyX5_ok nmX5 hown hK hW hS (hA.pier (by omega)) (kI_6 _ _ _ _) rfl 8 (ty := .int) (by decide +kernel) uF_X5_15 ⟨rfl, rfl⟩ dX5_forgetFrom_12 (fun H locs hW hS => ?_)
  have hF := (F1.refl pp d0).p8 (nI (min k (dd / 40)))
  have hMk2 : Mk S (uI d0 6 pp 8 (nI (min k (dd / 40)))) pp (min k (dd / 40)) := fun j h1 h2 m hm => by rw [uI_k _ _ _ _ (by decide)]; exact hMk j h1 h2 m hm
  refine lv_aload_n hx hb dX5_forgetFrom_15 rfl (lv_at hl 0 rfl) ?_
  refine x_gi hx hb hu in_X5 hown hK hW (hA.pier (by omega)) (kX_6 _ _ _ _) rfl 7 (by decide) uF_X5_9 dX5_forgetFrom_16 ?_
  refine n_topi (y := nI w) (by rw [uI_f _ _ _ _ (by decide)]; exact h7) ?_
  refine lv_iload_n hx hb dX5_forgetFrom_19 rfl (lv_at hl 1 rfl) ?_
  refine n_icmp_le (tgt := 31) hx hb (by omega) (by omega) dX5_forgetFrom_20 (by decide) (fun c_w => ?_) (fun c_w => ?_)
  · exact o_vret hx hb hr hlocks hW hS (⟨⟨w, (min k (dd / 40)), hw4, by omega, by rw [uI_f _ _ _ _ (by decide)]; exact h7, uI_s _ _ _ _ _, fun m hm => by rw [uI_k _ _ _ _ (by decide)]; exact hst (by omega) m hm, hMk2⟩, hF⟩) dX5_forgetFrom_31
  · refine lv_aload_n hx hb dX5_forgetFrom_23 rfl (lv_at hl 0 rfl) ?_
    refine lv_aload_n hx hb dX5_forgetFrom_24 rfl (lv_at hl 0 rfl) ?_
    refine x_gi hx hb hu in_X5 hown hK hW (hA.pier (by omega)) (kX_6 _ _ _ _) rfl 8 (by decide) uF_X5_15 dX5_forgetFrom_25 ?_
    refine n_topi (y := nI (min k (dd / 40))) (uI_s _ _ _ _ _) ?_
    refine o_callv (o_runV (As := [.int (nI (min k (dd / 40)))]) (rest := []) ⟨hx, hb, hml, hown, hu⟩ (c_X5_backTo l D cA B0 ad hal S (uI d0 6 pp 8 (nI (min k (dd / 40)))) (⟨hX.1, hX.2.1.fr hF.x, hX.2.2⟩) pp (min k (dd / 40)) (min k (dd / 40)) hp (Nat.le_refl _) (by omega) hMk2) (gV_X5_60 (fun _ h => h)) (n0 := 1) rfl (by decide +kernel) rfl ⟨Nat.le_of_ble_eq_true rfl, Nat.le_of_ble_eq_true rfl⟩ (o_recv hK hW (hA.pier (by omega)) (kX_6 _ _ _ _) rfl) hK hW hB hS hl.1 rfl (lv_room (Nat.le_of_ble_eq_true rfl)) ⟨Nat.zero_le _, Nat.zero_le _⟩ dX5_forgetFrom_28) hS (fun d_1 q_3 H locs hW hS => ?_)
    obtain ⟨r_2a, r_2b, r_2c, r_2d⟩ := q_3
    have hw2 : Wk S d_1 pp (40 * (min k (dd / 40))) (min k (dd / 40)) := ⟨by omega, by omega, r_2a.1, by rw [r_2d, uI_s], r_2a.2, r_2b⟩
    have hF := hF.trans r_2c
    exact o_vret hx hb hr hlocks hW hS (⟨⟨40 * (min k (dd / 40)), (min k (dd / 40)), hw2⟩, hF⟩) dX5_forgetFrom_31
