set_option maxHeartbeats 400000 in
set_option maxRecDepth 100000 in
theorem c_X9_flow (l : Launch) (D : va_G) (cA : Nat → ClassId) (B0 : Nat) (ad : kA) (hal : mAl ad) (S : sS) (sr : Nat → Int32) (d0 : kD) (hM : InvX cA ad S d0) (hR : RowX S sr d0) (day : Int32) : oM l yX9_flow wX9_flow 3 0 0 D cA B0 ad d0 ([.ref (ad.1 0 0), .int day] : List Value) (oQi D cA B0 ad (fun r d1 => r = aFlow S day ∧ PX cA ad S sr d0 d1)) := by
  refine o_ofW (cc := cX9_flow) (maxL := 2) (ret := some .int) (by decide) rfl (Nat.le_of_ble_eq_true rfl) ?_
  intro p e s m below meth c hx hb hr hml hts hown hlocks hnm hK hW hB hS ls hl
  have hu : ∀ w ∈ UW, w.before _ s = true := fun w h => hts w (uw_c w h)
  have hl : lv_has ls 2 [(0, .ref (ad.1 0 0)), (1, .int day)] := hl
  have hX := hM.1
  have hA := hX.1
  have hG := hX.2.2
  have hb7 : S 7 0 ≤ 8 := hG.f 7 (mx := 8) (by decide)
  have hb11 : S 11 0 ≤ 20 := hG.f 11 (mx := 20) (by decide)
  have hb18 : S 18 0 ≤ 40 := hG.f 18 (mx := 40) (by decide)
  have hI : XX cA ad S d0 d0 := XX.start hM
  have hb1 : S 1 0 ≤ 4 := hG.f 1 (mx := 4) (by decide)
  have hb19 : S 19 0 ≤ 399 := hG.f 19 (mx := 399) (by decide)
  have hb22 : S 22 0 ≤ 64 := hG.f 22 (mx := 64) (by decide)
  have hb25 : S 25 0 ≤ 4 := hG.f 25 (mx := 4) (by decide)
  have hb30 : S 30 0 ≤ 10 := hG.f 30 (mx := 10) (by decide)
  have hb32 : S 32 0 ≤ 64 := hG.f 32 (mx := 64) (by decide)
  refine lv_iload_n hx hb dX9_flow_0 rfl (lv_at hl 1 rfl) ?_
  refine o_calli (o_runS (As := [.int day]) (rest := []) ⟨hx, hb, hml, hown, hu⟩ (c_X9_isDay l D cA B0 ad hal d0 day) (gS_X9_81 (fun _ h => h)) (n0 := 1) rfl (by decide +kernel) rfl ⟨Nat.le_of_ble_eq_true rfl, Nat.le_of_ble_eq_true rfl⟩ hK hW hB hS hl.1 rfl (lv_room (Nat.le_of_ble_eq_true rfl)) ⟨Nat.zero_le _, Nat.zero_le _⟩ dX9_flow_1) hS (fun r_2 d_1 q_3 H locs hW hS => ?_)
  obtain ⟨rfl, rfl⟩ := q_3
  refine lv_if_eq (tgt := 16) hx hb dX9_flow_4 (by decide) (fun c_4 => ?_) (fun c_4 => ?_)
  · refine lv_iconst (v := -1) hx hb dX9_flow_16 (by decide) ?_
    exact o_iret hx hb hr hlocks hW hS (⟨by first | (simp only [aFlow, bI_z c_4, eq_self, ↓reduceIte, Bool.false_eq_true]; done) | (simp only [aFlow, bI_z c_4, eq_self, ↓reduceIte, Bool.false_eq_true]; rfl), hI.pub hR⟩) dX9_flow_17
  · obtain ⟨dayn, hdayn, rfl⟩ := ix_t (bI_n c_4) (by omega)
    refine lv_aload_n hx hb dX9_flow_7 rfl (lv_at hl 0 rfl) ?_
    refine x_gr hx hb hu in_X9 hown hK hW (hA.o (k := 0) rfl) (kX_0 _ _ _ _) rfl 0 (by decide) uF_X9_9 (hA.f 0 (k := 1) (i := 0) (by decide) (hA.o (k := 1) rfl)) dX9_flow_8 ?_
    refine lv_iload_n hx hb dX9_flow_11 rfl (lv_at hl 1 rfl) ?_
    refine x_il hx hb hK hW (hA.o (k := 1) rfl) (kX_1 _ _ _ _) (by decide) (by omega) dX9_flow_12 ?_
    refine n_topi (y := nI (S 0 dayn)) (hI.1.1.2.1.flow (by omega)) ?_
    have b_5 : S 0 dayn ≤ 99 := hG.a 0 dayn (n := 400) (mx := 99) (by decide) (by omega)
    refine lv_goto (tgt := 17) hx hb dX9_flow_13 (by decide) ?_
    exact o_iret hx hb hr hlocks hW hS (⟨by first | (simp only [aFlow, ix_nI hdayn (by omega), nx_nI (j := dayn) (by omega), eq_self, ↓reduceIte, Bool.false_eq_true]; done) | (simp only [aFlow, ix_nI hdayn (by omega), nx_nI (j := dayn) (by omega), eq_self, ↓reduceIte, Bool.false_eq_true]; rfl), hI.pub hR⟩) dX9_flow_17

set_option maxHeartbeats 400000 in
set_option maxRecDepth 100000 in
theorem c_X9_hole (l : Launch) (D : va_G) (cA : Nat → ClassId) (B0 : Nat) (ad : kA) (hal : mAl ad) (S : sS) (sr : Nat → Int32) (d0 : kD) (hM : InvX cA ad S d0) (hR : RowX S sr d0) (pi mq day wh : Int32) : oM l yX9_hole wX9_hole 5 0 0 D cA B0 ad d0 ([.ref (ad.1 0 0), .int pi, .int mq, .int day, .int wh] : List Value) (oQi D cA B0 ad (fun r d1 => r = aHole S pi mq day wh ∧ PX cA ad S sr d0 d1)) := by
  refine o_ofW (cc := cX9_hole) (maxL := 6) (ret := some .int) (by decide) rfl (Nat.le_of_ble_eq_true rfl) ?_
  intro p e s m below meth c hx hb hr hml hts hown hlocks hnm hK hW hB hS ls hl
  have hu : ∀ w ∈ UW, w.before _ s = true := fun w h => hts w (uw_c w h)
  have hl : lv_has ls 6 [(0, .ref (ad.1 0 0)), (1, .int pi), (2, .int mq), (3, .int day), (4, .int wh)] := hl
  have hX := hM.1
  have hA := hX.1
  have hG := hX.2.2
  have hb7 : S 7 0 ≤ 8 := hG.f 7 (mx := 8) (by decide)
  have hb11 : S 11 0 ≤ 20 := hG.f 11 (mx := 20) (by decide)
  have hb18 : S 18 0 ≤ 40 := hG.f 18 (mx := 40) (by decide)
  have hI : XX cA ad S d0 d0 := XX.start hM
  have hb1 : S 1 0 ≤ 4 := hG.f 1 (mx := 4) (by decide)
  have hb19 : S 19 0 ≤ 399 := hG.f 19 (mx := 399) (by decide)
  have hb22 : S 22 0 ≤ 64 := hG.f 22 (mx := 64) (by decide)
  have hb25 : S 25 0 ≤ 4 := hG.f 25 (mx := 4) (by decide)
  have hb30 : S 30 0 ≤ 10 := hG.f 30 (mx := 10) (by decide)
  have hb32 : S 32 0 ≤ 64 := hG.f 32 (mx := 64) (by decide)
  refine lv_aload_n hx hb dX9_hole_0 rfl (lv_at hl 0 rfl) ?_
  refine lv_iload_n hx hb dX9_hole_1 rfl (lv_at hl 1 rfl) ?_
  refine o_callq (o_runV (As := [.int pi]) (rest := []) ⟨hx, hb, hml, hown, hu⟩ (c_X9_pierOf l D cA B0 ad hal S d0 hI.1.1 pi) (gV_X9_126 (fun _ h => h)) (n0 := 1) rfl (by decide +kernel) rfl ⟨Nat.le_of_ble_eq_true rfl, Nat.le_of_ble_eq_true rfl⟩ (o_recv hK hW (hA.o (k := 0) rfl) (kX_0 _ _ _ _) rfl) hK hW hB hS hl.1 rfl (lv_room (Nat.le_of_ble_eq_true rfl)) ⟨Nat.zero_le _, Nat.zero_le _⟩ dX9_hole_2) hS (fun r_2 d_1 q_3 H locs hW hS => ?_)
  obtain ⟨rfl, rfl⟩ := q_3
  cases o_4 : ix pi (S 7 0) with
  | false =>
    refine W.eq (g2 := F0 m 5 ls [.null]) rfl ?_
    refine lv_astoreN (lv' := [(5, .null), (0, .ref (ad.1 0 0)), (1, .int pi), (2, .int mq), (3, .int day), (4, .int wh)]) hx hb dX9_hole_5 hl (by decide) rfl (fun ls hl => ?_)
    refine lv_aloadN hx hb dX9_hole_7 (lv_at hl 0 rfl) ?_
    refine lv_ifnullN (tgt := 26) hx hb dX9_hole_9 (by decide) ?_
    refine lv_iconst (v := -1) hx hb dX9_hole_26 (by decide) ?_
    exact o_iret hx hb hr hlocks hW hS (⟨by first | (simp only [aHole, o_4, eq_self, ↓reduceIte, Bool.false_eq_true]; done) | (simp only [aHole, o_4, eq_self, ↓reduceIte, Bool.false_eq_true]; rfl), hI.pub hR⟩) dX9_hole_27
  | true =>
    obtain ⟨pin, hpin, rfl⟩ := ix_t o_4 (by omega)
    refine W.eq (g2 := F0 m 5 ls [.ref (ad.1 6 pin)]) (by rw [if_pos rfl, nx_nI (by omega)]; rfl) ?_
    refine lv_astore (lv' := [(5, .ref (ad.1 6 pin)), (0, .ref (ad.1 0 0)), (1, .int (nI pin)), (2, .int mq), (3, .int day), (4, .int wh)]) hx hb dX9_hole_5 hl (by decide) rfl (fun ls hl => ?_)
    refine lv_aload hx hb dX9_hole_7 (lv_at hl 0 rfl) ?_
    refine lv_ifnull hx hb dX9_hole_9 ?_
    refine lv_iload_n hx hb dX9_hole_12 rfl (lv_at hl 3 rfl) ?_
    refine o_calli (o_runS (As := [.int mq]) (rest := []) ⟨hx, hb, hml, hown, hu⟩ (c_X9_isMind l D cA B0 ad hal d0 mq) (gS_X9_138 (fun _ h => h)) (n0 := 1) rfl (by decide +kernel) rfl ⟨Nat.le_of_ble_eq_true rfl, Nat.le_of_ble_eq_true rfl⟩ hK hW hB hS hl.1 rfl (lv_room (Nat.le_of_ble_eq_true rfl)) ⟨Nat.zero_le _, Nat.zero_le _⟩ dX9_hole_13) hS (fun r_6 d_5 q_7 H locs hW hS => ?_)
    obtain ⟨rfl, rfl⟩ := q_7
    refine lv_if_eq (tgt := 26) hx hb dX9_hole_16 (by decide) (fun c_8 => ?_) (fun c_8 => ?_)
    · refine lv_iconst (v := -1) hx hb dX9_hole_26 (by decide) ?_
      exact o_iret hx hb hr hlocks hW hS (⟨by first | (simp only [aHole, ix_nI hpin (by omega), nx_nI (j := pin) (by omega), bI_z c_8, eq_self, ↓reduceIte, Bool.false_eq_true]; done) | (simp only [aHole, ix_nI hpin (by omega), nx_nI (j := pin) (by omega), bI_z c_8, eq_self, ↓reduceIte, Bool.false_eq_true]; rfl), hI.pub hR⟩) dX9_hole_27
    · obtain ⟨mqn, hmqn, rfl⟩ := ix_t (bI_n c_8) (by omega)
      refine lv_iload_n hx hb dX9_hole_19 rfl (lv_at hl 4 rfl) ?_
      refine o_calli (o_runS (As := [.int day]) (rest := []) ⟨hx, hb, hml, hown, hu⟩ (c_X9_isDay l D cA B0 ad hal d0 day) (gS_X9_81 (fun _ h => h)) (n0 := 1) rfl (by decide +kernel) rfl ⟨Nat.le_of_ble_eq_true rfl, Nat.le_of_ble_eq_true rfl⟩ hK hW hB hS hl.1 rfl (lv_room (Nat.le_of_ble_eq_true rfl)) ⟨Nat.zero_le _, Nat.zero_le _⟩ dX9_hole_20) hS (fun r_10 d_9 q_11 H locs hW hS => ?_)
      obtain ⟨rfl, rfl⟩ := q_11
      refine lv_if_ne (tgt := 28) hx hb dX9_hole_23 (by decide) (fun c_12 => ?_) (fun c_12 => ?_)
      · obtain ⟨dayn, hdayn, rfl⟩ := ix_t (bI_n c_12) (by omega)
        refine lv_aload hx hb dX9_hole_28 (lv_at hl 0 rfl) ?_
        refine lv_iload_n hx hb dX9_hole_30 rfl (lv_at hl 4 rfl) ?_
        refine o_callv (o_runV (As := [.int (nI dayn)]) (rest := []) ⟨hx, hb, hml, hown, hu⟩ (c_X5_goTo l D cA B0 ad hal S d0 hI.1 pin dayn (by omega) (by omega)) (gV_X9_141 (fun _ h => h)) (n0 := 1) rfl (by decide +kernel) rfl ⟨Nat.le_of_ble_eq_true rfl, Nat.le_of_ble_eq_true rfl⟩ (o_recv hK hW (hA.pier (by omega)) (kX_6 _ _ _ _) rfl) hK hW hB hS hl.1 rfl (lv_room (Nat.le_of_ble_eq_true rfl)) ⟨Nat.zero_le _, Nat.zero_le _⟩ dX9_hole_31) hS (fun d_13 q_15 H locs hW hS => ?_)
        obtain ⟨hq, hat, hF1⟩ := q_15
        have hI := hI.w hq
        refine lv_iload hx hb dX9_hole_34 (lv_at hl 5 rfl) ?_
        cases s_16 : ix wh 4 with
        | false =>
          refine lv_tableOut (tgt := 97) hx hb dX9_hole_36 (sw_out s_16) (by decide) ?_
          refine lv_iconst (v := -1) hx hb dX9_hole_97 (by decide) ?_
          exact o_iret hx hb hr hlocks hW hS (⟨by first | (simp only [aHole, ix_nI hpin (by omega), nx_nI (j := pin) (by omega), ix_nI hmqn (by omega), nx_nI (j := mqn) (by omega), ix_nI hdayn (by omega), nx_nI (j := dayn) (by omega), s_16, eq_self, ↓reduceIte, Bool.false_eq_true]; done) | (simp only [aHole, ix_nI hpin (by omega), nx_nI (j := pin) (by omega), ix_nI hmqn (by omega), nx_nI (j := mqn) (by omega), ix_nI hdayn (by omega), nx_nI (j := dayn) (by omega), s_16, eq_self, ↓reduceIte, Bool.false_eq_true]; rfl), hI.pub hR⟩) dX9_hole_98
        | true =>
          obtain ⟨whn, hwhn, rfl⟩ := ix_t s_16 (by decide)
          rcases sw_4 hwhn with rfl | rfl | rfl | rfl
          · refine lv_tableIn (tgt := 68) hx hb dX9_hole_36 (by decide) (by decide) rfl (by decide) ?_
            refine lv_aload hx hb dX9_hole_68 (lv_at hl 0 rfl) ?_
            refine lv_iload_n hx hb dX9_hole_70 rfl (lv_at hl 3 rfl) ?_
            refine o_calli (o_runV (As := [.int (nI mqn)]) (rest := []) ⟨hx, hb, hml, hown, hu⟩ (c_X5_holeBy l D cA B0 ad hal S d_13 hI.1.1 pin mqn (dayn + 1) (by omega) (by omega) hat) (gV_X9_144 (fun _ h => h)) (n0 := 1) rfl (by decide +kernel) rfl ⟨Nat.le_of_ble_eq_true rfl, Nat.le_of_ble_eq_true rfl⟩ (o_recv hK hW (hA.pier (by omega)) (kX_6 _ _ _ _) rfl) hK hW hB hS hl.1 rfl (lv_room (Nat.le_of_ble_eq_true rfl)) ⟨Nat.zero_le _, Nat.zero_le _⟩ dX9_hole_71) hS (fun r_18 d_17 q_19 H locs hW hS => ?_)
            obtain ⟨rfl, rfl⟩ := q_19
            exact o_iret hx hb hr hlocks hW hS (⟨by first | (simp only [aHole, ix_nI hpin (by omega), nx_nI (j := pin) (by omega), ix_nI hmqn (by omega), nx_nI (j := mqn) (by omega), ix_nI hdayn (by omega), nx_nI (j := dayn) (by omega), ix_nI hwhn (by omega), nx_nI (j := 0) (by omega), eq_self, ↓reduceIte, Bool.false_eq_true]; done) | (simp only [aHole, ix_nI hpin (by omega), nx_nI (j := pin) (by omega), ix_nI hmqn (by omega), nx_nI (j := mqn) (by omega), ix_nI hdayn (by omega), nx_nI (j := dayn) (by omega), ix_nI hwhn (by omega), nx_nI (j := 0) (by omega), eq_self, ↓reduceIte, Bool.false_eq_true]; rfl), hI.pub hR⟩) dX9_hole_74
          · refine lv_tableIn (tgt := 75) hx hb dX9_hole_36 (by decide) (by decide) rfl (by decide) ?_
            refine lv_aload hx hb dX9_hole_75 (lv_at hl 0 rfl) ?_
            refine lv_iload_n hx hb dX9_hole_77 rfl (lv_at hl 3 rfl) ?_
            refine o_calli (o_runV (As := [.int (nI mqn)]) (rest := []) ⟨hx, hb, hml, hown, hu⟩ (c_X5_everBy l D cA B0 ad hal S d_13 hI.1.1 pin mqn (dayn + 1) (by omega) (by omega) hat) (gV_X9_148 (fun _ h => h)) (n0 := 1) rfl (by decide +kernel) rfl ⟨Nat.le_of_ble_eq_true rfl, Nat.le_of_ble_eq_true rfl⟩ (o_recv hK hW (hA.pier (by omega)) (kX_6 _ _ _ _) rfl) hK hW hB hS hl.1 rfl (lv_room (Nat.le_of_ble_eq_true rfl)) ⟨Nat.zero_le _, Nat.zero_le _⟩ dX9_hole_78) hS (fun r_21 d_20 q_22 H locs hW hS => ?_)
            obtain ⟨rfl, rfl⟩ := q_22
            exact o_iret hx hb hr hlocks hW hS (⟨by first | (simp only [aHole, ix_nI hpin (by omega), nx_nI (j := pin) (by omega), ix_nI hmqn (by omega), nx_nI (j := mqn) (by omega), ix_nI hdayn (by omega), nx_nI (j := dayn) (by omega), ix_nI hwhn (by omega), nx_nI (j := 1) (by omega), eq_self, ↓reduceIte, Bool.false_eq_true]; done) | (simp only [aHole, ix_nI hpin (by omega), nx_nI (j := pin) (by omega), ix_nI hmqn (by omega), nx_nI (j := mqn) (by omega), ix_nI hdayn (by omega), nx_nI (j := dayn) (by omega), ix_nI hwhn (by omega), nx_nI (j := 1) (by omega), eq_self, ↓reduceIte, Bool.false_eq_true]; rfl), hI.pub hR⟩) dX9_hole_81
          · refine lv_tableIn (tgt := 82) hx hb dX9_hole_36 (by decide) (by decide) rfl (by decide) ?_
            refine lv_aload hx hb dX9_hole_82 (lv_at hl 0 rfl) ?_
            refine lv_iload_n hx hb dX9_hole_84 rfl (lv_at hl 3 rfl) ?_
            refine lv_iload_n hx hb dX9_hole_85 rfl (lv_at hl 4 rfl) ?_
            refine o_calli (o_runV (As := [.int (nI mqn), .int (nI dayn)]) (rest := []) ⟨hx, hb, hml, hown, hu⟩ (c_X5_goalBy l D cA B0 ad hal S d_13 hI.1.1 pin mqn dayn (by omega) (by omega) (by omega)) (gV_X9_151 (fun _ h => h)) (n0 := 2) rfl (by decide +kernel) rfl ⟨Nat.le_of_ble_eq_true rfl, Nat.le_of_ble_eq_true rfl⟩ (o_recv hK hW (hA.pier (by omega)) (kX_6 _ _ _ _) rfl) hK hW hB hS hl.1 rfl (lv_room (Nat.le_of_ble_eq_true rfl)) ⟨Nat.zero_le _, Nat.zero_le _⟩ dX9_hole_86) hS (fun r_24 d_23 q_25 H locs hW hS => ?_)
            obtain ⟨rfl, rfl⟩ := q_25
            exact o_iret hx hb hr hlocks hW hS (⟨by first | (simp only [aHole, ix_nI hpin (by omega), nx_nI (j := pin) (by omega), ix_nI hmqn (by omega), nx_nI (j := mqn) (by omega), ix_nI hdayn (by omega), nx_nI (j := dayn) (by omega), ix_nI hwhn (by omega), nx_nI (j := 2) (by omega), eq_self, ↓reduceIte, Bool.false_eq_true]; done) | (simp only [aHole, ix_nI hpin (by omega), nx_nI (j := pin) (by omega), ix_nI hmqn (by omega), nx_nI (j := mqn) (by omega), ix_nI hdayn (by omega), nx_nI (j := dayn) (by omega), ix_nI hwhn (by omega), nx_nI (j := 2) (by omega), eq_self, ↓reduceIte, Bool.false_eq_true]; rfl), hI.pub hR⟩) dX9_hole_89
          · refine lv_tableIn (tgt := 90) hx hb dX9_hole_36 (by decide) (by decide) rfl (by decide) ?_
            refine lv_aload hx hb dX9_hole_90 (lv_at hl 0 rfl) ?_
            refine lv_iload_n hx hb dX9_hole_92 rfl (lv_at hl 3 rfl) ?_
            refine o_calli (o_runV (As := [.int (nI mqn)]) (rest := []) ⟨hx, hb, hml, hown, hu⟩ (c_X5_stateBy l D cA B0 ad hal S d_13 hI.1.1 pin mqn (dayn + 1) (by omega) (by omega) hat) (gV_X9_154 (fun _ h => h)) (n0 := 1) rfl (by decide +kernel) rfl ⟨Nat.le_of_ble_eq_true rfl, Nat.le_of_ble_eq_true rfl⟩ (o_recv hK hW (hA.pier (by omega)) (kX_6 _ _ _ _) rfl) hK hW hB hS hl.1 rfl (lv_room (Nat.le_of_ble_eq_true rfl)) ⟨Nat.zero_le _, Nat.zero_le _⟩ dX9_hole_93) hS (fun r_27 d_26 q_28 H locs hW hS => ?_)
            obtain ⟨rfl, rfl⟩ := q_28
            exact o_iret hx hb hr hlocks hW hS (⟨by first | (simp only [aHole, ix_nI hpin (by omega), nx_nI (j := pin) (by omega), ix_nI hmqn (by omega), nx_nI (j := mqn) (by omega), ix_nI hdayn (by omega), nx_nI (j := dayn) (by omega), ix_nI hwhn (by omega), nx_nI (j := 3) (by omega), eq_self, ↓reduceIte, Bool.false_eq_true]; done) | (simp only [aHole, ix_nI hpin (by omega), nx_nI (j := pin) (by omega), ix_nI hmqn (by omega), nx_nI (j := mqn) (by omega), ix_nI hdayn (by omega), nx_nI (j := dayn) (by omega), ix_nI hwhn (by omega), nx_nI (j := 3) (by omega), eq_self, ↓reduceIte, Bool.false_eq_true]; rfl), hI.pub hR⟩) dX9_hole_96
      · refine lv_iconst (v := -1) hx hb dX9_hole_26 (by decide) ?_
        exact o_iret hx hb hr hlocks hW hS (⟨by first | (simp only [aHole, ix_nI hpin (by omega), nx_nI (j := pin) (by omega), ix_nI hmqn (by omega), nx_nI (j := mqn) (by omega), bI_z c_12, eq_self, ↓reduceIte, Bool.false_eq_true]; done) | (simp only [aHole, ix_nI hpin (by omega), nx_nI (j := pin) (by omega), ix_nI hmqn (by omega), nx_nI (j := mqn) (by omega), bI_z c_12, eq_self, ↓reduceIte, Bool.false_eq_true]; rfl), hI.pub hR⟩) dX9_hole_27

set_option maxHeartbeats 400000 in
set_option maxRecDepth 100000 in
theorem c_X9_when (l : Launch) (D : va_G) (cA : Nat → ClassId) (B0 : Nat) (ad : kA) (hal : mAl ad) (S : sS) (sr : Nat → Int32) (d0 : kD) (hM : InvX cA ad S d0) (hR : RowX S sr d0) (pi mq wh : Int32) : oM l yX9_when wX9_when 5 0 0 D cA B0 ad d0 ([.ref (ad.1 0 0), .int pi, .int mq, .int wh] : List Value) (oQi D cA B0 ad (fun r d1 => r = aWhen S pi mq wh ∧ PX cA ad S sr d0 d1)) := by
  refine o_ofW (cc := cX9_when) (maxL := 5) (ret := some .int) (by decide) rfl (Nat.le_of_ble_eq_true rfl) ?_
  intro p e s m below meth c hx hb hr hml hts hown hlocks hnm hK hW hB hS ls hl
  have hu : ∀ w ∈ UW, w.before _ s = true := fun w h => hts w (uw_c w h)
  have hl : lv_has ls 5 [(0, .ref (ad.1 0 0)), (1, .int pi), (2, .int mq), (3, .int wh)] := hl
  have hX := hM.1
  have hA := hX.1
  have hG := hX.2.2
  have hb7 : S 7 0 ≤ 8 := hG.f 7 (mx := 8) (by decide)
  have hb11 : S 11 0 ≤ 20 := hG.f 11 (mx := 20) (by decide)
  have hb18 : S 18 0 ≤ 40 := hG.f 18 (mx := 40) (by decide)
  have hI : XX cA ad S d0 d0 := XX.start hM
  have hb1 : S 1 0 ≤ 4 := hG.f 1 (mx := 4) (by decide)
  have hb19 : S 19 0 ≤ 399 := hG.f 19 (mx := 399) (by decide)
  have hb22 : S 22 0 ≤ 64 := hG.f 22 (mx := 64) (by decide)
  have hb25 : S 25 0 ≤ 4 := hG.f 25 (mx := 4) (by decide)
  have hb30 : S 30 0 ≤ 10 := hG.f 30 (mx := 10) (by decide)
  have hb32 : S 32 0 ≤ 64 := hG.f 32 (mx := 64) (by decide)
  refine lv_aload_n hx hb dX9_when_0 rfl (lv_at hl 0 rfl) ?_
  refine lv_iload_n hx hb dX9_when_1 rfl (lv_at hl 1 rfl) ?_
  refine o_callq (o_runV (As := [.int pi]) (rest := []) ⟨hx, hb, hml, hown, hu⟩ (c_X9_pierOf l D cA B0 ad hal S d0 hI.1.1 pi) (gV_X9_126 (fun _ h => h)) (n0 := 1) rfl (by decide +kernel) rfl ⟨Nat.le_of_ble_eq_true rfl, Nat.le_of_ble_eq_true rfl⟩ (o_recv hK hW (hA.o (k := 0) rfl) (kX_0 _ _ _ _) rfl) hK hW hB hS hl.1 rfl (lv_room (Nat.le_of_ble_eq_true rfl)) ⟨Nat.zero_le _, Nat.zero_le _⟩ dX9_when_2) hS (fun r_2 d_1 q_3 H locs hW hS => ?_)
  obtain ⟨rfl, rfl⟩ := q_3
  cases o_4 : ix pi (S 7 0) with
  | false =>
    refine W.eq (g2 := F0 m 5 ls [.null]) rfl ?_
    refine lv_astoreN (lv' := [(4, .null), (0, .ref (ad.1 0 0)), (1, .int pi), (2, .int mq), (3, .int wh)]) hx hb dX9_when_5 hl (by decide) rfl (fun ls hl => ?_)
    refine lv_aloadN hx hb dX9_when_7 (lv_at hl 0 rfl) ?_
    refine lv_ifnullN (tgt := 28) hx hb dX9_when_9 (by decide) ?_
    refine lv_iconst (v := -1) hx hb dX9_when_28 (by decide) ?_
    exact o_iret hx hb hr hlocks hW hS (⟨by first | (simp only [aWhen, o_4, eq_self, ↓reduceIte, Bool.false_eq_true]; done) | (simp only [aWhen, o_4, eq_self, ↓reduceIte, Bool.false_eq_true]; rfl), hI.pub hR⟩) dX9_when_29
  | true =>
    obtain ⟨pin, hpin, rfl⟩ := ix_t o_4 (by omega)
    refine W.eq (g2 := F0 m 5 ls [.ref (ad.1 6 pin)]) (by rw [if_pos rfl, nx_nI (by omega)]; rfl) ?_
    refine lv_astore (lv' := [(4, .ref (ad.1 6 pin)), (0, .ref (ad.1 0 0)), (1, .int (nI pin)), (2, .int mq), (3, .int wh)]) hx hb dX9_when_5 hl (by decide) rfl (fun ls hl => ?_)
    refine lv_aload hx hb dX9_when_7 (lv_at hl 0 rfl) ?_
    refine lv_ifnull hx hb dX9_when_9 ?_
    refine lv_iload_n hx hb dX9_when_12 rfl (lv_at hl 3 rfl) ?_
    refine o_calli (o_runS (As := [.int mq]) (rest := []) ⟨hx, hb, hml, hown, hu⟩ (c_X9_isMind l D cA B0 ad hal d0 mq) (gS_X9_138 (fun _ h => h)) (n0 := 1) rfl (by decide +kernel) rfl ⟨Nat.le_of_ble_eq_true rfl, Nat.le_of_ble_eq_true rfl⟩ hK hW hB hS hl.1 rfl (lv_room (Nat.le_of_ble_eq_true rfl)) ⟨Nat.zero_le _, Nat.zero_le _⟩ dX9_when_13) hS (fun r_6 d_5 q_7 H locs hW hS => ?_)
    obtain ⟨rfl, rfl⟩ := q_7
    refine lv_if_eq (tgt := 28) hx hb dX9_when_16 (by decide) (fun c_8 => ?_) (fun c_8 => ?_)
    · refine lv_iconst (v := -1) hx hb dX9_when_28 (by decide) ?_
      exact o_iret hx hb hr hlocks hW hS (⟨by first | (simp only [aWhen, ix_nI hpin (by omega), nx_nI (j := pin) (by omega), bI_z c_8, eq_self, ↓reduceIte, Bool.false_eq_true]; done) | (simp only [aWhen, ix_nI hpin (by omega), nx_nI (j := pin) (by omega), bI_z c_8, eq_self, ↓reduceIte, Bool.false_eq_true]; rfl), hI.pub hR⟩) dX9_when_29
    · obtain ⟨mqn, hmqn, rfl⟩ := ix_t (bI_n c_8) (by omega)
      refine lv_iload_n hx hb dX9_when_19 rfl (lv_at hl 4 rfl) ?_
      refine n_iconst (v := 0) hx hb dX9_when_20 (by decide) ?_
      refine n_iconst (v := 1) hx hb dX9_when_21 (by decide) ?_
      refine o_calli (o_runS (As := [.int wh, .int (nI 0), .int (nI 1)]) (rest := []) ⟨hx, hb, hml, hown, hu⟩ (c_X9_within l D cA B0 ad hal d0 wh (nI 0) (nI 1)) (gS_X9_85 (fun _ h => h)) (n0 := 3) rfl (by decide +kernel) rfl ⟨Nat.le_of_ble_eq_true rfl, Nat.le_of_ble_eq_true rfl⟩ hK hW hB hS hl.1 rfl (lv_room (Nat.le_of_ble_eq_true rfl)) ⟨Nat.zero_le _, Nat.zero_le _⟩ dX9_when_22) hS (fun r_10 d_9 q_11 H locs hW hS => ?_)
      obtain ⟨rfl, rfl⟩ := q_11
      refine n_topi (y := bI (ix wh 2)) (in_ixc 2 rfl (by decide)) ?_
      refine lv_if_ne (tgt := 30) hx hb dX9_when_25 (by decide) (fun c_12 => ?_) (fun c_12 => ?_)
      · obtain ⟨whn, hwhn, rfl⟩ := ix_t (bI_n c_12) (by omega)
        refine lv_aload hx hb dX9_when_30 (lv_at hl 0 rfl) ?_
        refine lv_iload_n hx hb dX9_when_32 rfl (lv_at hl 3 rfl) ?_
        refine lv_iload_n hx hb dX9_when_33 rfl (lv_at hl 4 rfl) ?_
        have j42 : ∀ (sv : Nat)  (H : Heap) (locs : List Loc) (ls : Array Slot), (sv = whn + 1) → oW D cA B0 ad d0 H → va_S (oA B0) s.heap H locs → lv_has ls 5 [(0, .ref (ad.1 0 0)), (1, .int (nI pin)), (2, .int (nI mqn)), (3, .int (nI whn)), (4, .ref (ad.1 6 pin))] → W p l e (oR 5 0 0) s m ([.ref (ad.1 0 0), .int (nI pin), .int (nI mqn), .int (nI whn)] : List Value).toArray below meth c H locs 0 0 (MQ below (oQi D cA B0 ad (fun r d1 => r = aWhen S (nI pin) (nI mqn) (nI whn) ∧ PX cA ad S sr d0 d1)) ([.ref (ad.1 0 0), .int (nI pin), .int (nI mqn), .int (nI whn)] : List Value).toArray s 0 0 (oA B0)) (F0 m 42 ls [.int (nI sv), .int (nI mqn), .ref (ad.1 6 pin)]) := by
          intro sv  H locs ls hsv hW hS hl
          refine o_calli (o_runV (As := [.int (nI mqn), .int (nI sv)]) (rest := []) ⟨hx, hb, hml, hown, hu⟩ (c_X5_firstDay l D cA B0 ad hal S d0 hI.1.1 pin mqn sv (by omega) (by omega) (by omega) (by omega)) (gV_X9_157 (fun _ h => h)) (n0 := 2) rfl (by decide +kernel) rfl ⟨Nat.le_of_ble_eq_true rfl, Nat.le_of_ble_eq_true rfl⟩ (o_recv hK hW (hA.pier (by omega)) (kX_6 _ _ _ _) rfl) hK hW hB hS hl.1 rfl (lv_room (Nat.le_of_ble_eq_true rfl)) ⟨Nat.zero_le _, Nat.zero_le _⟩ dX9_when_42) hS (fun r_14 d_13 q_15 H locs hW hS => ?_)
          obtain ⟨rfl, rfl⟩ := q_15
          exact o_iret hx hb hr hlocks hW hS (⟨by simp only [aWhen, ix_nI hpin (by omega), nx_nI (j := pin) (by omega), ix_nI hmqn (by omega), nx_nI (j := mqn) (by omega), ix_nI hwhn (by omega), nx_nI (j := whn) (by omega), eq_self, ↓reduceIte, Bool.false_eq_true]; rw [hsv, Nat.add_sub_cancel], hI.pub hR⟩) dX9_when_45
        refine n_if_ne (tgt := 41) hx hb (by omega) dX9_when_34 (by decide) (fun c_16 => ?_) (fun c_16 => ?_)
        · refine n_iconst (v := 2) hx hb dX9_when_41 (by decide) ?_
          exact j42 2 _ _ ls (by omega) hW hS (lv_sub hl [1, 2, 3, 4, 0] rfl)
        · refine n_iconst (v := 1) hx hb dX9_when_37 (by decide) ?_
          refine lv_goto (tgt := 42) hx hb dX9_when_38 (by decide) ?_
          exact j42 1 _ _ ls (by omega) hW hS (lv_sub hl [1, 2, 3, 4, 0] rfl)
      · refine lv_iconst (v := -1) hx hb dX9_when_28 (by decide) ?_
        exact o_iret hx hb hr hlocks hW hS (⟨by first | (simp only [aWhen, ix_nI hpin (by omega), nx_nI (j := pin) (by omega), ix_nI hmqn (by omega), nx_nI (j := mqn) (by omega), bI_z c_12, eq_self, ↓reduceIte, Bool.false_eq_true]; done) | (simp only [aWhen, ix_nI hpin (by omega), nx_nI (j := pin) (by omega), ix_nI hmqn (by omega), nx_nI (j := mqn) (by omega), bI_z c_12, eq_self, ↓reduceIte, Bool.false_eq_true]; rfl), hI.pub hR⟩) dX9_when_29

set_option maxHeartbeats 400000 in
set_option maxRecDepth 100000 in
theorem c_X9_kept (l : Launch) (D : va_G) (cA : Nat → ClassId) (B0 : Nat) (ad : kA) (hal : mAl ad) (S : sS) (sr : Nat → Int32) (d0 : kD) (hM : InvX cA ad S d0) (hR : RowX S sr d0) (pi mq : Int32) : oM l yX9_kept wX9_kept 6 0 0 D cA B0 ad d0 ([.ref (ad.1 0 0), .int pi, .int mq] : List Value) (oQi D cA B0 ad (fun r d1 => r = aKept S pi mq ∧ PX cA ad S sr d0 d1)) := by
  refine o_ofW (cc := cX9_kept) (maxL := 4) (ret := some .int) (by decide) rfl (Nat.le_of_ble_eq_true rfl) ?_
  intro p e s m below meth c hx hb hr hml hts hown hlocks hnm hK hW hB hS ls hl
  have hu : ∀ w ∈ UW, w.before _ s = true := fun w h => hts w (uw_c w h)
  have hl : lv_has ls 4 [(0, .ref (ad.1 0 0)), (1, .int pi), (2, .int mq)] := hl
  have hX := hM.1
  have hA := hX.1
  have hG := hX.2.2
  have hb7 : S 7 0 ≤ 8 := hG.f 7 (mx := 8) (by decide)
  have hb11 : S 11 0 ≤ 20 := hG.f 11 (mx := 20) (by decide)
  have hb18 : S 18 0 ≤ 40 := hG.f 18 (mx := 40) (by decide)
  have hI : XX cA ad S d0 d0 := XX.start hM
  have hb1 : S 1 0 ≤ 4 := hG.f 1 (mx := 4) (by decide)
  have hb19 : S 19 0 ≤ 399 := hG.f 19 (mx := 399) (by decide)
  have hb22 : S 22 0 ≤ 64 := hG.f 22 (mx := 64) (by decide)
  have hb25 : S 25 0 ≤ 4 := hG.f 25 (mx := 4) (by decide)
  have hb30 : S 30 0 ≤ 10 := hG.f 30 (mx := 10) (by decide)
  have hb32 : S 32 0 ≤ 64 := hG.f 32 (mx := 64) (by decide)
  refine lv_aload_n hx hb dX9_kept_0 rfl (lv_at hl 0 rfl) ?_
  refine lv_iload_n hx hb dX9_kept_1 rfl (lv_at hl 1 rfl) ?_
  refine o_callq (o_runV (As := [.int pi]) (rest := []) ⟨hx, hb, hml, hown, hu⟩ (c_X9_pierOf l D cA B0 ad hal S d0 hI.1.1 pi) (gV_X9_126 (fun _ h => h)) (n0 := 1) rfl (by decide +kernel) rfl ⟨Nat.le_of_ble_eq_true rfl, Nat.le_of_ble_eq_true rfl⟩ (o_recv hK hW (hA.o (k := 0) rfl) (kX_0 _ _ _ _) rfl) hK hW hB hS hl.1 rfl (lv_room (Nat.le_of_ble_eq_true rfl)) ⟨Nat.zero_le _, Nat.zero_le _⟩ dX9_kept_2) hS (fun r_2 d_1 q_3 H locs hW hS => ?_)
  obtain ⟨rfl, rfl⟩ := q_3
  cases o_4 : ix pi (S 7 0) with
  | false =>
    refine W.eq (g2 := F0 m 5 ls [.null]) rfl ?_
    refine lv_astore_nN (lv' := [(3, .null), (0, .ref (ad.1 0 0)), (1, .int pi), (2, .int mq)]) hx hb dX9_kept_5 rfl hl (by decide) rfl (fun ls hl => ?_)
    refine lv_aload_nN hx hb dX9_kept_6 rfl (lv_at hl 0 rfl) ?_
    refine lv_ifnullN (tgt := 17) hx hb dX9_kept_7 (by decide) ?_
    refine lv_iconst (v := -1) hx hb dX9_kept_17 (by decide) ?_
    exact o_iret hx hb hr hlocks hW hS (⟨by first | (simp only [aKept, o_4, eq_self, ↓reduceIte, Bool.false_eq_true]; done) | (simp only [aKept, o_4, eq_self, ↓reduceIte, Bool.false_eq_true]; rfl), hI.pub hR⟩) dX9_kept_18
  | true =>
    obtain ⟨pin, hpin, rfl⟩ := ix_t o_4 (by omega)
    refine W.eq (g2 := F0 m 5 ls [.ref (ad.1 6 pin)]) (by rw [if_pos rfl, nx_nI (by omega)]; rfl) ?_
    refine lv_astore_n (lv' := [(3, .ref (ad.1 6 pin)), (0, .ref (ad.1 0 0)), (1, .int (nI pin)), (2, .int mq)]) hx hb dX9_kept_5 rfl hl (by decide) rfl (fun ls hl => ?_)
    refine lv_aload_n hx hb dX9_kept_6 rfl (lv_at hl 0 rfl) ?_
    refine lv_ifnull hx hb dX9_kept_7 ?_
    refine lv_iload_n hx hb dX9_kept_10 rfl (lv_at hl 3 rfl) ?_
    refine o_calli (o_runS (As := [.int mq]) (rest := []) ⟨hx, hb, hml, hown, hu⟩ (c_X9_isMind l D cA B0 ad hal d0 mq) (gS_X9_138 (fun _ h => h)) (n0 := 1) rfl (by decide +kernel) rfl ⟨Nat.le_of_ble_eq_true rfl, Nat.le_of_ble_eq_true rfl⟩ hK hW hB hS hl.1 rfl (lv_room (Nat.le_of_ble_eq_true rfl)) ⟨Nat.zero_le _, Nat.zero_le _⟩ dX9_kept_11) hS (fun r_6 d_5 q_7 H locs hW hS => ?_)
    obtain ⟨rfl, rfl⟩ := q_7
    refine lv_if_ne (tgt := 19) hx hb dX9_kept_14 (by decide) (fun c_8 => ?_) (fun c_8 => ?_)
    · obtain ⟨mqn, hmqn, rfl⟩ := ix_t (bI_n c_8) (by omega)
      refine lv_aload_n hx hb dX9_kept_19 rfl (lv_at hl 1 rfl) ?_
      refine lv_aload_n hx hb dX9_kept_20 rfl (lv_at hl 1 rfl) ?_
      refine x_gi hx hb hu in_X9 hown hK hW (hA.o (k := 0) rfl) (kX_0 _ _ _ _) rfl 15 (by decide) uF_X9_78 dX9_kept_21 ?_
      refine n_topi (y := nI (S 19 0)) (hI.1.1.2.1.as) ?_
      have b_9 : S 19 0 ≤ 399 := hG.f 19 (mx := 399) (by decide)
      refine o_callv (o_runV (As := [.int (nI (S 19 0))]) (rest := []) ⟨hx, hb, hml, hown, hu⟩ (c_X9_findKept l D cA B0 ad hal S d0 hI.1 (S 19 0) (by omega)) (gV_X9_160 (fun _ h => h)) (n0 := 1) rfl (by decide +kernel) rfl ⟨Nat.le_of_ble_eq_true rfl, Nat.le_of_ble_eq_true rfl⟩ (o_recv hK hW (hA.o (k := 0) rfl) (kX_0 _ _ _ _) rfl) hK hW hB hS hl.1 rfl (lv_room (Nat.le_of_ble_eq_true rfl)) ⟨Nat.zero_le _, Nat.zero_le _⟩ dX9_kept_24) hS (fun d_10 q_12 H locs hW hS => ?_)
      obtain ⟨hq, hKP⟩ := q_12
      have hI := hI.k hq
      have hkf := kept_free S pin (S 19 0) (m := mqn) (by omega)
      refine lv_aload_n hx hb dX9_kept_27 rfl (lv_at hl 0 rfl) ?_
      refine x_gl hx hb hu in_X5 hown hK hW (hA.pier (by omega)) (kX_6 _ _ _ _) rfl 11 (by decide) uF_X9_163 dX9_kept_28 ?_
      refine n_topl (y := sFree S pin (S 19 0) (-1)) ((hKP.1 pin (by omega)).1) ?_
      refine lv_iload_n hx hb dX9_kept_31 rfl (lv_at hl 3 rfl) ?_
      refine o_calli (o_runS (As := [.long (sFree S pin (S 19 0) (-1)), .int (nI mqn)]) (rest := []) ⟨hx, hb, hml, hown, hu⟩ (c_X9_holds l D cA B0 ad hal d_10 (sFree S pin (S 19 0) (-1)) mqn (by omega)) (gS_X9_167 (fun _ h => h)) (n0 := 2) rfl (by decide +kernel) rfl ⟨Nat.le_of_ble_eq_true rfl, Nat.le_of_ble_eq_true rfl⟩ hK hW hB hS hl.1 rfl (lv_room (Nat.le_of_ble_eq_true rfl)) ⟨Nat.zero_le _, Nat.zero_le _⟩ dX9_kept_32) hS (fun r_14 d_13 q_15 H locs hW hS => ?_)
      obtain ⟨rfl, rfl⟩ := q_15
      refine lv_if_ne (tgt := 40) hx hb dX9_kept_35 (by decide) (fun c_k => ?_) (fun c_k => ?_)
      · refine lv_aload_n hx hb dX9_kept_40 rfl (lv_at hl 0 rfl) ?_
        refine x_gl hx hb hu in_X5 hown hK hW (hA.pier (by omega)) (kX_6 _ _ _ _) rfl 12 (by decide) uF_X9_171 dX9_kept_41 ?_
        refine n_topl (y := sKept S pin (S 19 0)) ((hKP.1 pin (by omega)).2) ?_
        refine lv_iload_n hx hb dX9_kept_44 rfl (lv_at hl 3 rfl) ?_
        refine o_calli (o_runS (As := [.long (sKept S pin (S 19 0)), .int (nI mqn)]) (rest := []) ⟨hx, hb, hml, hown, hu⟩ (c_X9_holds l D cA B0 ad hal d_10 (sKept S pin (S 19 0)) mqn (by omega)) (gS_X9_167 (fun _ h => h)) (n0 := 2) rfl (by decide +kernel) rfl ⟨Nat.le_of_ble_eq_true rfl, Nat.le_of_ble_eq_true rfl⟩ hK hW hB hS hl.1 rfl (lv_room (Nat.le_of_ble_eq_true rfl)) ⟨Nat.zero_le _, Nat.zero_le _⟩ dX9_kept_45) hS (fun r_17 d_16 q_18 H locs hW hS => ?_)
        obtain ⟨rfl, rfl⟩ := q_18
        refine lv_if_eq (tgt := 55) hx hb dX9_kept_48 (by decide) (fun c_l => ?_) (fun c_l => ?_)
        · refine n_iconst (v := 2) hx hb dX9_kept_55 (by decide) ?_
          exact o_iret hx hb hr hlocks hW hS (⟨by simp only [aKept, ix_nI hpin (by omega), nx_nI (j := pin) (by omega), ix_nI hmqn (by omega), nx_nI (j := mqn) (by omega), eq_self, ↓reduceIte, Bool.false_eq_true]; first | (rw [if_pos (bI_n c_l)]; done) | (rw [if_neg (by rw [bI_z c_l]; decide), if_pos (bI_n c_k)]; done), hI.pub hR⟩) dX9_kept_56
        · refine n_iconst (v := 1) hx hb dX9_kept_51 (by decide) ?_
          refine lv_goto (tgt := 56) hx hb dX9_kept_52 (by decide) ?_
          exact o_iret hx hb hr hlocks hW hS (⟨by simp only [aKept, ix_nI hpin (by omega), nx_nI (j := pin) (by omega), ix_nI hmqn (by omega), nx_nI (j := mqn) (by omega), eq_self, ↓reduceIte, Bool.false_eq_true]; first | (rw [if_pos (bI_n c_l)]; done) | (rw [if_neg (by rw [bI_z c_l]; decide), if_pos (bI_n c_k)]; done), hI.pub hR⟩) dX9_kept_56
      · refine n_iconst (v := 0) hx hb dX9_kept_38 (by decide) ?_
        exact o_iret hx hb hr hlocks hW hS (⟨by simp only [aKept, ix_nI hpin (by omega), nx_nI (j := pin) (by omega), ix_nI hmqn (by omega), nx_nI (j := mqn) (by omega), eq_self, ↓reduceIte, Bool.false_eq_true]; rw [if_neg (fun q => by rw [bI_z c_k] at hkf; exact absurd (hkf q) (by decide)), if_neg (by rw [bI_z c_k]; decide)], hI.pub hR⟩) dX9_kept_39
    · refine lv_iconst (v := -1) hx hb dX9_kept_17 (by decide) ?_
      exact o_iret hx hb hr hlocks hW hS (⟨by first | (simp only [aKept, ix_nI hpin (by omega), nx_nI (j := pin) (by omega), bI_z c_8, eq_self, ↓reduceIte, Bool.false_eq_true]; done) | (simp only [aKept, ix_nI hpin (by omega), nx_nI (j := pin) (by omega), bI_z c_8, eq_self, ↓reduceIte, Bool.false_eq_true]; rfl), hI.pub hR⟩) dX9_kept_18

set_option maxHeartbeats 400000 in
set_option maxRecDepth 100000 in
theorem c_X9_shared (l : Launch) (D : va_G) (cA : Nat → ClassId) (B0 : Nat) (ad : kA) (hal : mAl ad) (S : sS) (sr : Nat → Int32) (d0 : kD) (hM : InvX cA ad S d0) (hR : RowX S sr d0) (bd : Int32) : oM l yX9_shared wX9_shared 6 0 0 D cA B0 ad d0 ([.ref (ad.1 0 0), .int bd] : List Value) (oQi D cA B0 ad (fun r d1 => r = aShared S bd ∧ PX cA ad S sr d0 d1)) := by
  refine o_ofW (cc := cX9_shared) (maxL := 2) (ret := some .int) (by decide) rfl (Nat.le_of_ble_eq_true rfl) ?_
  intro p e s m below meth c hx hb hr hml hts hown hlocks hnm hK hW hB hS ls hl
  have hu : ∀ w ∈ UW, w.before _ s = true := fun w h => hts w (uw_c w h)
  have hl : lv_has ls 2 [(0, .ref (ad.1 0 0)), (1, .int bd)] := hl
  have hX := hM.1
  have hA := hX.1
  have hG := hX.2.2
  have hb7 : S 7 0 ≤ 8 := hG.f 7 (mx := 8) (by decide)
  have hb11 : S 11 0 ≤ 20 := hG.f 11 (mx := 20) (by decide)
  have hb18 : S 18 0 ≤ 40 := hG.f 18 (mx := 40) (by decide)
  have hI : XX cA ad S d0 d0 := XX.start hM
  have hb1 : S 1 0 ≤ 4 := hG.f 1 (mx := 4) (by decide)
  have hb19 : S 19 0 ≤ 399 := hG.f 19 (mx := 399) (by decide)
  have hb22 : S 22 0 ≤ 64 := hG.f 22 (mx := 64) (by decide)
  have hb25 : S 25 0 ≤ 4 := hG.f 25 (mx := 4) (by decide)
  have hb30 : S 30 0 ≤ 10 := hG.f 30 (mx := 10) (by decide)
  have hb32 : S 32 0 ≤ 64 := hG.f 32 (mx := 64) (by decide)
  refine lv_iload_n hx hb dX9_shared_0 rfl (lv_at hl 1 rfl) ?_
  refine n_iconst (v := 0) hx hb dX9_shared_1 (by decide) ?_
  refine lv_aload_n hx hb dX9_shared_2 rfl (lv_at hl 0 rfl) ?_
  refine x_gi hx hb hu in_X9 hown hK hW (hA.o (k := 0) rfl) (kX_0 _ _ _ _) rfl 13 (by decide) uF_X9_71 dX9_shared_3 ?_
  refine n_topi (y := nI (S 1 0)) (hI.1.1.2.1.beds) ?_
  have b_1 : S 1 0 ≤ 4 := hG.f 1 (mx := 4) (by decide)
  refine n_iconst (v := 1) hx hb dX9_shared_6 (by decide) ?_
  refine lv_isub hx hb dX9_shared_7 ?_
  refine o_calli (o_runS (As := [.int bd, .int (nI 0), .int ((nI (S 1 0)) - (nI 1))]) (rest := []) ⟨hx, hb, hml, hown, hu⟩ (c_X9_within l D cA B0 ad hal d0 bd (nI 0) ((nI (S 1 0)) - (nI 1))) (gS_X9_85 (fun _ h => h)) (n0 := 3) rfl (by decide +kernel) rfl ⟨Nat.le_of_ble_eq_true rfl, Nat.le_of_ble_eq_true rfl⟩ hK hW hB hS hl.1 rfl (lv_room (Nat.le_of_ble_eq_true rfl)) ⟨Nat.zero_le _, Nat.zero_le _⟩ dX9_shared_8) hS (fun r_3 d_2 q_4 H locs hW hS => ?_)
  obtain ⟨rfl, rfl⟩ := q_4
  refine n_topi (y := bI (ix bd (S 1 0))) (in_ix (by omega)) ?_
  refine lv_if_ne (tgt := 16) hx hb dX9_shared_11 (by decide) (fun c_5 => ?_) (fun c_5 => ?_)
  · obtain ⟨bdn, hbdn, rfl⟩ := ix_t (bI_n c_5) (by omega)
    refine lv_aload_n hx hb dX9_shared_16 rfl (lv_at hl 0 rfl) ?_
    refine lv_aload_n hx hb dX9_shared_17 rfl (lv_at hl 0 rfl) ?_
    refine x_gi hx hb hu in_X9 hown hK hW (hA.o (k := 0) rfl) (kX_0 _ _ _ _) rfl 15 (by decide) uF_X9_78 dX9_shared_18 ?_
    refine n_topi (y := nI (S 19 0)) (hI.1.1.2.1.as) ?_
    have b_6 : S 19 0 ≤ 399 := hG.f 19 (mx := 399) (by decide)
    refine o_callv (o_runV (As := [.int (nI (S 19 0))]) (rest := []) ⟨hx, hb, hml, hown, hu⟩ (c_X9_findKept l D cA B0 ad hal S d0 hI.1 (S 19 0) (by omega)) (gV_X9_160 (fun _ h => h)) (n0 := 1) rfl (by decide +kernel) rfl ⟨Nat.le_of_ble_eq_true rfl, Nat.le_of_ble_eq_true rfl⟩ (o_recv hK hW (hA.o (k := 0) rfl) (kX_0 _ _ _ _) rfl) hK hW hB hS hl.1 rfl (lv_room (Nat.le_of_ble_eq_true rfl)) ⟨Nat.zero_le _, Nat.zero_le _⟩ dX9_shared_21) hS (fun d_7 q_9 H locs hW hS => ?_)
    obtain ⟨hq, hKP⟩ := q_9
    have hI := hI.k hq
    refine lv_aload_n hx hb dX9_shared_24 rfl (lv_at hl 0 rfl) ?_
    refine x_gr hx hb hu in_X9 hown hK hW (hA.o (k := 0) rfl) (kX_0 _ _ _ _) rfl 10 (by decide) uF_X9_62 (hA.f 10 (k := 25) (i := 0) (by decide) (hA.o (k := 25) rfl)) dX9_shared_25 ?_
    refine lv_iload_n hx hb dX9_shared_28 rfl (lv_at hl 1 rfl) ?_
    refine x_il hx hb hK hW (hA.o (k := 25) rfl) (kX_25 _ _ _ _) (by decide) (by omega) dX9_shared_29 ?_
    refine n_topi (y := sCommon S bdn (S 19 0)) (hKP.2.1 bdn (by omega)) ?_
    exact o_iret hx hb hr hlocks hW hS (⟨by first | (simp only [aShared, ix_nI hbdn (by omega), nx_nI (j := bdn) (by omega), eq_self, ↓reduceIte, Bool.false_eq_true]; done) | (simp only [aShared, ix_nI hbdn (by omega), nx_nI (j := bdn) (by omega), eq_self, ↓reduceIte, Bool.false_eq_true]; rfl), hI.pub hR⟩) dX9_shared_30
  · refine lv_iconst (v := -1) hx hb dX9_shared_14 (by decide) ?_
    exact o_iret hx hb hr hlocks hW hS (⟨by first | (simp only [aShared, bI_z c_5, eq_self, ↓reduceIte, Bool.false_eq_true]; done) | (simp only [aShared, bI_z c_5, eq_self, ↓reduceIte, Bool.false_eq_true]; rfl), hI.pub hR⟩) dX9_shared_15

set_option maxHeartbeats 400000 in
set_option maxRecDepth 100000 in
theorem c_X9_bars (l : Launch) (D : va_G) (cA : Nat → ClassId) (B0 : Nat) (ad : kA) (hal : mAl ad) (S : sS) (sr : Nat → Int32) (d0 : kD) (hM : InvX cA ad S d0) (hR : RowX S sr d0) (li : Int32) : oM l yX9_bars wX9_bars 5 0 0 D cA B0 ad d0 ([.ref (ad.1 0 0), .int li] : List Value) (oQi D cA B0 ad (fun r d1 => r = aBars S li ∧ PX cA ad S sr d0 d1)) := by
  refine o_ofW (cc := cX9_bars) (maxL := 3) (ret := some .int) (by decide) rfl (Nat.le_of_ble_eq_true rfl) ?_
  intro p e s m below meth c hx hb hr hml hts hown hlocks hnm hK hW hB hS ls hl
  have hu : ∀ w ∈ UW, w.before _ s = true := fun w h => hts w (uw_c w h)
  have hl : lv_has ls 3 [(0, .ref (ad.1 0 0)), (1, .int li)] := hl
  have hX := hM.1
  have hA := hX.1
  have hG := hX.2.2
  have hb7 : S 7 0 ≤ 8 := hG.f 7 (mx := 8) (by decide)
  have hb11 : S 11 0 ≤ 20 := hG.f 11 (mx := 20) (by decide)
  have hb18 : S 18 0 ≤ 40 := hG.f 18 (mx := 40) (by decide)
  have hI : XX cA ad S d0 d0 := XX.start hM
  have hb1 : S 1 0 ≤ 4 := hG.f 1 (mx := 4) (by decide)
  have hb19 : S 19 0 ≤ 399 := hG.f 19 (mx := 399) (by decide)
  have hb22 : S 22 0 ≤ 64 := hG.f 22 (mx := 64) (by decide)
  have hb25 : S 25 0 ≤ 4 := hG.f 25 (mx := 4) (by decide)
  have hb30 : S 30 0 ≤ 10 := hG.f 30 (mx := 10) (by decide)
  have hb32 : S 32 0 ≤ 64 := hG.f 32 (mx := 64) (by decide)
  refine lv_aload_n hx hb dX9_bars_0 rfl (lv_at hl 0 rfl) ?_
  refine lv_iload_n hx hb dX9_bars_1 rfl (lv_at hl 1 rfl) ?_
  refine o_callq (o_runV (As := [.int li]) (rest := []) ⟨hx, hb, hml, hown, hu⟩ (c_X9_lookOf l D cA B0 ad hal S d0 hI.1.1 li) (gV_X9_222 (fun _ h => h)) (n0 := 1) rfl (by decide +kernel) rfl ⟨Nat.le_of_ble_eq_true rfl, Nat.le_of_ble_eq_true rfl⟩ (o_recv hK hW (hA.o (k := 0) rfl) (kX_0 _ _ _ _) rfl) hK hW hB hS hl.1 rfl (lv_room (Nat.le_of_ble_eq_true rfl)) ⟨Nat.zero_le _, Nat.zero_le _⟩ dX9_bars_2) hS (fun r_2 d_1 q_3 H locs hW hS => ?_)
  obtain ⟨rfl, rfl⟩ := q_3
  cases o_4 : ix li (S 18 0) with
  | false =>
    refine W.eq (g2 := F0 m 5 ls [.null]) rfl ?_
    refine lv_astore_nN (lv' := [(2, .null), (0, .ref (ad.1 0 0)), (1, .int li)]) hx hb dX9_bars_5 rfl hl (by decide) rfl (fun ls hl => ?_)
    refine lv_aload_nN hx hb dX9_bars_6 rfl (lv_at hl 0 rfl) ?_
    refine lv_ifnonnullN hx hb dX9_bars_7 ?_
    refine lv_iconst (v := -1) hx hb dX9_bars_10 (by decide) ?_
    exact o_iret hx hb hr hlocks hW hS (⟨by first | (simp only [aBars, o_4, eq_self, ↓reduceIte, Bool.false_eq_true]; done) | (simp only [aBars, o_4, eq_self, ↓reduceIte, Bool.false_eq_true]; rfl), hI.pub hR⟩) dX9_bars_11
  | true =>
    obtain ⟨lin, hlin, rfl⟩ := ix_t o_4 (by omega)
    refine W.eq (g2 := F0 m 5 ls [.ref (ad.1 8 lin)]) (by rw [if_pos rfl, nx_nI (by omega)]; rfl) ?_
    refine lv_astore_n (lv' := [(2, .ref (ad.1 8 lin)), (0, .ref (ad.1 0 0)), (1, .int (nI lin))]) hx hb dX9_bars_5 rfl hl (by decide) rfl (fun ls hl => ?_)
    refine lv_aload_n hx hb dX9_bars_6 rfl (lv_at hl 0 rfl) ?_
    refine lv_ifnonnull (tgt := 12) hx hb dX9_bars_7 (by decide) ?_
    refine lv_aload_n hx hb dX9_bars_12 rfl (lv_at hl 0 rfl) ?_
    refine o_callv (o_runV (As := []) (rest := []) ⟨hx, hb, hml, hown, hu⟩ (c_X2_freshen l D cA B0 ad hal S d0 hI.1 lin (by omega)) (gV_X9_188 (fun _ h => h)) (n0 := 0) rfl (by decide +kernel) rfl ⟨Nat.le_of_ble_eq_true rfl, Nat.le_of_ble_eq_true rfl⟩ (o_recv hK hW (hA.look (by omega)) (kX_8 _ _ _ _) rfl) hK hW hB hS hl.1 rfl (lv_room (Nat.le_of_ble_eq_true rfl)) ⟨Nat.zero_le _, Nat.zero_le _⟩ dX9_bars_13) hS (fun d_5 q_7 H locs hW hS => ?_)
    obtain ⟨hq, hfr, hbar, hF8⟩ := q_7
    have hI := hI.k hq
    refine lv_aload_n hx hb dX9_bars_16 rfl (lv_at hl 0 rfl) ?_
    refine x_gl hx hb hu in_X2 hown hK hW (hA.look (by omega)) (kX_8 _ _ _ _) rfl 7 (by decide) uF_X9_198 dX9_bars_17 ?_
    refine n_topl (y := sBars S lin) (hbar) ?_
    refine o_calli (o_runS (As := [.long (sBars S lin)]) (rest := []) ⟨hx, hb, hml, hown, hu⟩ (c_J13_bitCount_95d88 l D cA B0 ad hal d_5 (sBars S lin)) (gS_X9_180 (fun _ h => h)) (n0 := 1) rfl (by decide +kernel) rfl ⟨Nat.le_of_ble_eq_true rfl, Nat.le_of_ble_eq_true rfl⟩ hK hW hB hS hl.1 rfl (lv_room (Nat.le_of_ble_eq_true rfl)) ⟨Nat.zero_le _, Nat.zero_le _⟩ dX9_bars_20) hS (fun r_9 d_8 q_10 H locs hW hS => ?_)
    obtain ⟨rfl, rfl⟩ := q_10
    have b_11 := popN_le (sBars S lin)
    exact o_iret hx hb hr hlocks hW hS (⟨by first | (simp only [aBars, ix_nI hlin (by omega), nx_nI (j := lin) (by omega), eq_self, ↓reduceIte, Bool.false_eq_true]; done) | (simp only [aBars, ix_nI hlin (by omega), nx_nI (j := lin) (by omega), eq_self, ↓reduceIte, Bool.false_eq_true]; rfl), hI.pub hR⟩) dX9_bars_23

set_option maxHeartbeats 400000 in
set_option maxRecDepth 100000 in
theorem c_X9_proof (l : Launch) (D : va_G) (cA : Nat → ClassId) (B0 : Nat) (ad : kA) (hal : mAl ad) (S : sS) (sr : Nat → Int32) (d0 : kD) (hM : InvX cA ad S d0) (hR : RowX S sr d0) (ii wh : Int32) : oM l yX9_proof wX9_proof 3 0 0 D cA B0 ad d0 ([.ref (ad.1 0 0), .int ii, .int wh] : List Value) (oQi D cA B0 ad (fun r d1 => r = aProof S ii wh ∧ PX cA ad S sr d0 d1)) := by
  refine o_ofW (cc := cX9_proof) (maxL := 3) (ret := some .int) (by decide) rfl (Nat.le_of_ble_eq_true rfl) ?_
  intro p e s m below meth c hx hb hr hml hts hown hlocks hnm hK hW hB hS ls hl
  have hu : ∀ w ∈ UW, w.before _ s = true := fun w h => hts w (uw_c w h)
  have hl : lv_has ls 3 [(0, .ref (ad.1 0 0)), (1, .int ii), (2, .int wh)] := hl
  have hX := hM.1
  have hA := hX.1
  have hG := hX.2.2
  have hb7 : S 7 0 ≤ 8 := hG.f 7 (mx := 8) (by decide)
  have hb11 : S 11 0 ≤ 20 := hG.f 11 (mx := 20) (by decide)
  have hb18 : S 18 0 ≤ 40 := hG.f 18 (mx := 40) (by decide)
  have hI : XX cA ad S d0 d0 := XX.start hM
  have hb1 : S 1 0 ≤ 4 := hG.f 1 (mx := 4) (by decide)
  have hb19 : S 19 0 ≤ 399 := hG.f 19 (mx := 399) (by decide)
  have hb22 : S 22 0 ≤ 64 := hG.f 22 (mx := 64) (by decide)
  have hb25 : S 25 0 ≤ 4 := hG.f 25 (mx := 4) (by decide)
  have hb30 : S 30 0 ≤ 10 := hG.f 30 (mx := 10) (by decide)
  have hb32 : S 32 0 ≤ 64 := hG.f 32 (mx := 64) (by decide)
  refine lv_iload_n hx hb dX9_proof_0 rfl (lv_at hl 1 rfl) ?_
  refine n_iconst (v := 0) hx hb dX9_proof_1 (by decide) ?_
  refine lv_aload_n hx hb dX9_proof_2 rfl (lv_at hl 0 rfl) ?_
  refine x_gr hx hb hu in_X9 hown hK hW (hA.o (k := 0) rfl) (kX_0 _ _ _ _) rfl 7 (by decide) uF_X9_44 (hA.f 7 (k := 13) (i := 0) (by decide) (hA.o (k := 13) rfl)) dX9_proof_3 ?_
  refine x_gi hx hb hu in_X6 hown hK hW (hA.o (k := 13) rfl) (kX_13 _ _ _ _) rfl 2 (by decide) uF_X9_274 dX9_proof_6 ?_
  refine n_topi (y := nI (S 22 0)) (hR.2.1) ?_
  refine n_iconst (v := 1) hx hb dX9_proof_9 (by decide) ?_
  refine lv_isub hx hb dX9_proof_10 ?_
  refine o_calli (o_runS (As := [.int ii, .int (nI 0), .int ((nI (S 22 0)) - (nI 1))]) (rest := []) ⟨hx, hb, hml, hown, hu⟩ (c_X9_within l D cA B0 ad hal d0 ii (nI 0) ((nI (S 22 0)) - (nI 1))) (gS_X9_85 (fun _ h => h)) (n0 := 3) rfl (by decide +kernel) rfl ⟨Nat.le_of_ble_eq_true rfl, Nat.le_of_ble_eq_true rfl⟩ hK hW hB hS hl.1 rfl (lv_room (Nat.le_of_ble_eq_true rfl)) ⟨Nat.zero_le _, Nat.zero_le _⟩ dX9_proof_11) hS (fun r_2 d_1 q_3 H locs hW hS => ?_)
  obtain ⟨rfl, rfl⟩ := q_3
  refine n_topi (y := bI (ix ii (S 22 0))) (in_ix (by omega)) ?_
  refine lv_if_eq (tgt := 26) hx hb dX9_proof_14 (by decide) (fun c_4 => ?_) (fun c_4 => ?_)
  · refine lv_iconst (v := -1) hx hb dX9_proof_26 (by decide) ?_
    exact o_iret hx hb hr hlocks hW hS (⟨by first | (simp only [aProof, bI_z c_4, eq_self, ↓reduceIte, Bool.false_eq_true]; done) | (simp only [aProof, bI_z c_4, eq_self, ↓reduceIte, Bool.false_eq_true]; rfl), hI.pub hR⟩) dX9_proof_27
  · obtain ⟨iin, hiin, rfl⟩ := ix_t (bI_n c_4) (by omega)
    refine lv_iload_n hx hb dX9_proof_17 rfl (lv_at hl 2 rfl) ?_
    refine n_iconst (v := 0) hx hb dX9_proof_18 (by decide) ?_
    refine n_iconst (v := 1) hx hb dX9_proof_19 (by decide) ?_
    refine o_calli (o_runS (As := [.int wh, .int (nI 0), .int (nI 1)]) (rest := []) ⟨hx, hb, hml, hown, hu⟩ (c_X9_within l D cA B0 ad hal d0 wh (nI 0) (nI 1)) (gS_X9_85 (fun _ h => h)) (n0 := 3) rfl (by decide +kernel) rfl ⟨Nat.le_of_ble_eq_true rfl, Nat.le_of_ble_eq_true rfl⟩ hK hW hB hS hl.1 rfl (lv_room (Nat.le_of_ble_eq_true rfl)) ⟨Nat.zero_le _, Nat.zero_le _⟩ dX9_proof_20) hS (fun r_6 d_5 q_7 H locs hW hS => ?_)
    obtain ⟨rfl, rfl⟩ := q_7
    refine n_topi (y := bI (ix wh 2)) (in_ixc 2 rfl (by decide)) ?_
    refine lv_if_ne (tgt := 28) hx hb dX9_proof_23 (by decide) (fun c_8 => ?_) (fun c_8 => ?_)
    · obtain ⟨whn, hwhn, rfl⟩ := ix_t (bI_n c_8) (by omega)
      refine lv_iload_n hx hb dX9_proof_28 rfl (lv_at hl 2 rfl) ?_
      refine n_if_ne (tgt := 44) hx hb (by omega) dX9_proof_29 (by decide) (fun c_9 => ?_) (fun c_9 => ?_)
      · refine lv_aload_n hx hb dX9_proof_44 rfl (lv_at hl 0 rfl) ?_
        refine x_gr hx hb hu in_X9 hown hK hW (hA.o (k := 0) rfl) (kX_0 _ _ _ _) rfl 7 (by decide) uF_X9_44 (hA.f 7 (k := 13) (i := 0) (by decide) (hA.o (k := 13) rfl)) dX9_proof_45 ?_
        refine x_gr hx hb hu in_X6 hown hK hW (hA.o (k := 13) rfl) (kX_13 _ _ _ _) rfl 1 (by decide) uF_X9_284 hA.sl dX9_proof_48 ?_
        refine lv_iload_n hx hb dX9_proof_51 rfl (lv_at hl 1 rfl) ?_
        refine x_il hx hb hK hW (hA.o (k := 15) rfl) (kX_15 _ _ _ _) (by decide) (by omega) dX9_proof_52 ?_
        refine n_topi (y := nI (S 21 iin)) ((hR.2.2 iin (by omega)).2) ?_
        exact o_iret hx hb hr hlocks hW hS (⟨by first | (simp only [aProof, ix_nI hiin (by omega), nx_nI (j := iin) (by omega), ix_nI hwhn (by omega), nx_nI (j := whn) (by omega), c_9, eq_self, ↓reduceIte, Bool.false_eq_true]; done) | (simp only [aProof, ix_nI hiin (by omega), nx_nI (j := iin) (by omega), ix_nI hwhn (by omega), nx_nI (j := whn) (by omega), c_9, eq_self, ↓reduceIte, Bool.false_eq_true]; rfl), hI.pub hR⟩) dX9_proof_53
      · refine lv_aload_n hx hb dX9_proof_32 rfl (lv_at hl 0 rfl) ?_
        refine x_gr hx hb hu in_X9 hown hK hW (hA.o (k := 0) rfl) (kX_0 _ _ _ _) rfl 7 (by decide) uF_X9_44 (hA.f 7 (k := 13) (i := 0) (by decide) (hA.o (k := 13) rfl)) dX9_proof_33 ?_
        refine x_gr hx hb hu in_X6 hown hK hW (hA.o (k := 13) rfl) (kX_13 _ _ _ _) rfl 0 (by decide) uF_X9_281 hA.sm dX9_proof_36 ?_
        refine lv_iload_n hx hb dX9_proof_39 rfl (lv_at hl 1 rfl) ?_
        refine x_il hx hb hK hW (hA.o (k := 14) rfl) (kX_14 _ _ _ _) (by decide) (by omega) dX9_proof_40 ?_
        refine n_topi (y := nI (S 20 iin)) ((hR.2.2 iin (by omega)).1) ?_
        refine lv_goto (tgt := 53) hx hb dX9_proof_41 (by decide) ?_
        exact o_iret hx hb hr hlocks hW hS (⟨by first | (simp only [aProof, ix_nI hiin (by omega), nx_nI (j := iin) (by omega), ix_nI hwhn (by omega), nx_nI (j := whn) (by omega), c_9, eq_self, ↓reduceIte, Bool.false_eq_true]; done) | (simp only [aProof, ix_nI hiin (by omega), nx_nI (j := iin) (by omega), ix_nI hwhn (by omega), nx_nI (j := whn) (by omega), c_9, eq_self, ↓reduceIte, Bool.false_eq_true]; rfl), hI.pub hR⟩) dX9_proof_53
    · refine lv_iconst (v := -1) hx hb dX9_proof_26 (by decide) ?_
      exact o_iret hx hb hr hlocks hW hS (⟨by first | (simp only [aProof, ix_nI hiin (by omega), nx_nI (j := iin) (by omega), bI_z c_8, eq_self, ↓reduceIte, Bool.false_eq_true]; done) | (simp only [aProof, ix_nI hiin (by omega), nx_nI (j := iin) (by omega), bI_z c_8, eq_self, ↓reduceIte, Bool.false_eq_true]; rfl), hI.pub hR⟩) dX9_proof_27

set_option maxHeartbeats 400000 in
set_option maxRecDepth 100000 in
theorem c_X9_knownLooks (l : Launch) (D : va_G) (cA : Nat → ClassId) (B0 : Nat) (ad : kA) (hal : mAl ad) (S : sS) (d0 : kD) (hX : XB cA ad S d0)   : oM l yX9_knownLooks wX9_knownLooks 4 0 0 D cA B0 ad d0 ([.ref (ad.1 0 0)] : List Value) (oQi D cA B0 ad (fun r d1 => r = nI (sKc S (S 18 0)) ∧ d0 = d1)) := by
  refine o_ofW (cc := cX9_knownLooks) (maxL := 3) (ret := some .int) (by decide) rfl (Nat.le_of_ble_eq_true rfl) ?_
  intro p e s m below meth c hx hb hr hml hts hown hlocks hnm hK hW hB hS ls hl
  have hu : ∀ w ∈ UW, w.before _ s = true := fun w h => hts w (uw_c w h)
  have hl : lv_has ls 3 [(0, .ref (ad.1 0 0))] := hl
  have hA := hX.1
  have hG := hX.2.2
  have hb7 : S 7 0 ≤ 8 := hG.f 7 (mx := 8) (by decide)
  have hb11 : S 11 0 ≤ 20 := hG.f 11 (mx := 20) (by decide)
  have hb18 : S 18 0 ≤ 40 := hG.f 18 (mx := 40) (by decide)
  refine n_iconst (v := 0) hx hb dX9_knownLooks_0 (by decide) ?_
  refine lv_istore_n (lv' := [(1, .int (nI 0)), (0, .ref (ad.1 0 0))]) hx hb dX9_knownLooks_1 rfl hl (by decide) rfl (fun ls hl => ?_)
  refine n_iconst (v := 0) hx hb dX9_knownLooks_2 (by decide) ?_
  refine lv_istore_n (lv' := [(2, .int (nI 0)), (1, .int (nI 0)), (0, .ref (ad.1 0 0))]) hx hb dX9_knownLooks_3 rfl hl (by decide) rfl (fun ls hl => ?_)
  have lp4 : ∀ (n : Nat) (n0 : Nat) (k : Nat)  (H : Heap) (locs : List Loc) (ls : Array Slot), S 18 0 - k < n → (k ≤ S 18 0) → (n0 = sKc S k) → oW D cA B0 ad d0 H → va_S (oA B0) s.heap H locs → lv_has ls 3 [(0, .ref (ad.1 0 0)), (1, .int (nI n0)), (2, .int (nI k))] → W p l e (oR 4 0 0) s m ([.ref (ad.1 0 0)] : List Value).toArray below meth c H locs 0 0 (MQ below (oQi D cA B0 ad (fun r d1 => r = nI (sKc S (S 18 0)) ∧ d0 = d1)) ([.ref (ad.1 0 0)] : List Value).toArray s 0 0 (oA B0)) (F0 m 4 ls []) := by
    intro n
    induction n with
    | zero => intro n0 k  H locs ls hmu; exact absurd hmu (Nat.not_lt_zero _)
    | succ n ih_lp4 =>
      intro n0 k  H locs ls hmu hk hn0 hW hS hl
      refine lv_iload_n hx hb dX9_knownLooks_4 rfl (lv_at hl 2 rfl) ?_
      refine lv_aload_n hx hb dX9_knownLooks_5 rfl (lv_at hl 0 rfl) ?_
      refine x_gr hx hb hu in_X9 hown hK hW (hA.o (k := 0) rfl) (kX_0 _ _ _ _) rfl 3 (by decide) uF_X9_25 (hA.f 3 (k := 4) (i := 1) (by decide) (hA.li (by omega))) dX9_knownLooks_6 ?_
      refine o_calli (o_runV (As := []) (rest := [.int (nI k)]) ⟨hx, hb, hml, hown, hu⟩ (c_Jx4a65c_size_8abf5 l D cA B0 ad hal S d0 hX 1 (by decide)) (gV_X9_105 (fun _ h => h)) (n0 := 0) rfl (by decide +kernel) rfl ⟨Nat.le_of_ble_eq_true rfl, Nat.le_of_ble_eq_true rfl⟩ (o_recv hK hW (hA.li (by omega)) (kX_4 _ _ _ _) rfl) hK hW hB hS hl.1 rfl (lv_room (Nat.le_of_ble_eq_true rfl)) ⟨Nat.zero_le _, Nat.zero_le _⟩ dX9_knownLooks_9) hS (fun r_2 d_1 q_3 H locs hW hS => ?_)
      obtain ⟨rfl, rfl⟩ := q_3
      refine n_topi (y := nI (S 18 0)) rfl ?_
      refine n_icmp_ge (tgt := 45) hx hb (by omega) (by omega) dX9_knownLooks_12 (by decide) (fun c_4 => ?_) (fun c_4 => ?_)
      · refine lv_iload_n hx hb dX9_knownLooks_45 rfl (lv_at hl 1 rfl) ?_
        exact o_iret hx hb hr hlocks hW hS (⟨by rw [hn0, show k = S 18 0 by omega], rfl⟩) dX9_knownLooks_46
      · refine lv_aload_n hx hb dX9_knownLooks_15 rfl (lv_at hl 0 rfl) ?_
        refine x_gr hx hb hu in_X9 hown hK hW (hA.o (k := 0) rfl) (kX_0 _ _ _ _) rfl 3 (by decide) uF_X9_25 (hA.f 3 (k := 4) (i := 1) (by decide) (hA.li (by omega))) dX9_knownLooks_16 ?_
        refine lv_iload_n hx hb dX9_knownLooks_19 rfl (lv_at hl 2 rfl) ?_
        refine o_callq (o_runV (As := [.int (nI k)]) (rest := []) ⟨hx, hb, hml, hown, hu⟩ (c_Jx4a65c_get_915e3 l D cA B0 ad hal S d0 hX 1 k (by decide) (show k < S 18 0 by omega)) (gV_X9_109 (fun _ h => h)) (n0 := 1) rfl (by decide +kernel) rfl ⟨Nat.le_of_ble_eq_true rfl, Nat.le_of_ble_eq_true rfl⟩ (o_recv hK hW (hA.li (by omega)) (kX_4 _ _ _ _) rfl) hK hW hB hS hl.1 rfl (lv_room (Nat.le_of_ble_eq_true rfl)) ⟨Nat.zero_le _, Nat.zero_le _⟩ dX9_knownLooks_20) hS (fun r_6 d_5 q_7 H locs hW hS => ?_)
        obtain ⟨rfl, rfl⟩ := q_7
        refine W.eq (g2 := F0 m 23 ls [.ref (ad.1 8 k)]) rfl ?_
        refine x_cast hx hb hu hown uL_X9_116 hK hW (hA.look (by omega)) (kX_8 _ _ _ _) rfl dX9_knownLooks_23 ?_
        refine lv_aload_n hx hb dX9_knownLooks_26 rfl (lv_at hl 0 rfl) ?_
        refine x_gi hx hb hu in_X9 hown hK hW (hA.o (k := 0) rfl) (kX_0 _ _ _ _) rfl 15 (by decide) uF_X9_78 dX9_knownLooks_27 ?_
        refine n_topi (y := nI (S 19 0)) (hX.2.1.as) ?_
        have b_8 : S 19 0 ≤ 399 := hG.f 19 (mx := 399) (by decide)
        refine o_calli (o_runV (As := [.int (nI (S 19 0))]) (rest := []) ⟨hx, hb, hml, hown, hu⟩ (c_X2_isKnown l D cA B0 ad hal S d0 hX k (S 19 0) (by omega) (by omega)) (gV_X9_191 (fun _ h => h)) (n0 := 1) rfl (by decide +kernel) rfl ⟨Nat.le_of_ble_eq_true rfl, Nat.le_of_ble_eq_true rfl⟩ (o_recv hK hW (hA.look (by omega)) (kX_8 _ _ _ _) rfl) hK hW hB hS hl.1 rfl (lv_room (Nat.le_of_ble_eq_true rfl)) ⟨Nat.zero_le _, Nat.zero_le _⟩ dX9_knownLooks_30) hS (fun r_10 d_9 q_11 H locs hW hS => ?_)
        obtain ⟨rfl, rfl⟩ := q_11
        refine lv_if_eq (tgt := 39) hx hb dX9_knownLooks_33 (by decide) (fun c_k => ?_) (fun c_k => ?_)
        · have hst : sKc S (k + 1) = sKc S k := by rw [sKc, if_neg (by rw [bI_z c_k]; decide)]
          refine n_iinc (q := 1) (lv' := [(2, .int (nI (k + 1))), (0, .ref (ad.1 0 0)), (1, .int (nI n0))]) hx hb dX9_knownLooks_39 hl (k := 2) rfl (by decide) (by decide) rfl (fun ls hl => ?_)
          refine lv_goto (tgt := 4) hx hb dX9_knownLooks_42 (by decide) ?_
          exact ih_lp4 n0 (k + 1) _ _ ls (by omega) (by omega) (by rw [hst, ← hn0]) hW hS (lv_sub hl [1, 2, 0] rfl)
        · have hst : sKc S (k + 1) = sKc S k + 1 := by rw [sKc, if_pos (bI_n c_k)]
          refine n_iinc (q := 1) (lv' := [(1, .int (nI (n0 + 1))), (0, .ref (ad.1 0 0)), (2, .int (nI k))]) hx hb dX9_knownLooks_36 hl (k := 1) rfl (by decide) (by decide) rfl (fun ls hl => ?_)
          refine n_iinc (q := 1) (lv' := [(2, .int (nI (k + 1))), (1, .int (nI (n0 + 1))), (0, .ref (ad.1 0 0))]) hx hb dX9_knownLooks_39 hl (k := 2) rfl (by decide) (by decide) rfl (fun ls hl => ?_)
          refine lv_goto (tgt := 4) hx hb dX9_knownLooks_42 (by decide) ?_
          exact ih_lp4 (n0 + 1) (k + 1) _ _ ls (by omega) (by omega) (by rw [hst, ← hn0]) hW hS (lv_sub hl [2, 1, 0] rfl)
  exact lp4 (S 18 0 + 1) 0 0 _ _ ls (by omega) (by omega) rfl hW hS (lv_sub hl [2, 1, 0] rfl)

set_option maxHeartbeats 400000 in
set_option maxRecDepth 100000 in
theorem c_X9_quarrelling (l : Launch) (D : va_G) (cA : Nat → ClassId) (B0 : Nat) (ad : kA) (hal : mAl ad) (S : sS) (d0 : kD) (hM : InvX cA ad S d0) : oM l yX9_quarrelling wX9_quarrelling 6 0 0 D cA B0 ad d0 ([.ref (ad.1 0 0)] : List Value) (oQi D cA B0 ad (fun r d1 => r = nI (sQc S (S 7 0)) ∧ XX cA ad S d0 d1)) := by
  refine o_ofW (cc := cX9_quarrelling) (maxL := 3) (ret := some .int) (by decide) rfl (Nat.le_of_ble_eq_true rfl) ?_
  intro p e s m below meth c hx hb hr hml hts hown hlocks hnm hK hW hB hS ls hl
  have hu : ∀ w ∈ UW, w.before _ s = true := fun w h => hts w (uw_c w h)
  have hl : lv_has ls 3 [(0, .ref (ad.1 0 0))] := hl
  have hX := hM.1
  have hA := hX.1
  have hG := hX.2.2
  have hb7 : S 7 0 ≤ 8 := hG.f 7 (mx := 8) (by decide)
  have hb11 : S 11 0 ≤ 20 := hG.f 11 (mx := 20) (by decide)
  have hb18 : S 18 0 ≤ 40 := hG.f 18 (mx := 40) (by decide)
  have hI : XX cA ad S d0 d0 := XX.start hM
  have hb1 : S 1 0 ≤ 4 := hG.f 1 (mx := 4) (by decide)
  have hb19 : S 19 0 ≤ 399 := hG.f 19 (mx := 399) (by decide)
  have hb22 : S 22 0 ≤ 64 := hG.f 22 (mx := 64) (by decide)
  have hb25 : S 25 0 ≤ 4 := hG.f 25 (mx := 4) (by decide)
  have hb30 : S 30 0 ≤ 10 := hG.f 30 (mx := 10) (by decide)
  have hb32 : S 32 0 ≤ 64 := hG.f 32 (mx := 64) (by decide)
  refine lv_aload_n hx hb dX9_quarrelling_0 rfl (lv_at hl 0 rfl) ?_
  refine lv_aload_n hx hb dX9_quarrelling_1 rfl (lv_at hl 0 rfl) ?_
  refine x_gi hx hb hu in_X9 hown hK hW (hA.o (k := 0) rfl) (kX_0 _ _ _ _) rfl 15 (by decide) uF_X9_78 dX9_quarrelling_2 ?_
  refine n_topi (y := nI (S 19 0)) (hI.1.1.2.1.as) ?_
  have b_1 : S 19 0 ≤ 399 := hG.f 19 (mx := 399) (by decide)
  refine o_callv (o_runV (As := [.int (nI (S 19 0))]) (rest := []) ⟨hx, hb, hml, hown, hu⟩ (c_X9_findKept l D cA B0 ad hal S d0 hI.1 (S 19 0) (by omega)) (gV_X9_160 (fun _ h => h)) (n0 := 1) rfl (by decide +kernel) rfl ⟨Nat.le_of_ble_eq_true rfl, Nat.le_of_ble_eq_true rfl⟩ (o_recv hK hW (hA.o (k := 0) rfl) (kX_0 _ _ _ _) rfl) hK hW hB hS hl.1 rfl (lv_room (Nat.le_of_ble_eq_true rfl)) ⟨Nat.zero_le _, Nat.zero_le _⟩ dX9_quarrelling_5) hS (fun dK q_3 H locs hW hS => ?_)
  obtain ⟨hq, hKP⟩ := q_3
  have hI := hI.k hq
  refine n_iconst (v := 0) hx hb dX9_quarrelling_8 (by decide) ?_
  refine lv_istore_n (lv' := [(1, .int (nI 0)), (0, .ref (ad.1 0 0))]) hx hb dX9_quarrelling_9 rfl hl (by decide) rfl (fun ls hl => ?_)
  refine n_iconst (v := 0) hx hb dX9_quarrelling_10 (by decide) ?_
  refine lv_istore_n (lv' := [(2, .int (nI 0)), (1, .int (nI 0)), (0, .ref (ad.1 0 0))]) hx hb dX9_quarrelling_11 rfl hl (by decide) rfl (fun ls hl => ?_)
  have lp12 : ∀ (n : Nat) (n0 : Nat) (k : Nat)  (H : Heap) (locs : List Loc) (ls : Array Slot), S 7 0 - k < n → (k ≤ S 7 0) → (n0 = sQc S k) → oW D cA B0 ad dK H → va_S (oA B0) s.heap H locs → lv_has ls 3 [(0, .ref (ad.1 0 0)), (1, .int (nI n0)), (2, .int (nI k))] → W p l e (oR 6 0 0) s m ([.ref (ad.1 0 0)] : List Value).toArray below meth c H locs 0 0 (MQ below (oQi D cA B0 ad (fun r d1 => r = nI (sQc S (S 7 0)) ∧ XX cA ad S d0 d1)) ([.ref (ad.1 0 0)] : List Value).toArray s 0 0 (oA B0)) (F0 m 12 ls []) := by
    intro n
    induction n with
    | zero => intro n0 k  H locs ls hmu; exact absurd hmu (Nat.not_lt_zero _)
    | succ n ih_lp12 =>
      intro n0 k  H locs ls hmu hk hn0 hW hS hl
      refine lv_iload_n hx hb dX9_quarrelling_12 rfl (lv_at hl 2 rfl) ?_
      refine lv_aload_n hx hb dX9_quarrelling_13 rfl (lv_at hl 0 rfl) ?_
      refine x_gr hx hb hu in_X9 hown hK hW (hA.o (k := 0) rfl) (kX_0 _ _ _ _) rfl 2 (by decide) uF_X9_21 (hA.f 2 (k := 4) (i := 0) (by decide) (hA.li (by omega))) dX9_quarrelling_14 ?_
      refine o_calli (o_runV (As := []) (rest := [.int (nI k)]) ⟨hx, hb, hml, hown, hu⟩ (c_Jx4a65c_size_8abf5 l D cA B0 ad hal S dK hI.1.1 0 (by decide)) (gV_X9_105 (fun _ h => h)) (n0 := 0) rfl (by decide +kernel) rfl ⟨Nat.le_of_ble_eq_true rfl, Nat.le_of_ble_eq_true rfl⟩ (o_recv hK hW (hA.li (by omega)) (kX_4 _ _ _ _) rfl) hK hW hB hS hl.1 rfl (lv_room (Nat.le_of_ble_eq_true rfl)) ⟨Nat.zero_le _, Nat.zero_le _⟩ dX9_quarrelling_17) hS (fun r_5 d_4 q_6 H locs hW hS => ?_)
      obtain ⟨rfl, rfl⟩ := q_6
      refine n_topi (y := nI (S 7 0)) rfl ?_
      refine n_icmp_ge (tgt := 51) hx hb (by omega) (by omega) dX9_quarrelling_20 (by decide) (fun c_7 => ?_) (fun c_7 => ?_)
      · refine lv_iload_n hx hb dX9_quarrelling_51 rfl (lv_at hl 1 rfl) ?_
        exact o_iret hx hb hr hlocks hW hS (⟨by rw [hn0, show k = S 7 0 by omega], hI⟩) dX9_quarrelling_52
      · refine lv_aload_n hx hb dX9_quarrelling_23 rfl (lv_at hl 0 rfl) ?_
        refine x_gr hx hb hu in_X9 hown hK hW (hA.o (k := 0) rfl) (kX_0 _ _ _ _) rfl 2 (by decide) uF_X9_21 (hA.f 2 (k := 4) (i := 0) (by decide) (hA.li (by omega))) dX9_quarrelling_24 ?_
        refine lv_iload_n hx hb dX9_quarrelling_27 rfl (lv_at hl 2 rfl) ?_
        refine o_callq (o_runV (As := [.int (nI k)]) (rest := []) ⟨hx, hb, hml, hown, hu⟩ (c_Jx4a65c_get_915e3 l D cA B0 ad hal S dK hI.1.1 0 k (by decide) (show k < S 7 0 by omega)) (gV_X9_109 (fun _ h => h)) (n0 := 1) rfl (by decide +kernel) rfl ⟨Nat.le_of_ble_eq_true rfl, Nat.le_of_ble_eq_true rfl⟩ (o_recv hK hW (hA.li (by omega)) (kX_4 _ _ _ _) rfl) hK hW hB hS hl.1 rfl (lv_room (Nat.le_of_ble_eq_true rfl)) ⟨Nat.zero_le _, Nat.zero_le _⟩ dX9_quarrelling_28) hS (fun r_9 d_8 q_10 H locs hW hS => ?_)
        obtain ⟨rfl, rfl⟩ := q_10
        refine W.eq (g2 := F0 m 31 ls [.ref (ad.1 6 k)]) rfl ?_
        refine x_cast hx hb hu hown uL_X9_113 hK hW (hA.pier (by omega)) (kX_6 _ _ _ _) rfl dX9_quarrelling_31 ?_
        refine x_gl hx hb hu in_X5 hown hK hW (hA.pier (by omega)) (kX_6 _ _ _ _) rfl 12 (by decide) uF_X9_171 dX9_quarrelling_34 ?_
        refine n_topl (y := sKept S k (S 19 0)) ((hKP.1 k (by omega)).2) ?_
        refine lv_lconst (v := 0) hx hb dX9_quarrelling_37 (by decide) ?_
        refine W.lcmp hx hb dX9_quarrelling_38 ?_
        refine lv_if_ne (tgt := 45) hx hb dX9_quarrelling_39 (by decide) (fun c_k => ?_) (fun c_k => ?_)
        · have hst : sQc S (k + 1) = sQc S k := by rw [sQc, if_neg (lg0n c_k)]
          refine n_iinc (q := 1) (lv' := [(2, .int (nI (k + 1))), (0, .ref (ad.1 0 0)), (1, .int (nI n0))]) hx hb dX9_quarrelling_45 hl (k := 2) rfl (by decide) (by decide) rfl (fun ls hl => ?_)
          refine lv_goto (tgt := 12) hx hb dX9_quarrelling_48 (by decide) ?_
          exact ih_lp12 n0 (k + 1) _ _ ls (by omega) (by omega) (by rw [hst, ← hn0]) hW hS (lv_sub hl [1, 2, 0] rfl)
        · have hst : sQc S (k + 1) = sQc S k + 1 := by rw [sQc, if_pos (lg0 c_k)]
          refine n_iinc (q := 1) (lv' := [(1, .int (nI (n0 + 1))), (0, .ref (ad.1 0 0)), (2, .int (nI k))]) hx hb dX9_quarrelling_42 hl (k := 1) rfl (by decide) (by decide) rfl (fun ls hl => ?_)
          refine n_iinc (q := 1) (lv' := [(2, .int (nI (k + 1))), (1, .int (nI (n0 + 1))), (0, .ref (ad.1 0 0))]) hx hb dX9_quarrelling_45 hl (k := 2) rfl (by decide) (by decide) rfl (fun ls hl => ?_)
          refine lv_goto (tgt := 12) hx hb dX9_quarrelling_48 (by decide) ?_
          exact ih_lp12 (n0 + 1) (k + 1) _ _ ls (by omega) (by omega) (by rw [hst, ← hn0]) hW hS (lv_sub hl [2, 1, 0] rfl)
  exact lp12 (S 7 0 + 1) 0 0 _ _ ls (by omega) (by omega) rfl hW hS (lv_sub hl [2, 1, 0] rfl)

set_option maxHeartbeats 400000 in
set_option maxRecDepth 100000 in
theorem c_X9_count (l : Launch) (D : va_G) (cA : Nat → ClassId) (B0 : Nat) (ad : kA) (hal : mAl ad) (S : sS) (sr : Nat → Int32) (d0 : kD) (hM : InvX cA ad S d0) (hR : RowX S sr d0) (h31 : d0.2.1 31 0 0 = 0) (wh : Int32) : oM l yX9_count wX9_count 7 0 0 D cA B0 ad d0 ([.ref (ad.1 0 0), .int wh] : List Value) (oQi D cA B0 ad (fun r d1 => r = aCount S wh ∧ PX cA ad S sr d0 d1)) := by
  refine o_ofW (cc := cX9_count) (maxL := 2) (ret := some .int) (by decide) rfl (Nat.le_of_ble_eq_true rfl) ?_
  intro p e s m below meth c hx hb hr hml hts hown hlocks hnm hK hW hB hS ls hl
  have hu : ∀ w ∈ UW, w.before _ s = true := fun w h => hts w (uw_c w h)
  have hl : lv_has ls 2 [(0, .ref (ad.1 0 0)), (1, .int wh)] := hl
  have hX := hM.1
  have hA := hX.1
  have hG := hX.2.2
  have hb7 : S 7 0 ≤ 8 := hG.f 7 (mx := 8) (by decide)
  have hb11 : S 11 0 ≤ 20 := hG.f 11 (mx := 20) (by decide)
  have hb18 : S 18 0 ≤ 40 := hG.f 18 (mx := 40) (by decide)
  have hI : XX cA ad S d0 d0 := XX.start hM
  have hb1 : S 1 0 ≤ 4 := hG.f 1 (mx := 4) (by decide)
  have hb19 : S 19 0 ≤ 399 := hG.f 19 (mx := 399) (by decide)
  have hb22 : S 22 0 ≤ 64 := hG.f 22 (mx := 64) (by decide)
  have hb25 : S 25 0 ≤ 4 := hG.f 25 (mx := 4) (by decide)
  have hb30 : S 30 0 ≤ 10 := hG.f 30 (mx := 10) (by decide)
  have hb32 : S 32 0 ≤ 64 := hG.f 32 (mx := 64) (by decide)
  refine lv_iload_n hx hb dX9_count_0 rfl (lv_at hl 1 rfl) ?_
  cases s_1 : ix wh 11 with
  | false =>
    refine lv_tableOut (tgt := 133) hx hb dX9_count_1 (sw_out s_1) (by decide) ?_
    refine lv_iconst (v := -1) hx hb dX9_count_133 (by decide) ?_
    exact o_iret hx hb hr hlocks hW hS (⟨by first | (simp only [aCount, s_1, eq_self, ↓reduceIte, Bool.false_eq_true]; done) | (simp only [aCount, s_1, eq_self, ↓reduceIte, Bool.false_eq_true]; rfl), hI.pub hR⟩) dX9_count_134
  | true =>
    obtain ⟨whn, hwhn, rfl⟩ := ix_t s_1 (by decide)
    rcases sw_11 hwhn with rfl | rfl | rfl | rfl | rfl | rfl | rfl | rfl | rfl | rfl | rfl
    · refine lv_tableIn (tgt := 60) hx hb dX9_count_1 (by decide) (by decide) rfl (by decide) ?_
      refine lv_aload_n hx hb dX9_count_60 rfl (lv_at hl 0 rfl) ?_
      refine x_gi hx hb hu in_X9 hown hK hW (hA.o (k := 0) rfl) (kX_0 _ _ _ _) rfl 13 (by decide) uF_X9_71 dX9_count_61 ?_
      refine n_topi (y := nI (S 1 0)) (hI.1.1.2.1.beds) ?_
      have b_2 : S 1 0 ≤ 4 := hG.f 1 (mx := 4) (by decide)
      exact o_iret hx hb hr hlocks hW hS (⟨by first | (simp only [aCount, ix_nI hwhn (by omega), nx_nI (j := 0) (by omega), eq_self, ↓reduceIte, Bool.false_eq_true]; done) | (simp only [aCount, ix_nI hwhn (by omega), nx_nI (j := 0) (by omega), eq_self, ↓reduceIte, Bool.false_eq_true]; rfl), hI.pub hR⟩) dX9_count_64
    · refine lv_tableIn (tgt := 65) hx hb dX9_count_1 (by decide) (by decide) rfl (by decide) ?_
      refine lv_aload_n hx hb dX9_count_65 rfl (lv_at hl 0 rfl) ?_
      refine x_gr hx hb hu in_X9 hown hK hW (hA.o (k := 0) rfl) (kX_0 _ _ _ _) rfl 2 (by decide) uF_X9_21 (hA.f 2 (k := 4) (i := 0) (by decide) (hA.li (by omega))) dX9_count_66 ?_
      refine o_calli (o_runV (As := []) (rest := []) ⟨hx, hb, hml, hown, hu⟩ (c_Jx4a65c_size_8abf5 l D cA B0 ad hal S d0 hI.1.1 0 (by decide)) (gV_X9_105 (fun _ h => h)) (n0 := 0) rfl (by decide +kernel) rfl ⟨Nat.le_of_ble_eq_true rfl, Nat.le_of_ble_eq_true rfl⟩ (o_recv hK hW (hA.li (by omega)) (kX_4 _ _ _ _) rfl) hK hW hB hS hl.1 rfl (lv_room (Nat.le_of_ble_eq_true rfl)) ⟨Nat.zero_le _, Nat.zero_le _⟩ dX9_count_69) hS (fun r_4 d_3 q_5 H locs hW hS => ?_)
      obtain ⟨rfl, rfl⟩ := q_5
      refine n_topi (y := nI (S 7 0)) rfl ?_
      exact o_iret hx hb hr hlocks hW hS (⟨by first | (simp only [aCount, ix_nI hwhn (by omega), nx_nI (j := 1) (by omega), eq_self, ↓reduceIte, Bool.false_eq_true]; done) | (simp only [aCount, ix_nI hwhn (by omega), nx_nI (j := 1) (by omega), eq_self, ↓reduceIte, Bool.false_eq_true]; rfl), hI.pub hR⟩) dX9_count_72
    · refine lv_tableIn (tgt := 73) hx hb dX9_count_1 (by decide) (by decide) rfl (by decide) ?_
      refine lv_aload_n hx hb dX9_count_73 rfl (lv_at hl 0 rfl) ?_
      refine x_gi hx hb hu in_X9 hown hK hW (hA.o (k := 0) rfl) (kX_0 _ _ _ _) rfl 14 (by decide) uF_X9_75 dX9_count_74 ?_
      refine n_topi (y := nI (S 11 0)) (hI.1.1.2.1.trees h31) ?_
      have b_6 : S 11 0 ≤ 20 := hG.f 11 (mx := 20) (by decide)
      exact o_iret hx hb hr hlocks hW hS (⟨by first | (simp only [aCount, ix_nI hwhn (by omega), nx_nI (j := 2) (by omega), eq_self, ↓reduceIte, Bool.false_eq_true]; done) | (simp only [aCount, ix_nI hwhn (by omega), nx_nI (j := 2) (by omega), eq_self, ↓reduceIte, Bool.false_eq_true]; rfl), hI.pub hR⟩) dX9_count_77
    · refine lv_tableIn (tgt := 78) hx hb dX9_count_1 (by decide) (by decide) rfl (by decide) ?_
      refine lv_aload_n hx hb dX9_count_78 rfl (lv_at hl 0 rfl) ?_
      refine x_gr hx hb hu in_X9 hown hK hW (hA.o (k := 0) rfl) (kX_0 _ _ _ _) rfl 3 (by decide) uF_X9_25 (hA.f 3 (k := 4) (i := 1) (by decide) (hA.li (by omega))) dX9_count_79 ?_
      refine o_calli (o_runV (As := []) (rest := []) ⟨hx, hb, hml, hown, hu⟩ (c_Jx4a65c_size_8abf5 l D cA B0 ad hal S d0 hI.1.1 1 (by decide)) (gV_X9_105 (fun _ h => h)) (n0 := 0) rfl (by decide +kernel) rfl ⟨Nat.le_of_ble_eq_true rfl, Nat.le_of_ble_eq_true rfl⟩ (o_recv hK hW (hA.li (by omega)) (kX_4 _ _ _ _) rfl) hK hW hB hS hl.1 rfl (lv_room (Nat.le_of_ble_eq_true rfl)) ⟨Nat.zero_le _, Nat.zero_le _⟩ dX9_count_82) hS (fun r_8 d_7 q_9 H locs hW hS => ?_)
      obtain ⟨rfl, rfl⟩ := q_9
      refine n_topi (y := nI (S 18 0)) rfl ?_
      exact o_iret hx hb hr hlocks hW hS (⟨by first | (simp only [aCount, ix_nI hwhn (by omega), nx_nI (j := 3) (by omega), eq_self, ↓reduceIte, Bool.false_eq_true]; done) | (simp only [aCount, ix_nI hwhn (by omega), nx_nI (j := 3) (by omega), eq_self, ↓reduceIte, Bool.false_eq_true]; rfl), hI.pub hR⟩) dX9_count_85
    · refine lv_tableIn (tgt := 86) hx hb dX9_count_1 (by decide) (by decide) rfl (by decide) ?_
      refine lv_aload_n hx hb dX9_count_86 rfl (lv_at hl 0 rfl) ?_
      refine o_calli (o_runV (As := []) (rest := []) ⟨hx, hb, hml, hown, hu⟩ (c_X9_knownLooks l D cA B0 ad hal S d0 hI.1.1  ) (gV_X9_368 (fun _ h => h)) (n0 := 0) rfl (by decide +kernel) rfl ⟨Nat.le_of_ble_eq_true rfl, Nat.le_of_ble_eq_true rfl⟩ (o_recv hK hW (hA.o (k := 0) rfl) (kX_0 _ _ _ _) rfl) hK hW hB hS hl.1 rfl (lv_room (Nat.le_of_ble_eq_true rfl)) ⟨Nat.zero_le _, Nat.zero_le _⟩ dX9_count_87) hS (fun r_11 d_10 q_12 H locs hW hS => ?_)
      obtain ⟨rfl, rfl⟩ := q_12
      exact o_iret hx hb hr hlocks hW hS (⟨by first | (simp only [aCount, ix_nI hwhn (by omega), nx_nI (j := 4) (by omega), eq_self, ↓reduceIte, Bool.false_eq_true]; done) | (simp only [aCount, ix_nI hwhn (by omega), nx_nI (j := 4) (by omega), eq_self, ↓reduceIte, Bool.false_eq_true]; rfl), hI.pub hR⟩) dX9_count_90
    · refine lv_tableIn (tgt := 91) hx hb dX9_count_1 (by decide) (by decide) rfl (by decide) ?_
      refine lv_aload_n hx hb dX9_count_91 rfl (lv_at hl 0 rfl) ?_
      refine x_gi hx hb hu in_X9 hown hK hW (hA.o (k := 0) rfl) (kX_0 _ _ _ _) rfl 15 (by decide) uF_X9_78 dX9_count_92 ?_
      refine n_topi (y := nI (S 19 0)) (hI.1.1.2.1.as) ?_
      have b_13 : S 19 0 ≤ 399 := hG.f 19 (mx := 399) (by decide)
      exact o_iret hx hb hr hlocks hW hS (⟨by first | (simp only [aCount, ix_nI hwhn (by omega), nx_nI (j := 5) (by omega), eq_self, ↓reduceIte, Bool.false_eq_true]; done) | (simp only [aCount, ix_nI hwhn (by omega), nx_nI (j := 5) (by omega), eq_self, ↓reduceIte, Bool.false_eq_true]; rfl), hI.pub hR⟩) dX9_count_95
    · refine lv_tableIn (tgt := 96) hx hb dX9_count_1 (by decide) (by decide) rfl (by decide) ?_
      refine lv_aload_n hx hb dX9_count_96 rfl (lv_at hl 0 rfl) ?_
      refine x_gr hx hb hu in_X9 hown hK hW (hA.o (k := 0) rfl) (kX_0 _ _ _ _) rfl 7 (by decide) uF_X9_44 (hA.f 7 (k := 13) (i := 0) (by decide) (hA.o (k := 13) rfl)) dX9_count_97 ?_
      refine x_gi hx hb hu in_X6 hown hK hW (hA.o (k := 13) rfl) (kX_13 _ _ _ _) rfl 2 (by decide) uF_X9_274 dX9_count_100 ?_
      refine n_topi (y := nI (S 22 0)) (hR.2.1) ?_
      exact o_iret hx hb hr hlocks hW hS (⟨by first | (simp only [aCount, ix_nI hwhn (by omega), nx_nI (j := 6) (by omega), eq_self, ↓reduceIte, Bool.false_eq_true]; done) | (simp only [aCount, ix_nI hwhn (by omega), nx_nI (j := 6) (by omega), eq_self, ↓reduceIte, Bool.false_eq_true]; rfl), hI.pub hR⟩) dX9_count_103
    · refine lv_tableIn (tgt := 104) hx hb dX9_count_1 (by decide) (by decide) rfl (by decide) ?_
      refine lv_aload_n hx hb dX9_count_104 rfl (lv_at hl 0 rfl) ?_
      refine x_gr hx hb hu in_X9 hown hK hW (hA.o (k := 0) rfl) (kX_0 _ _ _ _) rfl 4 (by decide) uF_X9_28 (hA.f 4 (k := 4) (i := 2) (by decide) (hA.li (by omega))) dX9_count_105 ?_
      refine o_calli (o_runV (As := []) (rest := []) ⟨hx, hb, hml, hown, hu⟩ (c_Jx4a65c_size_8abf5 l D cA B0 ad hal S d0 hI.1.1 2 (by decide)) (gV_X9_105 (fun _ h => h)) (n0 := 0) rfl (by decide +kernel) rfl ⟨Nat.le_of_ble_eq_true rfl, Nat.le_of_ble_eq_true rfl⟩ (o_recv hK hW (hA.li (by omega)) (kX_4 _ _ _ _) rfl) hK hW hB hS hl.1 rfl (lv_room (Nat.le_of_ble_eq_true rfl)) ⟨Nat.zero_le _, Nat.zero_le _⟩ dX9_count_108) hS (fun r_15 d_14 q_16 H locs hW hS => ?_)
      obtain ⟨rfl, rfl⟩ := q_16
      refine n_topi (y := nI (S 25 0)) rfl ?_
      exact o_iret hx hb hr hlocks hW hS (⟨by first | (simp only [aCount, ix_nI hwhn (by omega), nx_nI (j := 7) (by omega), eq_self, ↓reduceIte, Bool.false_eq_true]; done) | (simp only [aCount, ix_nI hwhn (by omega), nx_nI (j := 7) (by omega), eq_self, ↓reduceIte, Bool.false_eq_true]; rfl), hI.pub hR⟩) dX9_count_111
    · refine lv_tableIn (tgt := 112) hx hb dX9_count_1 (by decide) (by decide) rfl (by decide) ?_
      refine lv_aload_n hx hb dX9_count_112 rfl (lv_at hl 0 rfl) ?_
      refine x_gr hx hb hu in_X9 hown hK hW (hA.o (k := 0) rfl) (kX_0 _ _ _ _) rfl 5 (by decide) uF_X9_31 (hA.f 5 (k := 4) (i := 3) (by decide) (hA.li (by omega))) dX9_count_113 ?_
      refine o_calli (o_runV (As := []) (rest := []) ⟨hx, hb, hml, hown, hu⟩ (c_Jx4a65c_size_8abf5 l D cA B0 ad hal S d0 hI.1.1 3 (by decide)) (gV_X9_105 (fun _ h => h)) (n0 := 0) rfl (by decide +kernel) rfl ⟨Nat.le_of_ble_eq_true rfl, Nat.le_of_ble_eq_true rfl⟩ (o_recv hK hW (hA.li (by omega)) (kX_4 _ _ _ _) rfl) hK hW hB hS hl.1 rfl (lv_room (Nat.le_of_ble_eq_true rfl)) ⟨Nat.zero_le _, Nat.zero_le _⟩ dX9_count_116) hS (fun r_18 d_17 q_19 H locs hW hS => ?_)
      obtain ⟨rfl, rfl⟩ := q_19
      refine n_topi (y := nI (S 30 0)) rfl ?_
      exact o_iret hx hb hr hlocks hW hS (⟨by first | (simp only [aCount, ix_nI hwhn (by omega), nx_nI (j := 8) (by omega), eq_self, ↓reduceIte, Bool.false_eq_true]; done) | (simp only [aCount, ix_nI hwhn (by omega), nx_nI (j := 8) (by omega), eq_self, ↓reduceIte, Bool.false_eq_true]; rfl), hI.pub hR⟩) dX9_count_119
    · refine lv_tableIn (tgt := 120) hx hb dX9_count_1 (by decide) (by decide) rfl (by decide) ?_
      refine lv_aload_n hx hb dX9_count_120 rfl (lv_at hl 0 rfl) ?_
      refine x_gr hx hb hu in_X9 hown hK hW (hA.o (k := 0) rfl) (kX_0 _ _ _ _) rfl 6 (by decide) uF_X9_37 (hA.f 6 (k := 11) (i := 0) (by decide) (hA.o (k := 11) rfl)) dX9_count_121 ?_
      refine x_gi hx hb hu in_X3 hown hK hW (hA.o (k := 11) rfl) (kX_11 _ _ _ _) rfl 1 (by decide) uF_X9_371 dX9_count_124 ?_
      refine n_topi (y := nI (S 32 0)) (hR.1.1) ?_
      exact o_iret hx hb hr hlocks hW hS (⟨by first | (simp only [aCount, ix_nI hwhn (by omega), nx_nI (j := 9) (by omega), eq_self, ↓reduceIte, Bool.false_eq_true]; done) | (simp only [aCount, ix_nI hwhn (by omega), nx_nI (j := 9) (by omega), eq_self, ↓reduceIte, Bool.false_eq_true]; rfl), hI.pub hR⟩) dX9_count_127
    · refine lv_tableIn (tgt := 128) hx hb dX9_count_1 (by decide) (by decide) rfl (by decide) ?_
      refine lv_aload_n hx hb dX9_count_128 rfl (lv_at hl 0 rfl) ?_
      refine o_calli (o_runV (As := []) (rest := []) ⟨hx, hb, hml, hown, hu⟩ (c_X9_quarrelling l D cA B0 ad hal S d0 hI.1) (gV_X9_372 (fun _ h => h)) (n0 := 0) rfl (by decide +kernel) rfl ⟨Nat.le_of_ble_eq_true rfl, Nat.le_of_ble_eq_true rfl⟩ (o_recv hK hW (hA.o (k := 0) rfl) (kX_0 _ _ _ _) rfl) hK hW hB hS hl.1 rfl (lv_room (Nat.le_of_ble_eq_true rfl)) ⟨Nat.zero_le _, Nat.zero_le _⟩ dX9_count_129) hS (fun r_21 d_20 q_22 H locs hW hS => ?_)
      obtain ⟨rfl, hq⟩ := q_22
      have hI := hI.trans hq
      exact o_iret hx hb hr hlocks hW hS (⟨by first | (simp only [aCount, ix_nI hwhn (by omega), nx_nI (j := 10) (by omega), eq_self, ↓reduceIte, Bool.false_eq_true]; done) | (simp only [aCount, ix_nI hwhn (by omega), nx_nI (j := 10) (by omega), eq_self, ↓reduceIte, Bool.false_eq_true]; rfl), hI.pub hR⟩) dX9_count_132
