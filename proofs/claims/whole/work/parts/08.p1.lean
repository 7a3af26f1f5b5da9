set_option maxHeartbeats 400000 in
set_option maxRecDepth 100000 in
theorem c_X10_flow (l : Launch) (D : va_G) (cA : Nat → ClassId) (B0 : Nat) (ad : kA) (hal : mAl ad) (S : sS) (sr : Nat → Int32) (d0 : kD) (hM : InvM S d0) (hR : RowM S sr d0) (day : Int32) : oM l yX10_flow wX10_flow 3 0 0 D cA B0 ad d0 ([.ref (ad.1 40 0), .int day] : List Value) (oQi D cA B0 ad (fun r d1 => r = aFlow S day ∧ PI S sr d0 d1)) := by
  refine o_ofW (cc := cX10_flow) (maxL := 2) (ret := some .int) (by decide) rfl (Nat.le_of_ble_eq_true rfl) ?_
  intro p e s m below meth c hx hb hr hml hts hown hlocks hnm hK hW hB hS ls hl
  have hu : ∀ w ∈ UW, w.before _ s = true := fun w h => hts w (uw_c w h)
  have hl : lv_has ls 2 [(0, .ref (ad.1 40 0)), (1, .int day)] := hl
  refine lv_aload_n hx hb dX10_flow_0 rfl (lv_at hl 0 rfl) ?_
  refine n_iconst (v := 0) hx hb dX10_flow_1 (by decide) ?_
  refine mo_pi hx hb hu hown hK hal hW hS 33 (by decide +kernel) uF_X10_113 dX10_flow_2 (fun H locs hW hS => ?_)
  have hI : MI S (uI d0 40 0 33 (nI 0)) (uI d0 40 0 33 (nI 0)) := MI.start (hM.thr 33 _ rfl)
  have hG : sG S := hM.2.1
  have hb1 : S 1 0 ≤ 4 := hG.f 1 (mx := 4) (by decide)
  have hb7 : S 7 0 ≤ 8 := hG.f 7 (mx := 8) (by decide)
  have hb11 : S 11 0 ≤ 20 := hG.f 11 (mx := 20) (by decide)
  have hb18 : S 18 0 ≤ 40 := hG.f 18 (mx := 40) (by decide)
  have hb19 : S 19 0 ≤ 399 := hG.f 19 (mx := 399) (by decide)
  have hb22 : S 22 0 ≤ 64 := hG.f 22 (mx := 64) (by decide)
  have hb25 : S 25 0 ≤ 4 := hG.f 25 (mx := 4) (by decide)
  have hb30 : S 30 0 ≤ 10 := hG.f 30 (mx := 10) (by decide)
  have hb32 : S 32 0 ≤ 64 := hG.f 32 (mx := 64) (by decide)
  refine lv_iload_n hx hb dX10_flow_5 rfl (lv_at hl 1 rfl) ?_
  refine o_calli (o_runS (As := [.int day]) (rest := []) ⟨hx, hb, hml, hown, hu⟩ (c_X10_isDay l D cA B0 ad hal (uI d0 40 0 33 (nI 0)) day) (gS_X10_126 (fun _ h => h)) (n0 := 1) rfl (by decide +kernel) rfl ⟨Nat.le_of_ble_eq_true rfl, Nat.le_of_ble_eq_true rfl⟩ hK hW hB hS hl.1 rfl (lv_room (Nat.le_of_ble_eq_true rfl)) ⟨Nat.zero_le _, Nat.zero_le _⟩ dX10_flow_6) hS (fun r_2 d_1 q_3 H locs hW hS => ?_)
  obtain ⟨rfl, rfl⟩ := q_3
  refine lv_if_eq (tgt := 21) hx hb dX10_flow_9 (by decide) (fun c_4 => ?_) (fun c_4 => ?_)
  · refine lv_iconst (v := -1) hx hb dX10_flow_21 (by decide) ?_
    exact o_iret hx hb hr hlocks hW hS (⟨by first | (simp only [aFlow, bI_z c_4, eq_self, ↓reduceIte, Bool.false_eq_true]; done) | (simp only [aFlow, bI_z c_4, eq_self, ↓reduceIte, Bool.false_eq_true]; rfl), hI.pub hR⟩) dX10_flow_22
  · obtain ⟨dayn, hdayn, rfl⟩ := ix_t (bI_n c_4) (by omega)
    refine lv_aload_n hx hb dX10_flow_12 rfl (lv_at hl 0 rfl) ?_
    refine mo_ga hx hb hu hown hK hal hW 0 (by decide) uF_X10_9 dX10_flow_13 ?_
    refine lv_iload_n hx hb dX10_flow_16 rfl (lv_at hl 1 rfl) ?_
    refine mo_ld hx hb hK hal hW hI.dS 0 (n := 400) (by decide) (by omega) dX10_flow_17 ?_
    have b_5 : S 0 dayn ≤ 99 := hG.a 0 dayn (n := 400) (mx := 99) (by decide) (by omega)
    refine lv_goto (tgt := 22) hx hb dX10_flow_18 (by decide) ?_
    exact o_iret hx hb hr hlocks hW hS (⟨by first | (simp only [aFlow, ix_nI hdayn (by omega), nx_nI (j := dayn) (by omega), eq_self, ↓reduceIte, Bool.false_eq_true]; done) | (simp only [aFlow, ix_nI hdayn (by omega), nx_nI (j := dayn) (by omega), eq_self, ↓reduceIte, Bool.false_eq_true]; rfl), hI.pub hR⟩) dX10_flow_22

set_option maxHeartbeats 400000 in
set_option maxRecDepth 100000 in
theorem c_X10_hole (l : Launch) (D : va_G) (cA : Nat → ClassId) (B0 : Nat) (ad : kA) (hal : mAl ad) (S : sS) (sr : Nat → Int32) (d0 : kD) (hM : InvM S d0) (hR : RowM S sr d0) (pi mq day wh : Int32) : oM l yX10_hole wX10_hole 6 0 0 D cA B0 ad d0 ([.ref (ad.1 40 0), .int pi, .int mq, .int day, .int wh] : List Value) (oQi D cA B0 ad (fun r d1 => r = aHole S pi mq day wh ∧ PI S sr d0 d1)) := by
  refine o_ofW (cc := cX10_hole) (maxL := 5) (ret := some .int) (by decide) rfl (Nat.le_of_ble_eq_true rfl) ?_
  intro p e s m below meth c hx hb hr hml hts hown hlocks hnm hK hW hB hS ls hl
  have hu : ∀ w ∈ UW, w.before _ s = true := fun w h => hts w (uw_c w h)
  have hl : lv_has ls 5 [(0, .ref (ad.1 40 0)), (1, .int pi), (2, .int mq), (3, .int day), (4, .int wh)] := hl
  refine lv_aload_n hx hb dX10_hole_0 rfl (lv_at hl 0 rfl) ?_
  refine n_iconst (v := 0) hx hb dX10_hole_1 (by decide) ?_
  refine mo_pi hx hb hu hown hK hal hW hS 33 (by decide +kernel) uF_X10_113 dX10_hole_2 (fun H locs hW hS => ?_)
  have hI : MI S (uI d0 40 0 33 (nI 0)) (uI d0 40 0 33 (nI 0)) := MI.start (hM.thr 33 _ rfl)
  have hG : sG S := hM.2.1
  have hb1 : S 1 0 ≤ 4 := hG.f 1 (mx := 4) (by decide)
  have hb7 : S 7 0 ≤ 8 := hG.f 7 (mx := 8) (by decide)
  have hb11 : S 11 0 ≤ 20 := hG.f 11 (mx := 20) (by decide)
  have hb18 : S 18 0 ≤ 40 := hG.f 18 (mx := 40) (by decide)
  have hb19 : S 19 0 ≤ 399 := hG.f 19 (mx := 399) (by decide)
  have hb22 : S 22 0 ≤ 64 := hG.f 22 (mx := 64) (by decide)
  have hb25 : S 25 0 ≤ 4 := hG.f 25 (mx := 4) (by decide)
  have hb30 : S 30 0 ≤ 10 := hG.f 30 (mx := 10) (by decide)
  have hb32 : S 32 0 ≤ 64 := hG.f 32 (mx := 64) (by decide)
  refine lv_aload_n hx hb dX10_hole_5 rfl (lv_at hl 0 rfl) ?_
  refine lv_iload_n hx hb dX10_hole_6 rfl (lv_at hl 1 rfl) ?_
  refine o_calli (o_runV (As := [.int pi]) (rest := []) ⟨hx, hb, hml, hown, hu⟩ (c_X10_isPier l D cA B0 ad hal S (uI d0 40 0 33 (nI 0)) hI.dS hG pi ) (gV_X10_145 (fun _ h => h)) (n0 := 1) rfl (by decide +kernel) rfl ⟨Nat.le_of_ble_eq_true rfl, Nat.le_of_ble_eq_true rfl⟩ (o_recv hK hW hal.1 (kC_M _ _ _) rfl) hK hW hB hS hl.1 rfl (lv_room (Nat.le_of_ble_eq_true rfl)) ⟨Nat.zero_le _, Nat.zero_le _⟩ dX10_hole_7) hS (fun r_2 d_1 q_3 H locs hW hS => ?_)
  obtain ⟨rfl, rfl⟩ := q_3
  refine lv_if_eq (tgt := 27) hx hb dX10_hole_10 (by decide) (fun c_4 => ?_) (fun c_4 => ?_)
  · refine lv_iconst (v := -1) hx hb dX10_hole_27 (by decide) ?_
    exact o_iret hx hb hr hlocks hW hS (⟨by first | (simp only [aHole, bI_z c_4, eq_self, ↓reduceIte, Bool.false_eq_true]; done) | (simp only [aHole, bI_z c_4, eq_self, ↓reduceIte, Bool.false_eq_true]; rfl), hI.pub hR⟩) dX10_hole_28
  · obtain ⟨pin, hpin, rfl⟩ := ix_t (bI_n c_4) (by omega)
    refine lv_iload_n hx hb dX10_hole_13 rfl (lv_at hl 2 rfl) ?_
    refine o_calli (o_runS (As := [.int mq]) (rest := []) ⟨hx, hb, hml, hown, hu⟩ (c_X10_isMind l D cA B0 ad hal (uI d0 40 0 33 (nI 0)) mq) (gS_X10_162 (fun _ h => h)) (n0 := 1) rfl (by decide +kernel) rfl ⟨Nat.le_of_ble_eq_true rfl, Nat.le_of_ble_eq_true rfl⟩ hK hW hB hS hl.1 rfl (lv_room (Nat.le_of_ble_eq_true rfl)) ⟨Nat.zero_le _, Nat.zero_le _⟩ dX10_hole_14) hS (fun r_6 d_5 q_7 H locs hW hS => ?_)
    obtain ⟨rfl, rfl⟩ := q_7
    refine lv_if_eq (tgt := 27) hx hb dX10_hole_17 (by decide) (fun c_8 => ?_) (fun c_8 => ?_)
    · refine lv_iconst (v := -1) hx hb dX10_hole_27 (by decide) ?_
      exact o_iret hx hb hr hlocks hW hS (⟨by first | (simp only [aHole, ix_nI hpin (by omega), nx_nI (j := pin) (by omega), bI_z c_8, eq_self, ↓reduceIte, Bool.false_eq_true]; done) | (simp only [aHole, ix_nI hpin (by omega), nx_nI (j := pin) (by omega), bI_z c_8, eq_self, ↓reduceIte, Bool.false_eq_true]; rfl), hI.pub hR⟩) dX10_hole_28
    · obtain ⟨mqn, hmqn, rfl⟩ := ix_t (bI_n c_8) (by omega)
      refine lv_iload_n hx hb dX10_hole_20 rfl (lv_at hl 3 rfl) ?_
      refine o_calli (o_runS (As := [.int day]) (rest := []) ⟨hx, hb, hml, hown, hu⟩ (c_X10_isDay l D cA B0 ad hal (uI d0 40 0 33 (nI 0)) day) (gS_X10_126 (fun _ h => h)) (n0 := 1) rfl (by decide +kernel) rfl ⟨Nat.le_of_ble_eq_true rfl, Nat.le_of_ble_eq_true rfl⟩ hK hW hB hS hl.1 rfl (lv_room (Nat.le_of_ble_eq_true rfl)) ⟨Nat.zero_le _, Nat.zero_le _⟩ dX10_hole_21) hS (fun r_10 d_9 q_11 H locs hW hS => ?_)
      obtain ⟨rfl, rfl⟩ := q_11
      refine lv_if_ne (tgt := 29) hx hb dX10_hole_24 (by decide) (fun c_12 => ?_) (fun c_12 => ?_)
      · obtain ⟨dayn, hdayn, rfl⟩ := ix_t (bI_n c_12) (by omega)
        refine lv_iload hx hb dX10_hole_29 (lv_at hl 4 rfl) ?_
        cases s_13 : ix wh 4 with
        | false =>
          refine lv_tableOut (tgt := 92) hx hb dX10_hole_31 (sw_out s_13) (by decide) ?_
          refine lv_iconst (v := -1) hx hb dX10_hole_92 (by decide) ?_
          exact o_iret hx hb hr hlocks hW hS (⟨by first | (simp only [aHole, ix_nI hpin (by omega), nx_nI (j := pin) (by omega), ix_nI hmqn (by omega), nx_nI (j := mqn) (by omega), ix_nI hdayn (by omega), nx_nI (j := dayn) (by omega), s_13, eq_self, ↓reduceIte, Bool.false_eq_true]; done) | (simp only [aHole, ix_nI hpin (by omega), nx_nI (j := pin) (by omega), ix_nI hmqn (by omega), nx_nI (j := mqn) (by omega), ix_nI hdayn (by omega), nx_nI (j := dayn) (by omega), s_13, eq_self, ↓reduceIte, Bool.false_eq_true]; rfl), hI.pub hR⟩) dX10_hole_93
        | true =>
          obtain ⟨whn, hwhn, rfl⟩ := ix_t s_13 (by decide)
          rcases sw_4 hwhn with rfl | rfl | rfl | rfl
          · refine lv_tableIn (tgt := 60) hx hb dX10_hole_31 (by decide) (by decide) rfl (by decide) ?_
            refine lv_aload_n hx hb dX10_hole_60 rfl (lv_at hl 0 rfl) ?_
            refine lv_iload_n hx hb dX10_hole_61 rfl (lv_at hl 1 rfl) ?_
            refine lv_iload_n hx hb dX10_hole_62 rfl (lv_at hl 2 rfl) ?_
            refine lv_iload_n hx hb dX10_hole_63 rfl (lv_at hl 3 rfl) ?_
            refine o_calli (o_runV (As := [.int (nI pin), .int (nI mqn), .int (nI dayn)]) (rest := []) ⟨hx, hb, hml, hown, hu⟩ (c_X10_holeOf l D cA B0 ad hal S (uI d0 40 0 33 (nI 0)) hI.1 pin mqn dayn (by omega) (by omega) (by omega)) (gV_X10_165 (fun _ h => h)) (n0 := 3) rfl (by decide +kernel) rfl ⟨Nat.le_of_ble_eq_true rfl, Nat.le_of_ble_eq_true rfl⟩ (o_recv hK hW hal.1 (kC_M _ _ _) rfl) hK hW hB hS hl.1 rfl (lv_room (Nat.le_of_ble_eq_true rfl)) ⟨Nat.zero_le _, Nat.zero_le _⟩ dX10_hole_64) hS (fun r_15 d_14 q_16 H locs hW hS => ?_)
            obtain ⟨rfl, hq⟩ := q_16
            have hI := hI.trans hq
            exact o_iret hx hb hr hlocks hW hS (⟨by first | (simp only [aHole, ix_nI hpin (by omega), nx_nI (j := pin) (by omega), ix_nI hmqn (by omega), nx_nI (j := mqn) (by omega), ix_nI hdayn (by omega), nx_nI (j := dayn) (by omega), ix_nI hwhn (by omega), nx_nI (j := 0) (by omega), eq_self, ↓reduceIte, Bool.false_eq_true]; done) | (simp only [aHole, ix_nI hpin (by omega), nx_nI (j := pin) (by omega), ix_nI hmqn (by omega), nx_nI (j := mqn) (by omega), ix_nI hdayn (by omega), nx_nI (j := dayn) (by omega), ix_nI hwhn (by omega), nx_nI (j := 0) (by omega), eq_self, ↓reduceIte, Bool.false_eq_true]; rfl), hI.pub hR⟩) dX10_hole_67
          · refine lv_tableIn (tgt := 68) hx hb dX10_hole_31 (by decide) (by decide) rfl (by decide) ?_
            refine lv_aload_n hx hb dX10_hole_68 rfl (lv_at hl 0 rfl) ?_
            refine lv_iload_n hx hb dX10_hole_69 rfl (lv_at hl 1 rfl) ?_
            refine lv_iload_n hx hb dX10_hole_70 rfl (lv_at hl 2 rfl) ?_
            refine lv_iload_n hx hb dX10_hole_71 rfl (lv_at hl 3 rfl) ?_
            refine o_calli (o_runV (As := [.int (nI pin), .int (nI mqn), .int (nI dayn)]) (rest := []) ⟨hx, hb, hml, hown, hu⟩ (c_X10_everOf l D cA B0 ad hal S (uI d0 40 0 33 (nI 0)) hI.1 pin mqn dayn (by omega) (by omega) (by omega)) (gV_X10_159 (fun _ h => h)) (n0 := 3) rfl (by decide +kernel) rfl ⟨Nat.le_of_ble_eq_true rfl, Nat.le_of_ble_eq_true rfl⟩ (o_recv hK hW hal.1 (kC_M _ _ _) rfl) hK hW hB hS hl.1 rfl (lv_room (Nat.le_of_ble_eq_true rfl)) ⟨Nat.zero_le _, Nat.zero_le _⟩ dX10_hole_72) hS (fun r_18 d_17 q_19 H locs hW hS => ?_)
            obtain ⟨rfl, hq⟩ := q_19
            have hI := hI.trans hq
            exact o_iret hx hb hr hlocks hW hS (⟨by first | (simp only [aHole, ix_nI hpin (by omega), nx_nI (j := pin) (by omega), ix_nI hmqn (by omega), nx_nI (j := mqn) (by omega), ix_nI hdayn (by omega), nx_nI (j := dayn) (by omega), ix_nI hwhn (by omega), nx_nI (j := 1) (by omega), eq_self, ↓reduceIte, Bool.false_eq_true]; done) | (simp only [aHole, ix_nI hpin (by omega), nx_nI (j := pin) (by omega), ix_nI hmqn (by omega), nx_nI (j := mqn) (by omega), ix_nI hdayn (by omega), nx_nI (j := dayn) (by omega), ix_nI hwhn (by omega), nx_nI (j := 1) (by omega), eq_self, ↓reduceIte, Bool.false_eq_true]; rfl), hI.pub hR⟩) dX10_hole_75
          · refine lv_tableIn (tgt := 76) hx hb dX10_hole_31 (by decide) (by decide) rfl (by decide) ?_
            refine lv_aload_n hx hb dX10_hole_76 rfl (lv_at hl 0 rfl) ?_
            refine lv_iload_n hx hb dX10_hole_77 rfl (lv_at hl 1 rfl) ?_
            refine lv_iload_n hx hb dX10_hole_78 rfl (lv_at hl 2 rfl) ?_
            refine lv_iload_n hx hb dX10_hole_79 rfl (lv_at hl 3 rfl) ?_
            refine o_calli (o_runV (As := [.int (nI pin), .int (nI mqn), .int (nI dayn)]) (rest := []) ⟨hx, hb, hml, hown, hu⟩ (c_X10_goal l D cA B0 ad hal S (uI d0 40 0 33 (nI 0)) hI.dS hG pin mqn dayn (by omega) (by omega) (by omega)) (gV_X10_151 (fun _ h => h)) (n0 := 3) rfl (by decide +kernel) rfl ⟨Nat.le_of_ble_eq_true rfl, Nat.le_of_ble_eq_true rfl⟩ (o_recv hK hW hal.1 (kC_M _ _ _) rfl) hK hW hB hS hl.1 rfl (lv_room (Nat.le_of_ble_eq_true rfl)) ⟨Nat.zero_le _, Nat.zero_le _⟩ dX10_hole_80) hS (fun r_21 d_20 q_22 H locs hW hS => ?_)
            obtain ⟨rfl, rfl⟩ := q_22
            exact o_iret hx hb hr hlocks hW hS (⟨by first | (simp only [aHole, ix_nI hpin (by omega), nx_nI (j := pin) (by omega), ix_nI hmqn (by omega), nx_nI (j := mqn) (by omega), ix_nI hdayn (by omega), nx_nI (j := dayn) (by omega), ix_nI hwhn (by omega), nx_nI (j := 2) (by omega), eq_self, ↓reduceIte, Bool.false_eq_true]; done) | (simp only [aHole, ix_nI hpin (by omega), nx_nI (j := pin) (by omega), ix_nI hmqn (by omega), nx_nI (j := mqn) (by omega), ix_nI hdayn (by omega), nx_nI (j := dayn) (by omega), ix_nI hwhn (by omega), nx_nI (j := 2) (by omega), eq_self, ↓reduceIte, Bool.false_eq_true]; rfl), hI.pub hR⟩) dX10_hole_83
          · refine lv_tableIn (tgt := 84) hx hb dX10_hole_31 (by decide) (by decide) rfl (by decide) ?_
            refine lv_aload_n hx hb dX10_hole_84 rfl (lv_at hl 0 rfl) ?_
            refine lv_iload_n hx hb dX10_hole_85 rfl (lv_at hl 1 rfl) ?_
            refine lv_iload_n hx hb dX10_hole_86 rfl (lv_at hl 2 rfl) ?_
            refine lv_iload_n hx hb dX10_hole_87 rfl (lv_at hl 3 rfl) ?_
            refine o_calli (o_runV (As := [.int (nI pin), .int (nI mqn), .int (nI dayn)]) (rest := []) ⟨hx, hb, hml, hown, hu⟩ (c_X10_stateOf l D cA B0 ad hal S (uI d0 40 0 33 (nI 0)) hI.1 pin mqn dayn (by omega) (by omega) (by omega)) (gV_X10_168 (fun _ h => h)) (n0 := 3) rfl (by decide +kernel) rfl ⟨Nat.le_of_ble_eq_true rfl, Nat.le_of_ble_eq_true rfl⟩ (o_recv hK hW hal.1 (kC_M _ _ _) rfl) hK hW hB hS hl.1 rfl (lv_room (Nat.le_of_ble_eq_true rfl)) ⟨Nat.zero_le _, Nat.zero_le _⟩ dX10_hole_88) hS (fun r_24 d_23 q_25 H locs hW hS => ?_)
            obtain ⟨rfl, hq⟩ := q_25
            have hI := hI.trans hq
            exact o_iret hx hb hr hlocks hW hS (⟨by first | (simp only [aHole, ix_nI hpin (by omega), nx_nI (j := pin) (by omega), ix_nI hmqn (by omega), nx_nI (j := mqn) (by omega), ix_nI hdayn (by omega), nx_nI (j := dayn) (by omega), ix_nI hwhn (by omega), nx_nI (j := 3) (by omega), eq_self, ↓reduceIte, Bool.false_eq_true]; done) | (simp only [aHole, ix_nI hpin (by omega), nx_nI (j := pin) (by omega), ix_nI hmqn (by omega), nx_nI (j := mqn) (by omega), ix_nI hdayn (by omega), nx_nI (j := dayn) (by omega), ix_nI hwhn (by omega), nx_nI (j := 3) (by omega), eq_self, ↓reduceIte, Bool.false_eq_true]; rfl), hI.pub hR⟩) dX10_hole_91
      · refine lv_iconst (v := -1) hx hb dX10_hole_27 (by decide) ?_
        exact o_iret hx hb hr hlocks hW hS (⟨by first | (simp only [aHole, ix_nI hpin (by omega), nx_nI (j := pin) (by omega), ix_nI hmqn (by omega), nx_nI (j := mqn) (by omega), bI_z c_12, eq_self, ↓reduceIte, Bool.false_eq_true]; done) | (simp only [aHole, ix_nI hpin (by omega), nx_nI (j := pin) (by omega), ix_nI hmqn (by omega), nx_nI (j := mqn) (by omega), bI_z c_12, eq_self, ↓reduceIte, Bool.false_eq_true]; rfl), hI.pub hR⟩) dX10_hole_28

set_option maxHeartbeats 400000 in
set_option maxRecDepth 100000 in
theorem c_X10_when (l : Launch) (D : va_G) (cA : Nat → ClassId) (B0 : Nat) (ad : kA) (hal : mAl ad) (S : sS) (sr : Nat → Int32) (d0 : kD) (hM : InvM S d0) (hR : RowM S sr d0) (pi mq wh : Int32) : oM l yX10_when wX10_when 6 0 0 D cA B0 ad d0 ([.ref (ad.1 40 0), .int pi, .int mq, .int wh] : List Value) (oQi D cA B0 ad (fun r d1 => r = aWhen S pi mq wh ∧ PI S sr d0 d1)) := by
  refine o_ofW (cc := cX10_when) (maxL := 5) (ret := some .int) (by decide) rfl (Nat.le_of_ble_eq_true rfl) ?_
  intro p e s m below meth c hx hb hr hml hts hown hlocks hnm hK hW hB hS ls hl
  have hu : ∀ w ∈ UW, w.before _ s = true := fun w h => hts w (uw_c w h)
  have hl : lv_has ls 5 [(0, .ref (ad.1 40 0)), (1, .int pi), (2, .int mq), (3, .int wh)] := hl
  refine lv_aload_n hx hb dX10_when_0 rfl (lv_at hl 0 rfl) ?_
  refine n_iconst (v := 0) hx hb dX10_when_1 (by decide) ?_
  refine mo_pi hx hb hu hown hK hal hW hS 33 (by decide +kernel) uF_X10_113 dX10_when_2 (fun H locs hW hS => ?_)
  have hI : MI S (uI d0 40 0 33 (nI 0)) (uI d0 40 0 33 (nI 0)) := MI.start (hM.thr 33 _ rfl)
  have hG : sG S := hM.2.1
  have hb1 : S 1 0 ≤ 4 := hG.f 1 (mx := 4) (by decide)
  have hb7 : S 7 0 ≤ 8 := hG.f 7 (mx := 8) (by decide)
  have hb11 : S 11 0 ≤ 20 := hG.f 11 (mx := 20) (by decide)
  have hb18 : S 18 0 ≤ 40 := hG.f 18 (mx := 40) (by decide)
  have hb19 : S 19 0 ≤ 399 := hG.f 19 (mx := 399) (by decide)
  have hb22 : S 22 0 ≤ 64 := hG.f 22 (mx := 64) (by decide)
  have hb25 : S 25 0 ≤ 4 := hG.f 25 (mx := 4) (by decide)
  have hb30 : S 30 0 ≤ 10 := hG.f 30 (mx := 10) (by decide)
  have hb32 : S 32 0 ≤ 64 := hG.f 32 (mx := 64) (by decide)
  refine lv_aload_n hx hb dX10_when_5 rfl (lv_at hl 0 rfl) ?_
  refine lv_iload_n hx hb dX10_when_6 rfl (lv_at hl 1 rfl) ?_
  refine o_calli (o_runV (As := [.int pi]) (rest := []) ⟨hx, hb, hml, hown, hu⟩ (c_X10_isPier l D cA B0 ad hal S (uI d0 40 0 33 (nI 0)) hI.dS hG pi ) (gV_X10_145 (fun _ h => h)) (n0 := 1) rfl (by decide +kernel) rfl ⟨Nat.le_of_ble_eq_true rfl, Nat.le_of_ble_eq_true rfl⟩ (o_recv hK hW hal.1 (kC_M _ _ _) rfl) hK hW hB hS hl.1 rfl (lv_room (Nat.le_of_ble_eq_true rfl)) ⟨Nat.zero_le _, Nat.zero_le _⟩ dX10_when_7) hS (fun r_2 d_1 q_3 H locs hW hS => ?_)
  obtain ⟨rfl, rfl⟩ := q_3
  refine lv_if_eq (tgt := 29) hx hb dX10_when_10 (by decide) (fun c_4 => ?_) (fun c_4 => ?_)
  · refine lv_iconst (v := -1) hx hb dX10_when_29 (by decide) ?_
    exact o_iret hx hb hr hlocks hW hS (⟨by first | (simp only [aWhen, bI_z c_4, eq_self, ↓reduceIte, Bool.false_eq_true]; done) | (simp only [aWhen, bI_z c_4, eq_self, ↓reduceIte, Bool.false_eq_true]; rfl), hI.pub hR⟩) dX10_when_30
  · obtain ⟨pin, hpin, rfl⟩ := ix_t (bI_n c_4) (by omega)
    refine lv_iload_n hx hb dX10_when_13 rfl (lv_at hl 2 rfl) ?_
    refine o_calli (o_runS (As := [.int mq]) (rest := []) ⟨hx, hb, hml, hown, hu⟩ (c_X10_isMind l D cA B0 ad hal (uI d0 40 0 33 (nI 0)) mq) (gS_X10_162 (fun _ h => h)) (n0 := 1) rfl (by decide +kernel) rfl ⟨Nat.le_of_ble_eq_true rfl, Nat.le_of_ble_eq_true rfl⟩ hK hW hB hS hl.1 rfl (lv_room (Nat.le_of_ble_eq_true rfl)) ⟨Nat.zero_le _, Nat.zero_le _⟩ dX10_when_14) hS (fun r_6 d_5 q_7 H locs hW hS => ?_)
    obtain ⟨rfl, rfl⟩ := q_7
    refine lv_if_eq (tgt := 29) hx hb dX10_when_17 (by decide) (fun c_8 => ?_) (fun c_8 => ?_)
    · refine lv_iconst (v := -1) hx hb dX10_when_29 (by decide) ?_
      exact o_iret hx hb hr hlocks hW hS (⟨by first | (simp only [aWhen, ix_nI hpin (by omega), nx_nI (j := pin) (by omega), bI_z c_8, eq_self, ↓reduceIte, Bool.false_eq_true]; done) | (simp only [aWhen, ix_nI hpin (by omega), nx_nI (j := pin) (by omega), bI_z c_8, eq_self, ↓reduceIte, Bool.false_eq_true]; rfl), hI.pub hR⟩) dX10_when_30
    · obtain ⟨mqn, hmqn, rfl⟩ := ix_t (bI_n c_8) (by omega)
      refine lv_iload_n hx hb dX10_when_20 rfl (lv_at hl 3 rfl) ?_
      refine n_iconst (v := 0) hx hb dX10_when_21 (by decide) ?_
      refine n_iconst (v := 1) hx hb dX10_when_22 (by decide) ?_
      refine o_calli (o_runS (As := [.int wh, .int (nI 0), .int (nI 1)]) (rest := []) ⟨hx, hb, hml, hown, hu⟩ (c_X10_in l D cA B0 ad hal (uI d0 40 0 33 (nI 0)) wh (nI 0) (nI 1)) (gS_X10_119 (fun _ h => h)) (n0 := 3) rfl (by decide +kernel) rfl ⟨Nat.le_of_ble_eq_true rfl, Nat.le_of_ble_eq_true rfl⟩ hK hW hB hS hl.1 rfl (lv_room (Nat.le_of_ble_eq_true rfl)) ⟨Nat.zero_le _, Nat.zero_le _⟩ dX10_when_23) hS (fun r_10 d_9 q_11 H locs hW hS => ?_)
      obtain ⟨rfl, rfl⟩ := q_11
      refine n_topi (y := bI (ix wh 2)) (in_ixc 2 rfl (by decide)) ?_
      refine lv_if_ne (tgt := 31) hx hb dX10_when_26 (by decide) (fun c_12 => ?_) (fun c_12 => ?_)
      · obtain ⟨whn, hwhn, rfl⟩ := ix_t (bI_n c_12) (by omega)
        refine n_iconst (v := 0) hx hb dX10_when_31 (by decide) ?_
        refine lv_istore (lv' := [(4, .int (nI 0)), (0, .ref (ad.1 40 0)), (1, .int (nI pin)), (2, .int (nI mqn)), (3, .int (nI whn))]) hx hb dX10_when_32 hl (by decide) rfl (fun ls hl => ?_)
        have lp34 : ∀ (n : Nat) (k : Nat)  (d : kD) (H : Heap) (locs : List Loc) (ls : Array Slot), 400 - k < n → (k ≤ 400) → (MI S (uI d0 40 0 33 (nI 0)) d) → (wn S pin mqn whn 400 0 = wn S pin mqn whn (400 - k) k) → oW D cA B0 ad d H → va_S (oA B0) s.heap H locs → lv_has ls 5 [(0, .ref (ad.1 40 0)), (1, .int (nI pin)), (2, .int (nI mqn)), (3, .int (nI whn)), (4, .int (nI k))] → W p l e (oR 6 0 0) s m ([.ref (ad.1 40 0), .int (nI pin), .int (nI mqn), .int (nI whn)] : List Value).toArray below meth c H locs 0 0 (MQ below (oQi D cA B0 ad (fun r d1 => r = aWhen S (nI pin) (nI mqn) (nI whn) ∧ PI S sr d0 d1)) ([.ref (ad.1 40 0), .int (nI pin), .int (nI mqn), .int (nI whn)] : List Value).toArray s 0 0 (oA B0)) (F0 m 34 ls []) := by
          intro n
          induction n with
          | zero => intro k  d H locs ls hmu; exact absurd hmu (Nat.not_lt_zero _)
          | succ n ih_lp34 =>
            intro k  d H locs ls hmu hk hI hwn hW hS hl
            refine lv_iload hx hb dX10_when_34 (lv_at hl 4 rfl) ?_
            refine n_sipush (v := 400) hx hb dX10_when_36 (by decide) ?_
            refine n_icmp_ge (tgt := 63) hx hb (by omega) (by omega) dX10_when_39 (by decide) (fun c_13 => ?_) (fun c_13 => ?_)
            · refine lv_iconst (v := -1) hx hb dX10_when_63 (by decide) ?_
              exact o_iret hx hb hr hlocks hW hS (⟨by simp only [aWhen, ix_nI hpin (by omega), nx_nI (j := pin) (by omega), ix_nI hmqn (by omega), nx_nI (j := mqn) (by omega), ix_nI hwhn (by omega), nx_nI (j := whn) (by omega), eq_self, ↓reduceIte, Bool.false_eq_true]; rw [hwn, show 400 - k = 0 by omega]; rfl, hI.pub hR⟩) dX10_when_64
            · refine lv_aload_n hx hb dX10_when_42 rfl (lv_at hl 0 rfl) ?_
              refine lv_iload_n hx hb dX10_when_43 rfl (lv_at hl 1 rfl) ?_
              refine lv_iload_n hx hb dX10_when_44 rfl (lv_at hl 2 rfl) ?_
              refine lv_iload hx hb dX10_when_45 (lv_at hl 4 rfl) ?_
              refine o_calli (o_runV (As := [.int (nI pin), .int (nI mqn), .int (nI k)]) (rest := []) ⟨hx, hb, hml, hown, hu⟩ (c_X10_stateOf l D cA B0 ad hal S d hI.1 pin mqn k (by omega) (by omega) (by omega)) (gV_X10_168 (fun _ h => h)) (n0 := 3) rfl (by decide +kernel) rfl ⟨Nat.le_of_ble_eq_true rfl, Nat.le_of_ble_eq_true rfl⟩ (o_recv hK hW hal.1 (kC_M _ _ _) rfl) hK hW hB hS hl.1 rfl (lv_room (Nat.le_of_ble_eq_true rfl)) ⟨Nat.zero_le _, Nat.zero_le _⟩ dX10_when_47) hS (fun r_15 d_14 q_16 H locs hW hS => ?_)
              obtain ⟨rfl, hq⟩ := q_16
              have hI := hI.trans hq
              have hs2 : sState S pin mqn k ≤ 2 := sState_le _ _ _ _
              refine lv_iload_n hx hb dX10_when_50 rfl (lv_at hl 3 rfl) ?_
              refine n_icmp_le (tgt := 57) hx hb (by omega) (by omega) dX10_when_51 (by decide) (fun c_17 => ?_) (fun c_17 => ?_)
              · refine n_iinc (q := 1) (lv' := [(4, .int (nI (k + 1))), (0, .ref (ad.1 40 0)), (1, .int (nI pin)), (2, .int (nI mqn)), (3, .int (nI whn))]) hx hb dX10_when_57 hl (k := 4) rfl (by decide) (by decide) rfl (fun ls hl => ?_)
                refine lv_goto (tgt := 34) hx hb dX10_when_60 (by decide) ?_
                exact ih_lp34 (k + 1) d_14 _ _ ls (by omega) (by omega) hI (by rw [hwn, show 400 - k = (400 - (k + 1)) + 1 by omega, wn, if_neg (by omega)]) hW hS (lv_sub hl [1, 2, 3, 4, 0] rfl)
              · refine lv_iload hx hb dX10_when_54 (lv_at hl 4 rfl) ?_
                exact o_iret hx hb hr hlocks hW hS (⟨by simp only [aWhen, ix_nI hpin (by omega), nx_nI (j := pin) (by omega), ix_nI hmqn (by omega), nx_nI (j := mqn) (by omega), ix_nI hwhn (by omega), nx_nI (j := whn) (by omega), eq_self, ↓reduceIte, Bool.false_eq_true]; rw [hwn, show 400 - k = (400 - (k + 1)) + 1 by omega, wn, if_pos (by omega)], hI.pub hR⟩) dX10_when_56
        exact lp34 (401) 0 (uI d0 40 0 33 (nI 0)) _ _ ls (by omega) (by omega) hI rfl hW hS (lv_sub hl [1, 2, 3, 4, 0] rfl)
      · refine lv_iconst (v := -1) hx hb dX10_when_29 (by decide) ?_
        exact o_iret hx hb hr hlocks hW hS (⟨by first | (simp only [aWhen, ix_nI hpin (by omega), nx_nI (j := pin) (by omega), ix_nI hmqn (by omega), nx_nI (j := mqn) (by omega), bI_z c_12, eq_self, ↓reduceIte, Bool.false_eq_true]; done) | (simp only [aWhen, ix_nI hpin (by omega), nx_nI (j := pin) (by omega), ix_nI hmqn (by omega), nx_nI (j := mqn) (by omega), bI_z c_12, eq_self, ↓reduceIte, Bool.false_eq_true]; rfl), hI.pub hR⟩) dX10_when_30

set_option maxHeartbeats 400000 in
set_option maxRecDepth 100000 in
theorem c_X10_kept (l : Launch) (D : va_G) (cA : Nat → ClassId) (B0 : Nat) (ad : kA) (hal : mAl ad) (S : sS) (sr : Nat → Int32) (d0 : kD) (hM : InvM S d0) (hR : RowM S sr d0) (pi mq : Int32) : oM l yX10_kept wX10_kept 9 0 0 D cA B0 ad d0 ([.ref (ad.1 40 0), .int pi, .int mq] : List Value) (oQi D cA B0 ad (fun r d1 => r = aKept S pi mq ∧ PI S sr d0 d1)) := by
  refine o_ofW (cc := cX10_kept) (maxL := 3) (ret := some .int) (by decide) rfl (Nat.le_of_ble_eq_true rfl) ?_
  intro p e s m below meth c hx hb hr hml hts hown hlocks hnm hK hW hB hS ls hl
  have hu : ∀ w ∈ UW, w.before _ s = true := fun w h => hts w (uw_c w h)
  have hl : lv_has ls 3 [(0, .ref (ad.1 40 0)), (1, .int pi), (2, .int mq)] := hl
  refine lv_aload_n hx hb dX10_kept_0 rfl (lv_at hl 0 rfl) ?_
  refine n_iconst (v := 0) hx hb dX10_kept_1 (by decide) ?_
  refine mo_pi hx hb hu hown hK hal hW hS 33 (by decide +kernel) uF_X10_113 dX10_kept_2 (fun H locs hW hS => ?_)
  have hI : MI S (uI d0 40 0 33 (nI 0)) (uI d0 40 0 33 (nI 0)) := MI.start (hM.thr 33 _ rfl)
  have hG : sG S := hM.2.1
  have hb1 : S 1 0 ≤ 4 := hG.f 1 (mx := 4) (by decide)
  have hb7 : S 7 0 ≤ 8 := hG.f 7 (mx := 8) (by decide)
  have hb11 : S 11 0 ≤ 20 := hG.f 11 (mx := 20) (by decide)
  have hb18 : S 18 0 ≤ 40 := hG.f 18 (mx := 40) (by decide)
  have hb19 : S 19 0 ≤ 399 := hG.f 19 (mx := 399) (by decide)
  have hb22 : S 22 0 ≤ 64 := hG.f 22 (mx := 64) (by decide)
  have hb25 : S 25 0 ≤ 4 := hG.f 25 (mx := 4) (by decide)
  have hb30 : S 30 0 ≤ 10 := hG.f 30 (mx := 10) (by decide)
  have hb32 : S 32 0 ≤ 64 := hG.f 32 (mx := 64) (by decide)
  refine lv_aload_n hx hb dX10_kept_5 rfl (lv_at hl 0 rfl) ?_
  refine lv_iload_n hx hb dX10_kept_6 rfl (lv_at hl 1 rfl) ?_
  refine o_calli (o_runV (As := [.int pi]) (rest := []) ⟨hx, hb, hml, hown, hu⟩ (c_X10_isPier l D cA B0 ad hal S (uI d0 40 0 33 (nI 0)) hI.dS hG pi ) (gV_X10_145 (fun _ h => h)) (n0 := 1) rfl (by decide +kernel) rfl ⟨Nat.le_of_ble_eq_true rfl, Nat.le_of_ble_eq_true rfl⟩ (o_recv hK hW hal.1 (kC_M _ _ _) rfl) hK hW hB hS hl.1 rfl (lv_room (Nat.le_of_ble_eq_true rfl)) ⟨Nat.zero_le _, Nat.zero_le _⟩ dX10_kept_7) hS (fun r_2 d_1 q_3 H locs hW hS => ?_)
  obtain ⟨rfl, rfl⟩ := q_3
  refine lv_if_eq (tgt := 20) hx hb dX10_kept_10 (by decide) (fun c_4 => ?_) (fun c_4 => ?_)
  · refine lv_iconst (v := -1) hx hb dX10_kept_20 (by decide) ?_
    exact o_iret hx hb hr hlocks hW hS (⟨by first | (simp only [aKept, bI_z c_4, eq_self, ↓reduceIte, Bool.false_eq_true]; done) | (simp only [aKept, bI_z c_4, eq_self, ↓reduceIte, Bool.false_eq_true]; rfl), hI.pub hR⟩) dX10_kept_21
  · obtain ⟨pin, hpin, rfl⟩ := ix_t (bI_n c_4) (by omega)
    refine lv_iload_n hx hb dX10_kept_13 rfl (lv_at hl 2 rfl) ?_
    refine o_calli (o_runS (As := [.int mq]) (rest := []) ⟨hx, hb, hml, hown, hu⟩ (c_X10_isMind l D cA B0 ad hal (uI d0 40 0 33 (nI 0)) mq) (gS_X10_162 (fun _ h => h)) (n0 := 1) rfl (by decide +kernel) rfl ⟨Nat.le_of_ble_eq_true rfl, Nat.le_of_ble_eq_true rfl⟩ hK hW hB hS hl.1 rfl (lv_room (Nat.le_of_ble_eq_true rfl)) ⟨Nat.zero_le _, Nat.zero_le _⟩ dX10_kept_14) hS (fun r_6 d_5 q_7 H locs hW hS => ?_)
    obtain ⟨rfl, rfl⟩ := q_7
    refine lv_if_ne (tgt := 22) hx hb dX10_kept_17 (by decide) (fun c_8 => ?_) (fun c_8 => ?_)
    · obtain ⟨mqn, hmqn, rfl⟩ := ix_t (bI_n c_8) (by omega)
      refine lv_aload_n hx hb dX10_kept_22 rfl (lv_at hl 0 rfl) ?_
      refine lv_iload_n hx hb dX10_kept_23 rfl (lv_at hl 1 rfl) ?_
      refine lv_aload_n hx hb dX10_kept_24 rfl (lv_at hl 0 rfl) ?_
      refine mo_gi hx hb hu hown hK hal hW hI.dS 19 (by decide) uF_X10_55 dX10_kept_25 ?_
      have b_9 : S 19 0 ≤ 399 := hG.f 19 (mx := 399) (by decide)
      refine o_calll (o_runV (As := [.int (nI pin), .int (nI (S 19 0))]) (rest := []) ⟨hx, hb, hml, hown, hu⟩ (c_X10_keptOn l D cA B0 ad hal S (uI d0 40 0 33 (nI 0)) hI.1 pin (S 19 0) (by omega) (by omega)) (gV_X10_207 (fun _ h => h)) (n0 := 2) rfl (by decide +kernel) rfl ⟨Nat.le_of_ble_eq_true rfl, Nat.le_of_ble_eq_true rfl⟩ (o_recv hK hW hal.1 (kC_M _ _ _) rfl) hK hW hB hS hl.1 rfl (lv_room (Nat.le_of_ble_eq_true rfl)) ⟨Nat.zero_le _, Nat.zero_le _⟩ dX10_kept_28) hS (fun r_11 d_10 q_12 H locs hW hS => ?_)
      obtain ⟨rfl, hq⟩ := q_12
      have hI := hI.trans hq
      refine lv_iload_n hx hb dX10_kept_31 rfl (lv_at hl 2 rfl) ?_
      refine o_calli (o_runS (As := [.long (sKept S pin (S 19 0)), .int (nI mqn)]) (rest := []) ⟨hx, hb, hml, hown, hu⟩ (c_X10_has l D cA B0 ad hal d_10 (sKept S pin (S 19 0)) mqn ) (gS_X10_179 (fun _ h => h)) (n0 := 2) rfl (by decide +kernel) rfl ⟨Nat.le_of_ble_eq_true rfl, Nat.le_of_ble_eq_true rfl⟩ hK hW hB hS hl.1 rfl (lv_room (Nat.le_of_ble_eq_true rfl)) ⟨Nat.zero_le _, Nat.zero_le _⟩ dX10_kept_32) hS (fun r_14 d_13 q_15 H locs hW hS => ?_)
      obtain ⟨rfl, rfl⟩ := q_15
      refine lv_if_eq (tgt := 42) hx hb dX10_kept_35 (by decide) (fun c_k => ?_) (fun c_k => ?_)
      · refine lv_aload_n hx hb dX10_kept_42 rfl (lv_at hl 0 rfl) ?_
        refine lv_iload_n hx hb dX10_kept_43 rfl (lv_at hl 1 rfl) ?_
        refine lv_aload_n hx hb dX10_kept_44 rfl (lv_at hl 0 rfl) ?_
        refine mo_gi hx hb hu hown hK hal hW hI.dS 19 (by decide) uF_X10_55 dX10_kept_45 ?_
        have b_16 : S 19 0 ≤ 399 := hG.f 19 (mx := 399) (by decide)
        refine lv_iconst (v := -1) hx hb dX10_kept_48 (by decide) ?_
        refine o_calll (o_runV (As := [.int (nI pin), .int (nI (S 19 0)), .int (-1)]) (rest := []) ⟨hx, hb, hml, hown, hu⟩ (c_X10_free l D cA B0 ad hal S d_10 hI.1 pin (S 19 0) (-1) (by omega) (by omega)) (gV_X10_192 (fun _ h => h)) (n0 := 3) rfl (by decide +kernel) rfl ⟨Nat.le_of_ble_eq_true rfl, Nat.le_of_ble_eq_true rfl⟩ (o_recv hK hW hal.1 (kC_M _ _ _) rfl) hK hW hB hS hl.1 rfl (lv_room (Nat.le_of_ble_eq_true rfl)) ⟨Nat.zero_le _, Nat.zero_le _⟩ dX10_kept_49) hS (fun r_18 d_17 q_19 H locs hW hS => ?_)
        obtain ⟨rfl, hq⟩ := q_19
        have hI := hI.trans hq
        refine lv_iload_n hx hb dX10_kept_52 rfl (lv_at hl 2 rfl) ?_
        refine o_calli (o_runS (As := [.long (sFree S pin (S 19 0) (-1)), .int (nI mqn)]) (rest := []) ⟨hx, hb, hml, hown, hu⟩ (c_X10_has l D cA B0 ad hal d_17 (sFree S pin (S 19 0) (-1)) mqn ) (gS_X10_179 (fun _ h => h)) (n0 := 2) rfl (by decide +kernel) rfl ⟨Nat.le_of_ble_eq_true rfl, Nat.le_of_ble_eq_true rfl⟩ hK hW hB hS hl.1 rfl (lv_room (Nat.le_of_ble_eq_true rfl)) ⟨Nat.zero_le _, Nat.zero_le _⟩ dX10_kept_53) hS (fun r_21 d_20 q_22 H locs hW hS => ?_)
        obtain ⟨rfl, rfl⟩ := q_22
        refine lv_if_eq (tgt := 63) hx hb dX10_kept_56 (by decide) (fun c_l => ?_) (fun c_l => ?_)
        · refine n_iconst (v := 0) hx hb dX10_kept_63 (by decide) ?_
          exact o_iret hx hb hr hlocks hW hS (⟨by simp only [aKept, ix_nI hpin (by omega), nx_nI (j := pin) (by omega), ix_nI hmqn (by omega), nx_nI (j := mqn) (by omega), eq_self, ↓reduceIte, Bool.false_eq_true]; first | (rw [if_pos (bI_n c_k)]; done) | (rw [if_neg (by rw [bI_z c_k]; decide), if_pos (bI_n c_l)]; done) | (rw [if_neg (by rw [bI_z c_k]; decide), if_neg (by rw [bI_z c_l]; decide)]; done), hI.pub hR⟩) dX10_kept_64
        · refine n_iconst (v := 2) hx hb dX10_kept_59 (by decide) ?_
          refine lv_goto (tgt := 64) hx hb dX10_kept_60 (by decide) ?_
          exact o_iret hx hb hr hlocks hW hS (⟨by simp only [aKept, ix_nI hpin (by omega), nx_nI (j := pin) (by omega), ix_nI hmqn (by omega), nx_nI (j := mqn) (by omega), eq_self, ↓reduceIte, Bool.false_eq_true]; first | (rw [if_pos (bI_n c_k)]; done) | (rw [if_neg (by rw [bI_z c_k]; decide), if_pos (bI_n c_l)]; done) | (rw [if_neg (by rw [bI_z c_k]; decide), if_neg (by rw [bI_z c_l]; decide)]; done), hI.pub hR⟩) dX10_kept_64
      · refine n_iconst (v := 1) hx hb dX10_kept_38 (by decide) ?_
        refine lv_goto (tgt := 64) hx hb dX10_kept_39 (by decide) ?_
        exact o_iret hx hb hr hlocks hW hS (⟨by simp only [aKept, ix_nI hpin (by omega), nx_nI (j := pin) (by omega), ix_nI hmqn (by omega), nx_nI (j := mqn) (by omega), eq_self, ↓reduceIte, Bool.false_eq_true]; first | (rw [if_pos (bI_n c_k)]; done) | (rw [if_neg (by rw [bI_z c_k]; decide), if_pos (bI_n c_l)]; done) | (rw [if_neg (by rw [bI_z c_k]; decide), if_neg (by rw [bI_z c_l]; decide)]; done), hI.pub hR⟩) dX10_kept_64
    · refine lv_iconst (v := -1) hx hb dX10_kept_20 (by decide) ?_
      exact o_iret hx hb hr hlocks hW hS (⟨by first | (simp only [aKept, ix_nI hpin (by omega), nx_nI (j := pin) (by omega), bI_z c_8, eq_self, ↓reduceIte, Bool.false_eq_true]; done) | (simp only [aKept, ix_nI hpin (by omega), nx_nI (j := pin) (by omega), bI_z c_8, eq_self, ↓reduceIte, Bool.false_eq_true]; rfl), hI.pub hR⟩) dX10_kept_21

set_option maxHeartbeats 400000 in
set_option maxRecDepth 100000 in
theorem c_X10_shared (l : Launch) (D : va_G) (cA : Nat → ClassId) (B0 : Nat) (ad : kA) (hal : mAl ad) (S : sS) (sr : Nat → Int32) (d0 : kD) (hM : InvM S d0) (hR : RowM S sr d0) (bd : Int32) : oM l yX10_shared wX10_shared 8 0 0 D cA B0 ad d0 ([.ref (ad.1 40 0), .int bd] : List Value) (oQi D cA B0 ad (fun r d1 => r = aShared S bd ∧ PI S sr d0 d1)) := by
  refine o_ofW (cc := cX10_shared) (maxL := 2) (ret := some .int) (by decide) rfl (Nat.le_of_ble_eq_true rfl) ?_
  intro p e s m below meth c hx hb hr hml hts hown hlocks hnm hK hW hB hS ls hl
  have hu : ∀ w ∈ UW, w.before _ s = true := fun w h => hts w (uw_c w h)
  have hl : lv_has ls 2 [(0, .ref (ad.1 40 0)), (1, .int bd)] := hl
  refine lv_aload_n hx hb dX10_shared_0 rfl (lv_at hl 0 rfl) ?_
  refine n_iconst (v := 0) hx hb dX10_shared_1 (by decide) ?_
  refine mo_pi hx hb hu hown hK hal hW hS 33 (by decide +kernel) uF_X10_113 dX10_shared_2 (fun H locs hW hS => ?_)
  have hI : MI S (uI d0 40 0 33 (nI 0)) (uI d0 40 0 33 (nI 0)) := MI.start (hM.thr 33 _ rfl)
  have hG : sG S := hM.2.1
  have hb1 : S 1 0 ≤ 4 := hG.f 1 (mx := 4) (by decide)
  have hb7 : S 7 0 ≤ 8 := hG.f 7 (mx := 8) (by decide)
  have hb11 : S 11 0 ≤ 20 := hG.f 11 (mx := 20) (by decide)
  have hb18 : S 18 0 ≤ 40 := hG.f 18 (mx := 40) (by decide)
  have hb19 : S 19 0 ≤ 399 := hG.f 19 (mx := 399) (by decide)
  have hb22 : S 22 0 ≤ 64 := hG.f 22 (mx := 64) (by decide)
  have hb25 : S 25 0 ≤ 4 := hG.f 25 (mx := 4) (by decide)
  have hb30 : S 30 0 ≤ 10 := hG.f 30 (mx := 10) (by decide)
  have hb32 : S 32 0 ≤ 64 := hG.f 32 (mx := 64) (by decide)
  refine lv_iload_n hx hb dX10_shared_5 rfl (lv_at hl 1 rfl) ?_
  refine n_iconst (v := 0) hx hb dX10_shared_6 (by decide) ?_
  refine lv_aload_n hx hb dX10_shared_7 rfl (lv_at hl 0 rfl) ?_
  refine mo_gi hx hb hu hown hK hal hW hI.dS 1 (by decide) uF_X10_142 dX10_shared_8 ?_
  have b_1 : S 1 0 ≤ 4 := hG.f 1 (mx := 4) (by decide)
  refine n_iconst (v := 1) hx hb dX10_shared_11 (by decide) ?_
  refine lv_isub hx hb dX10_shared_12 ?_
  refine o_calli (o_runS (As := [.int bd, .int (nI 0), .int ((nI (S 1 0)) - (nI 1))]) (rest := []) ⟨hx, hb, hml, hown, hu⟩ (c_X10_in l D cA B0 ad hal (uI d0 40 0 33 (nI 0)) bd (nI 0) ((nI (S 1 0)) - (nI 1))) (gS_X10_119 (fun _ h => h)) (n0 := 3) rfl (by decide +kernel) rfl ⟨Nat.le_of_ble_eq_true rfl, Nat.le_of_ble_eq_true rfl⟩ hK hW hB hS hl.1 rfl (lv_room (Nat.le_of_ble_eq_true rfl)) ⟨Nat.zero_le _, Nat.zero_le _⟩ dX10_shared_13) hS (fun r_3 d_2 q_4 H locs hW hS => ?_)
  obtain ⟨rfl, rfl⟩ := q_4
  refine n_topi (y := bI (ix bd (S 1 0))) (in_ix (by omega)) ?_
  refine lv_if_eq (tgt := 31) hx hb dX10_shared_16 (by decide) (fun c_5 => ?_) (fun c_5 => ?_)
  · refine lv_iconst (v := -1) hx hb dX10_shared_31 (by decide) ?_
    exact o_iret hx hb hr hlocks hW hS (⟨by first | (simp only [aShared, bI_z c_5, eq_self, ↓reduceIte, Bool.false_eq_true]; done) | (simp only [aShared, bI_z c_5, eq_self, ↓reduceIte, Bool.false_eq_true]; rfl), hI.pub hR⟩) dX10_shared_32
  · obtain ⟨bdn, hbdn, rfl⟩ := ix_t (bI_n c_5) (by omega)
    refine lv_aload_n hx hb dX10_shared_19 rfl (lv_at hl 0 rfl) ?_
    refine lv_iload_n hx hb dX10_shared_20 rfl (lv_at hl 1 rfl) ?_
    refine lv_aload_n hx hb dX10_shared_21 rfl (lv_at hl 0 rfl) ?_
    refine mo_gi hx hb hu hown hK hal hW hI.dS 19 (by decide) uF_X10_55 dX10_shared_22 ?_
    have b_6 : S 19 0 ≤ 399 := hG.f 19 (mx := 399) (by decide)
    refine o_calli (o_runV (As := [.int (nI bdn), .int (nI (S 19 0))]) (rest := []) ⟨hx, hb, hml, hown, hu⟩ (c_X10_common l D cA B0 ad hal S (uI d0 40 0 33 (nI 0)) hI.1 bdn (S 19 0) (by omega) (by omega)) (gV_X10_198 (fun _ h => h)) (n0 := 2) rfl (by decide +kernel) rfl ⟨Nat.le_of_ble_eq_true rfl, Nat.le_of_ble_eq_true rfl⟩ (o_recv hK hW hal.1 (kC_M _ _ _) rfl) hK hW hB hS hl.1 rfl (lv_room (Nat.le_of_ble_eq_true rfl)) ⟨Nat.zero_le _, Nat.zero_le _⟩ dX10_shared_25) hS (fun r_8 d_7 q_9 H locs hW hS => ?_)
    obtain ⟨rfl, hq⟩ := q_9
    have hI := hI.trans hq
    refine lv_goto (tgt := 32) hx hb dX10_shared_28 (by decide) ?_
    exact o_iret hx hb hr hlocks hW hS (⟨by first | (simp only [aShared, ix_nI hbdn (by omega), nx_nI (j := bdn) (by omega), eq_self, ↓reduceIte, Bool.false_eq_true]; done) | (simp only [aShared, ix_nI hbdn (by omega), nx_nI (j := bdn) (by omega), eq_self, ↓reduceIte, Bool.false_eq_true]; rfl), hI.pub hR⟩) dX10_shared_32

set_option maxHeartbeats 400000 in
set_option maxRecDepth 100000 in
theorem c_X10_proof (l : Launch) (D : va_G) (cA : Nat → ClassId) (B0 : Nat) (ad : kA) (hal : mAl ad) (S : sS) (sr : Nat → Int32) (d0 : kD) (hM : InvM S d0) (hR : RowM S sr d0) (ii wh : Int32) : oM l yX10_proof wX10_proof 3 0 0 D cA B0 ad d0 ([.ref (ad.1 40 0), .int ii, .int wh] : List Value) (oQi D cA B0 ad (fun r d1 => r = aProof S ii wh ∧ PI S sr d0 d1)) := by
  refine o_ofW (cc := cX10_proof) (maxL := 3) (ret := some .int) (by decide) rfl (Nat.le_of_ble_eq_true rfl) ?_
  intro p e s m below meth c hx hb hr hml hts hown hlocks hnm hK hW hB hS ls hl
  have hu : ∀ w ∈ UW, w.before _ s = true := fun w h => hts w (uw_c w h)
  have hl : lv_has ls 3 [(0, .ref (ad.1 40 0)), (1, .int ii), (2, .int wh)] := hl
  refine lv_aload_n hx hb dX10_proof_0 rfl (lv_at hl 0 rfl) ?_
  refine n_iconst (v := 0) hx hb dX10_proof_1 (by decide) ?_
  refine mo_pi hx hb hu hown hK hal hW hS 33 (by decide +kernel) uF_X10_113 dX10_proof_2 (fun H locs hW hS => ?_)
  have hI : MI S (uI d0 40 0 33 (nI 0)) (uI d0 40 0 33 (nI 0)) := MI.start (hM.thr 33 _ rfl)
  have hG : sG S := hM.2.1
  have hb1 : S 1 0 ≤ 4 := hG.f 1 (mx := 4) (by decide)
  have hb7 : S 7 0 ≤ 8 := hG.f 7 (mx := 8) (by decide)
  have hb11 : S 11 0 ≤ 20 := hG.f 11 (mx := 20) (by decide)
  have hb18 : S 18 0 ≤ 40 := hG.f 18 (mx := 40) (by decide)
  have hb19 : S 19 0 ≤ 399 := hG.f 19 (mx := 399) (by decide)
  have hb22 : S 22 0 ≤ 64 := hG.f 22 (mx := 64) (by decide)
  have hb25 : S 25 0 ≤ 4 := hG.f 25 (mx := 4) (by decide)
  have hb30 : S 30 0 ≤ 10 := hG.f 30 (mx := 10) (by decide)
  have hb32 : S 32 0 ≤ 64 := hG.f 32 (mx := 64) (by decide)
  refine lv_iload_n hx hb dX10_proof_5 rfl (lv_at hl 1 rfl) ?_
  refine n_iconst (v := 0) hx hb dX10_proof_6 (by decide) ?_
  refine lv_aload_n hx hb dX10_proof_7 rfl (lv_at hl 0 rfl) ?_
  refine mo_gi hx hb hu hown hK hal hW hI.dS 22 (by decide) uF_X10_272 dX10_proof_8 ?_
  have b_1 : S 22 0 ≤ 64 := hG.f 22 (mx := 64) (by decide)
  refine n_iconst (v := 1) hx hb dX10_proof_11 (by decide) ?_
  refine lv_isub hx hb dX10_proof_12 ?_
  refine o_calli (o_runS (As := [.int ii, .int (nI 0), .int ((nI (S 22 0)) - (nI 1))]) (rest := []) ⟨hx, hb, hml, hown, hu⟩ (c_X10_in l D cA B0 ad hal (uI d0 40 0 33 (nI 0)) ii (nI 0) ((nI (S 22 0)) - (nI 1))) (gS_X10_119 (fun _ h => h)) (n0 := 3) rfl (by decide +kernel) rfl ⟨Nat.le_of_ble_eq_true rfl, Nat.le_of_ble_eq_true rfl⟩ hK hW hB hS hl.1 rfl (lv_room (Nat.le_of_ble_eq_true rfl)) ⟨Nat.zero_le _, Nat.zero_le _⟩ dX10_proof_13) hS (fun r_3 d_2 q_4 H locs hW hS => ?_)
  obtain ⟨rfl, rfl⟩ := q_4
  refine n_topi (y := bI (ix ii (S 22 0))) (in_ix (by omega)) ?_
  refine lv_if_eq (tgt := 50) hx hb dX10_proof_16 (by decide) (fun c_5 => ?_) (fun c_5 => ?_)
  · refine lv_iconst (v := -1) hx hb dX10_proof_50 (by decide) ?_
    exact o_iret hx hb hr hlocks hW hS (⟨by first | (simp only [aProof, bI_z c_5, eq_self, ↓reduceIte, Bool.false_eq_true]; done) | (simp only [aProof, bI_z c_5, eq_self, ↓reduceIte, Bool.false_eq_true]; rfl), hI.pub hR⟩) dX10_proof_51
  · obtain ⟨iin, hiin, rfl⟩ := ix_t (bI_n c_5) (by omega)
    refine lv_iload_n hx hb dX10_proof_19 rfl (lv_at hl 2 rfl) ?_
    refine n_iconst (v := 0) hx hb dX10_proof_20 (by decide) ?_
    refine n_iconst (v := 1) hx hb dX10_proof_21 (by decide) ?_
    refine o_calli (o_runS (As := [.int wh, .int (nI 0), .int (nI 1)]) (rest := []) ⟨hx, hb, hml, hown, hu⟩ (c_X10_in l D cA B0 ad hal (uI d0 40 0 33 (nI 0)) wh (nI 0) (nI 1)) (gS_X10_119 (fun _ h => h)) (n0 := 3) rfl (by decide +kernel) rfl ⟨Nat.le_of_ble_eq_true rfl, Nat.le_of_ble_eq_true rfl⟩ hK hW hB hS hl.1 rfl (lv_room (Nat.le_of_ble_eq_true rfl)) ⟨Nat.zero_le _, Nat.zero_le _⟩ dX10_proof_22) hS (fun r_7 d_6 q_8 H locs hW hS => ?_)
    obtain ⟨rfl, rfl⟩ := q_8
    refine n_topi (y := bI (ix wh 2)) (in_ixc 2 rfl (by decide)) ?_
    refine lv_if_eq (tgt := 50) hx hb dX10_proof_25 (by decide) (fun c_9 => ?_) (fun c_9 => ?_)
    · refine lv_iconst (v := -1) hx hb dX10_proof_50 (by decide) ?_
      exact o_iret hx hb hr hlocks hW hS (⟨by first | (simp only [aProof, ix_nI hiin (by omega), nx_nI (j := iin) (by omega), bI_z c_9, eq_self, ↓reduceIte, Bool.false_eq_true]; done) | (simp only [aProof, ix_nI hiin (by omega), nx_nI (j := iin) (by omega), bI_z c_9, eq_self, ↓reduceIte, Bool.false_eq_true]; rfl), hI.pub hR⟩) dX10_proof_51
    · obtain ⟨whn, hwhn, rfl⟩ := ix_t (bI_n c_9) (by omega)
      refine lv_iload_n hx hb dX10_proof_28 rfl (lv_at hl 2 rfl) ?_
      refine n_if_ne (tgt := 41) hx hb (by omega) dX10_proof_29 (by decide) (fun c_10 => ?_) (fun c_10 => ?_)
      · refine lv_aload_n hx hb dX10_proof_41 rfl (lv_at hl 0 rfl) ?_
        refine mo_ga hx hb hu hown hK hal hW 21 (by decide) uF_X10_62 dX10_proof_42 ?_
        refine lv_iload_n hx hb dX10_proof_45 rfl (lv_at hl 1 rfl) ?_
        refine mo_ld hx hb hK hal hW hI.dS 21 (n := 64) (by decide) (by omega) dX10_proof_46 ?_
        have b_11 : S 21 iin ≤ 39 := hG.a 21 iin (n := 64) (mx := 39) (by decide) (by omega)
        refine lv_goto (tgt := 51) hx hb dX10_proof_47 (by decide) ?_
        exact o_iret hx hb hr hlocks hW hS (⟨by first | (simp only [aProof, ix_nI hiin (by omega), nx_nI (j := iin) (by omega), ix_nI hwhn (by omega), nx_nI (j := whn) (by omega), c_10, eq_self, ↓reduceIte, Bool.false_eq_true]; done) | (simp only [aProof, ix_nI hiin (by omega), nx_nI (j := iin) (by omega), ix_nI hwhn (by omega), nx_nI (j := whn) (by omega), c_10, eq_self, ↓reduceIte, Bool.false_eq_true]; rfl), hI.pub hR⟩) dX10_proof_51
      · refine lv_aload_n hx hb dX10_proof_32 rfl (lv_at hl 0 rfl) ?_
        refine mo_ga hx hb hu hown hK hal hW 20 (by decide) uF_X10_59 dX10_proof_33 ?_
        refine lv_iload_n hx hb dX10_proof_36 rfl (lv_at hl 1 rfl) ?_
        refine mo_ld hx hb hK hal hW hI.dS 20 (n := 64) (by decide) (by omega) dX10_proof_37 ?_
        have b_12 : S 20 iin ≤ 63 := hG.a 20 iin (n := 64) (mx := 63) (by decide) (by omega)
        refine lv_goto (tgt := 51) hx hb dX10_proof_38 (by decide) ?_
        exact o_iret hx hb hr hlocks hW hS (⟨by first | (simp only [aProof, ix_nI hiin (by omega), nx_nI (j := iin) (by omega), ix_nI hwhn (by omega), nx_nI (j := whn) (by omega), c_10, eq_self, ↓reduceIte, Bool.false_eq_true]; done) | (simp only [aProof, ix_nI hiin (by omega), nx_nI (j := iin) (by omega), ix_nI hwhn (by omega), nx_nI (j := whn) (by omega), c_10, eq_self, ↓reduceIte, Bool.false_eq_true]; rfl), hI.pub hR⟩) dX10_proof_51
