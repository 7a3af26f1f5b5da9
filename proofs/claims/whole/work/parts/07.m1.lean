set_option maxHeartbeats 400000 in
set_option maxRecDepth 100000 in
theorem c_X10_in (l : Launch) (D : va_G) (cA : Nat → ClassId) (B0 : Nat) (ad : kA) (hal : mAl ad) (d0 : kD) (v a b : Int32) : oM l yX10_in wX10_in 1 0 0 D cA B0 ad d0 ([.int v, .int a, .int b] : List Value) (oQi D cA B0 ad (fun r d1 => r = (if v < a then 0 else if b < v then 0 else 1) ∧ d0 = d1)) := by
  refine o_ofW (cc := cX10_in) (maxL := 3) (ret := some .boolean) (by decide) rfl (Nat.le_of_ble_eq_true rfl) ?_
  intro p e s m below meth c hx hb hr hml hts hown hlocks hnm hK hW hB hS ls hl
  have hu : ∀ w ∈ UW, w.before _ s = true := fun w h => hts w (uw_c w h)
  have hl : lv_has ls 3 [(0, .int v), (1, .int a), (2, .int b)] := hl
  refine lv_iload_n hx hb dX10_in_0 rfl (lv_at hl 0 rfl) ?_
  refine lv_iload_n hx hb dX10_in_1 rfl (lv_at hl 1 rfl) ?_
  refine lv_icmp_lt (tgt := 14) hx hb dX10_in_2 (by decide) (fun c_1 => ?_) (fun c_1 => ?_)
  · refine n_iconst (v := 0) hx hb dX10_in_14 (by decide) ?_
    exact o_zret hx hb hr hlocks (by first | rfl | exact z_bI _ | (split <;> first | rfl | (split <;> rfl))) hW hS (⟨by first | (rw [if_pos (by assumption)]; rfl) | (rw [if_neg (by assumption), if_pos (by assumption)]; rfl) | (rw [if_neg (by assumption), if_neg (by assumption)]; rfl), rfl⟩) dX10_in_15
  · refine lv_iload_n hx hb dX10_in_5 rfl (lv_at hl 0 rfl) ?_
    refine lv_iload_n hx hb dX10_in_6 rfl (lv_at hl 2 rfl) ?_
    refine lv_icmp_gt (tgt := 14) hx hb dX10_in_7 (by decide) (fun c_2 => ?_) (fun c_2 => ?_)
    · refine n_iconst (v := 0) hx hb dX10_in_14 (by decide) ?_
      exact o_zret hx hb hr hlocks (by first | rfl | exact z_bI _ | (split <;> first | rfl | (split <;> rfl))) hW hS (⟨by first | (rw [if_pos (by assumption)]; rfl) | (rw [if_neg (by assumption), if_pos (by assumption)]; rfl) | (rw [if_neg (by assumption), if_neg (by assumption)]; rfl), rfl⟩) dX10_in_15
    · refine n_iconst (v := 1) hx hb dX10_in_10 (by decide) ?_
      refine lv_goto (tgt := 15) hx hb dX10_in_11 (by decide) ?_
      exact o_zret hx hb hr hlocks (by first | rfl | exact z_bI _ | (split <;> first | rfl | (split <;> rfl))) hW hS (⟨by first | (rw [if_pos (by assumption)]; rfl) | (rw [if_neg (by assumption), if_pos (by assumption)]; rfl) | (rw [if_neg (by assumption), if_neg (by assumption)]; rfl), rfl⟩) dX10_in_15

set_option maxHeartbeats 400000 in
set_option maxRecDepth 100000 in
theorem c_X10_isDay (l : Launch) (D : va_G) (cA : Nat → ClassId) (B0 : Nat) (ad : kA) (hal : mAl ad) (d0 : kD) (v : Int32) : oM l yX10_isDay wX10_isDay 2 0 0 D cA B0 ad d0 ([.int v] : List Value) (oQi D cA B0 ad (fun r d1 => r = bI (ix v 400) ∧ d0 = d1)) := by
  refine o_ofW (cc := cX10_isDay) (maxL := 1) (ret := some .boolean) (by decide) rfl (Nat.le_of_ble_eq_true rfl) ?_
  intro p e s m below meth c hx hb hr hml hts hown hlocks hnm hK hW hB hS ls hl
  have hu : ∀ w ∈ UW, w.before _ s = true := fun w h => hts w (uw_c w h)
  have hl : lv_has ls 1 [(0, .int v)] := hl
  refine lv_iload_n hx hb dX10_isDay_0 rfl (lv_at hl 0 rfl) ?_
  refine n_iconst (v := 0) hx hb dX10_isDay_1 (by decide) ?_
  refine n_sipush (v := 399) hx hb dX10_isDay_2 (by decide) ?_
  refine o_calli (o_runS (As := [.int v, .int (nI 0), .int (nI 399)]) (rest := []) ⟨hx, hb, hml, hown, hu⟩ (c_X10_in l D cA B0 ad hal d0 v (nI 0) (nI 399)) (gS_X10_119 (fun _ h => h)) (n0 := 3) rfl (by decide +kernel) rfl ⟨Nat.le_of_ble_eq_true rfl, Nat.le_of_ble_eq_true rfl⟩ hK hW hB hS hl.1 rfl (lv_room (Nat.le_of_ble_eq_true rfl)) ⟨Nat.zero_le _, Nat.zero_le _⟩ dX10_isDay_5) hS (fun r_2 d_1 q_3 H locs hW hS => ?_)
  obtain ⟨rfl, rfl⟩ := q_3
  exact o_zret hx hb hr hlocks (by first | rfl | exact z_bI _ | (split <;> first | rfl | (split <;> rfl))) hW hS (⟨in_ixc 400 rfl (by decide), rfl⟩) dX10_isDay_8

set_option maxHeartbeats 400000 in
set_option maxRecDepth 100000 in
theorem c_X10_isMind (l : Launch) (D : va_G) (cA : Nat → ClassId) (B0 : Nat) (ad : kA) (hal : mAl ad) (d0 : kD) (v : Int32) : oM l yX10_isMind wX10_isMind 2 0 0 D cA B0 ad d0 ([.int v] : List Value) (oQi D cA B0 ad (fun r d1 => r = bI (ix v 64) ∧ d0 = d1)) := by
  refine o_ofW (cc := cX10_isMind) (maxL := 1) (ret := some .boolean) (by decide) rfl (Nat.le_of_ble_eq_true rfl) ?_
  intro p e s m below meth c hx hb hr hml hts hown hlocks hnm hK hW hB hS ls hl
  have hu : ∀ w ∈ UW, w.before _ s = true := fun w h => hts w (uw_c w h)
  have hl : lv_has ls 1 [(0, .int v)] := hl
  refine lv_iload_n hx hb dX10_isMind_0 rfl (lv_at hl 0 rfl) ?_
  refine n_iconst (v := 0) hx hb dX10_isMind_1 (by decide) ?_
  refine n_bipush (v := 63) hx hb dX10_isMind_2 (by decide) ?_
  refine o_calli (o_runS (As := [.int v, .int (nI 0), .int (nI 63)]) (rest := []) ⟨hx, hb, hml, hown, hu⟩ (c_X10_in l D cA B0 ad hal d0 v (nI 0) (nI 63)) (gS_X10_119 (fun _ h => h)) (n0 := 3) rfl (by decide +kernel) rfl ⟨Nat.le_of_ble_eq_true rfl, Nat.le_of_ble_eq_true rfl⟩ hK hW hB hS hl.1 rfl (lv_room (Nat.le_of_ble_eq_true rfl)) ⟨Nat.zero_le _, Nat.zero_le _⟩ dX10_isMind_4) hS (fun r_2 d_1 q_3 H locs hW hS => ?_)
  obtain ⟨rfl, rfl⟩ := q_3
  exact o_zret hx hb hr hlocks (by first | rfl | exact z_bI _ | (split <;> first | rfl | (split <;> rfl))) hW hS (⟨in_ixc 64 rfl (by decide), rfl⟩) dX10_isMind_7

set_option maxHeartbeats 400000 in
set_option maxRecDepth 100000 in
theorem c_X10_isErrs (l : Launch) (D : va_G) (cA : Nat → ClassId) (B0 : Nat) (ad : kA) (hal : mAl ad) (d0 : kD) (v : Int32) : oM l yX10_isErrs wX10_isErrs 2 0 0 D cA B0 ad d0 ([.int v] : List Value) (oQi D cA B0 ad (fun r d1 => r = bI (ix v 51) ∧ d0 = d1)) := by
  refine o_ofW (cc := cX10_isErrs) (maxL := 1) (ret := some .boolean) (by decide) rfl (Nat.le_of_ble_eq_true rfl) ?_
  intro p e s m below meth c hx hb hr hml hts hown hlocks hnm hK hW hB hS ls hl
  have hu : ∀ w ∈ UW, w.before _ s = true := fun w h => hts w (uw_c w h)
  have hl : lv_has ls 1 [(0, .int v)] := hl
  refine lv_iload_n hx hb dX10_isErrs_0 rfl (lv_at hl 0 rfl) ?_
  refine n_iconst (v := 0) hx hb dX10_isErrs_1 (by decide) ?_
  refine n_bipush (v := 50) hx hb dX10_isErrs_2 (by decide) ?_
  refine o_calli (o_runS (As := [.int v, .int (nI 0), .int (nI 50)]) (rest := []) ⟨hx, hb, hml, hown, hu⟩ (c_X10_in l D cA B0 ad hal d0 v (nI 0) (nI 50)) (gS_X10_119 (fun _ h => h)) (n0 := 3) rfl (by decide +kernel) rfl ⟨Nat.le_of_ble_eq_true rfl, Nat.le_of_ble_eq_true rfl⟩ hK hW hB hS hl.1 rfl (lv_room (Nat.le_of_ble_eq_true rfl)) ⟨Nat.zero_le _, Nat.zero_le _⟩ dX10_isErrs_4) hS (fun r_2 d_1 q_3 H locs hW hS => ?_)
  obtain ⟨rfl, rfl⟩ := q_3
  exact o_zret hx hb hr hlocks (by first | rfl | exact z_bI _ | (split <;> first | rfl | (split <;> rfl))) hW hS (⟨in_ixc 51 rfl (by decide), rfl⟩) dX10_isErrs_7

set_option maxHeartbeats 400000 in
set_option maxRecDepth 100000 in
theorem c_X10_isShare (l : Launch) (D : va_G) (cA : Nat → ClassId) (B0 : Nat) (ad : kA) (hal : mAl ad) (d0 : kD) (v : Int32) : oM l yX10_isShare wX10_isShare 2 0 0 D cA B0 ad d0 ([.int v] : List Value) (oQi D cA B0 ad (fun r d1 => r = bI (ix v 1001) ∧ d0 = d1)) := by
  refine o_ofW (cc := cX10_isShare) (maxL := 1) (ret := some .boolean) (by decide) rfl (Nat.le_of_ble_eq_true rfl) ?_
  intro p e s m below meth c hx hb hr hml hts hown hlocks hnm hK hW hB hS ls hl
  have hu : ∀ w ∈ UW, w.before _ s = true := fun w h => hts w (uw_c w h)
  have hl : lv_has ls 1 [(0, .int v)] := hl
  refine lv_iload_n hx hb dX10_isShare_0 rfl (lv_at hl 0 rfl) ?_
  refine n_iconst (v := 0) hx hb dX10_isShare_1 (by decide) ?_
  refine n_sipush (v := 1000) hx hb dX10_isShare_2 (by decide) ?_
  refine o_calli (o_runS (As := [.int v, .int (nI 0), .int (nI 1000)]) (rest := []) ⟨hx, hb, hml, hown, hu⟩ (c_X10_in l D cA B0 ad hal d0 v (nI 0) (nI 1000)) (gS_X10_119 (fun _ h => h)) (n0 := 3) rfl (by decide +kernel) rfl ⟨Nat.le_of_ble_eq_true rfl, Nat.le_of_ble_eq_true rfl⟩ hK hW hB hS hl.1 rfl (lv_room (Nat.le_of_ble_eq_true rfl)) ⟨Nat.zero_le _, Nat.zero_le _⟩ dX10_isShare_5) hS (fun r_2 d_1 q_3 H locs hW hS => ?_)
  obtain ⟨rfl, rfl⟩ := q_3
  exact o_zret hx hb hr hlocks (by first | rfl | exact z_bI _ | (split <;> first | rfl | (split <;> rfl))) hW hS (⟨in_ixc 1001 rfl (by decide), rfl⟩) dX10_isShare_8

set_option maxHeartbeats 400000 in
set_option maxRecDepth 100000 in
theorem c_X10_isPier (l : Launch) (D : va_G) (cA : Nat → ClassId) (B0 : Nat) (ad : kA) (hal : mAl ad) (S : sS) (d0 : kD) (hS0 : dS S d0) (hG : sG S) (v : Int32)  : oM l yX10_isPier wX10_isPier 2 0 0 D cA B0 ad d0 ([.ref (ad.1 40 0), .int v] : List Value) (oQi D cA B0 ad (fun r d1 => r = bI (ix v (S 7 0)) ∧ d0 = d1)) := by
  refine o_ofW (cc := cX10_isPier) (maxL := 2) (ret := some .boolean) (by decide) rfl (Nat.le_of_ble_eq_true rfl) ?_
  intro p e s m below meth c hx hb hr hml hts hown hlocks hnm hK hW hB hS ls hl
  have hu : ∀ w ∈ UW, w.before _ s = true := fun w h => hts w (uw_c w h)
  have hl : lv_has ls 2 [(0, .ref (ad.1 40 0)), (1, .int v)] := hl
  refine lv_iload_n hx hb dX10_isPier_0 rfl (lv_at hl 1 rfl) ?_
  refine n_iconst (v := 0) hx hb dX10_isPier_1 (by decide) ?_
  refine lv_aload_n hx hb dX10_isPier_2 rfl (lv_at hl 0 rfl) ?_
  refine mo_gi hx hb hu hown hK hal hW hS0 7 (by decide) uF_X10_116 dX10_isPier_3 ?_
  have b_1 : S 7 0 ≤ 8 := hG.f 7 (mx := 8) (by decide)
  refine n_iconst (v := 1) hx hb dX10_isPier_6 (by decide) ?_
  refine lv_isub hx hb dX10_isPier_7 ?_
  refine o_calli (o_runS (As := [.int v, .int (nI 0), .int ((nI (S 7 0)) - (nI 1))]) (rest := []) ⟨hx, hb, hml, hown, hu⟩ (c_X10_in l D cA B0 ad hal d0 v (nI 0) ((nI (S 7 0)) - (nI 1))) (gS_X10_119 (fun _ h => h)) (n0 := 3) rfl (by decide +kernel) rfl ⟨Nat.le_of_ble_eq_true rfl, Nat.le_of_ble_eq_true rfl⟩ hK hW hB hS hl.1 rfl (lv_room (Nat.le_of_ble_eq_true rfl)) ⟨Nat.zero_le _, Nat.zero_le _⟩ dX10_isPier_8) hS (fun r_3 d_2 q_4 H locs hW hS => ?_)
  obtain ⟨rfl, rfl⟩ := q_4
  exact o_zret hx hb hr hlocks (by first | rfl | exact z_bI _ | (split <;> first | rfl | (split <;> rfl))) hW hS (⟨in_ix (by omega), rfl⟩) dX10_isPier_11

set_option maxHeartbeats 400000 in
set_option maxRecDepth 100000 in
theorem c_X10_isLook (l : Launch) (D : va_G) (cA : Nat → ClassId) (B0 : Nat) (ad : kA) (hal : mAl ad) (S : sS) (d0 : kD) (hS0 : dS S d0) (hG : sG S) (v : Int32)  : oM l yX10_isLook wX10_isLook 2 0 0 D cA B0 ad d0 ([.ref (ad.1 40 0), .int v] : List Value) (oQi D cA B0 ad (fun r d1 => r = bI (ix v (S 18 0)) ∧ d0 = d1)) := by
  refine o_ofW (cc := cX10_isLook) (maxL := 2) (ret := some .boolean) (by decide) rfl (Nat.le_of_ble_eq_true rfl) ?_
  intro p e s m below meth c hx hb hr hml hts hown hlocks hnm hK hW hB hS ls hl
  have hu : ∀ w ∈ UW, w.before _ s = true := fun w h => hts w (uw_c w h)
  have hl : lv_has ls 2 [(0, .ref (ad.1 40 0)), (1, .int v)] := hl
  refine lv_iload_n hx hb dX10_isLook_0 rfl (lv_at hl 1 rfl) ?_
  refine n_iconst (v := 0) hx hb dX10_isLook_1 (by decide) ?_
  refine lv_aload_n hx hb dX10_isLook_2 rfl (lv_at hl 0 rfl) ?_
  refine mo_gi hx hb hu hown hK hal hW hS0 18 (by decide) uF_X10_185 dX10_isLook_3 ?_
  have b_1 : S 18 0 ≤ 40 := hG.f 18 (mx := 40) (by decide)
  refine n_iconst (v := 1) hx hb dX10_isLook_6 (by decide) ?_
  refine lv_isub hx hb dX10_isLook_7 ?_
  refine o_calli (o_runS (As := [.int v, .int (nI 0), .int ((nI (S 18 0)) - (nI 1))]) (rest := []) ⟨hx, hb, hml, hown, hu⟩ (c_X10_in l D cA B0 ad hal d0 v (nI 0) ((nI (S 18 0)) - (nI 1))) (gS_X10_119 (fun _ h => h)) (n0 := 3) rfl (by decide +kernel) rfl ⟨Nat.le_of_ble_eq_true rfl, Nat.le_of_ble_eq_true rfl⟩ hK hW hB hS hl.1 rfl (lv_room (Nat.le_of_ble_eq_true rfl)) ⟨Nat.zero_le _, Nat.zero_le _⟩ dX10_isLook_8) hS (fun r_3 d_2 q_4 H locs hW hS => ?_)
  obtain ⟨rfl, rfl⟩ := q_4
  exact o_zret hx hb hr hlocks (by first | rfl | exact z_bI _ | (split <;> first | rfl | (split <;> rfl))) hW hS (⟨in_ix (by omega), rfl⟩) dX10_isLook_11

set_option maxHeartbeats 400000 in
set_option maxRecDepth 100000 in
theorem c_X10_isBridge (l : Launch) (D : va_G) (cA : Nat → ClassId) (B0 : Nat) (ad : kA) (hal : mAl ad) (S : sS) (d0 : kD) (hS0 : dS S d0) (hG : sG S) (v : Int32)  : oM l yX10_isBridge wX10_isBridge 2 0 0 D cA B0 ad d0 ([.ref (ad.1 40 0), .int v] : List Value) (oQi D cA B0 ad (fun r d1 => r = bI (ix v (S 25 0)) ∧ d0 = d1)) := by
  refine o_ofW (cc := cX10_isBridge) (maxL := 2) (ret := some .boolean) (by decide) rfl (Nat.le_of_ble_eq_true rfl) ?_
  intro p e s m below meth c hx hb hr hml hts hown hlocks hnm hK hW hB hS ls hl
  have hu : ∀ w ∈ UW, w.before _ s = true := fun w h => hts w (uw_c w h)
  have hl : lv_has ls 2 [(0, .ref (ad.1 40 0)), (1, .int v)] := hl
  refine lv_iload_n hx hb dX10_isBridge_0 rfl (lv_at hl 1 rfl) ?_
  refine n_iconst (v := 0) hx hb dX10_isBridge_1 (by decide) ?_
  refine lv_aload_n hx hb dX10_isBridge_2 rfl (lv_at hl 0 rfl) ?_
  refine mo_gi hx hb hu hown hK hal hW hS0 25 (by decide) uF_X10_275 dX10_isBridge_3 ?_
  have b_1 : S 25 0 ≤ 4 := hG.f 25 (mx := 4) (by decide)
  refine n_iconst (v := 1) hx hb dX10_isBridge_6 (by decide) ?_
  refine lv_isub hx hb dX10_isBridge_7 ?_
  refine o_calli (o_runS (As := [.int v, .int (nI 0), .int ((nI (S 25 0)) - (nI 1))]) (rest := []) ⟨hx, hb, hml, hown, hu⟩ (c_X10_in l D cA B0 ad hal d0 v (nI 0) ((nI (S 25 0)) - (nI 1))) (gS_X10_119 (fun _ h => h)) (n0 := 3) rfl (by decide +kernel) rfl ⟨Nat.le_of_ble_eq_true rfl, Nat.le_of_ble_eq_true rfl⟩ hK hW hB hS hl.1 rfl (lv_room (Nat.le_of_ble_eq_true rfl)) ⟨Nat.zero_le _, Nat.zero_le _⟩ dX10_isBridge_8) hS (fun r_3 d_2 q_4 H locs hW hS => ?_)
  obtain ⟨rfl, rfl⟩ := q_4
  exact o_zret hx hb hr hlocks (by first | rfl | exact z_bI _ | (split <;> first | rfl | (split <;> rfl))) hW hS (⟨in_ix (by omega), rfl⟩) dX10_isBridge_11

set_option maxHeartbeats 400000 in
set_option maxRecDepth 100000 in
theorem c_X10_goal (l : Launch) (D : va_G) (cA : Nat → ClassId) (B0 : Nat) (ad : kA) (hal : mAl ad) (S : sS) (d0 : kD) (hS0 : dS S d0) (hG : sG S) (pp : Nat) (mm : Nat) (dd : Nat) (hp : pp < 8) (hm : mm < 64) (hd : dd < 400) : oM l yX10_goal wX10_goal 2 0 0 D cA B0 ad d0 ([.ref (ad.1 40 0), .int (nI pp), .int (nI mm), .int (nI dd)] : List Value) (oQi D cA B0 ad (fun r d1 => r = nI (sGoal S pp mm dd) ∧ d0 = d1)) := by
  refine o_ofW (cc := cX10_goal) (maxL := 6) (ret := some .int) (by decide) rfl (Nat.le_of_ble_eq_true rfl) ?_
  intro p e s m below meth c hx hb hr hml hts hown hlocks hnm hK hW hB hS ls hl
  have hu : ∀ w ∈ UW, w.before _ s = true := fun w h => hts w (uw_c w h)
  have hl : lv_has ls 6 [(0, .ref (ad.1 40 0)), (1, .int (nI pp)), (2, .int (nI mm)), (3, .int (nI dd))] := hl
  refine lv_aload_n hx hb dX10_goal_0 rfl (lv_at hl 0 rfl) ?_
  refine mo_ga hx hb hu hown hK hal hW 3 (by decide) uF_X10_16 dX10_goal_1 ?_
  refine lv_iload_n hx hb dX10_goal_4 rfl (lv_at hl 1 rfl) ?_
  refine mo_ld hx hb hK hal hW hS0 3 (n := 8) (by decide) (by omega) dX10_goal_5 ?_
  have b_1 : S 3 pp ≤ 20 := hG.a 3 pp (n := 8) (mx := 20) (by decide) (by omega)
  refine lv_istore (lv' := [(4, .int (nI (S 3 pp))), (0, .ref (ad.1 40 0)), (1, .int (nI pp)), (2, .int (nI mm)), (3, .int (nI dd))]) hx hb dX10_goal_6 hl (by decide) rfl (fun ls hl => ?_)
  refine n_iconst (v := 0) hx hb dX10_goal_8 (by decide) ?_
  refine lv_istore (lv' := [(5, .int (nI 0)), (4, .int (nI (S 3 pp))), (0, .ref (ad.1 40 0)), (1, .int (nI pp)), (2, .int (nI mm)), (3, .int (nI dd))]) hx hb dX10_goal_9 hl (by decide) rfl (fun ls hl => ?_)
  have lp11 : ∀ (n : Nat) (w : Nat) (k : Nat)  (H : Heap) (locs : List Loc) (ls : Array Slot), S 11 0 - k < n → (k ≤ S 11 0) → (w = sW S pp dd k) → oW D cA B0 ad d0 H → va_S (oA B0) s.heap H locs → lv_has ls 6 [(0, .ref (ad.1 40 0)), (1, .int (nI pp)), (2, .int (nI mm)), (3, .int (nI dd)), (4, .int (nI w)), (5, .int (nI k))] → W p l e (oR 2 0 0) s m ([.ref (ad.1 40 0), .int (nI pp), .int (nI mm), .int (nI dd)] : List Value).toArray below meth c H locs 0 0 (MQ below (oQi D cA B0 ad (fun r d1 => r = nI (sGoal S pp mm dd) ∧ d0 = d1)) ([.ref (ad.1 40 0), .int (nI pp), .int (nI mm), .int (nI dd)] : List Value).toArray s 0 0 (oA B0)) (F0 m 11 ls []) := by
    intro n
    induction n with
    | zero => intro w k  H locs ls hmu; exact absurd hmu (Nat.not_lt_zero _)
    | succ n ih_lp11 =>
      intro w k  H locs ls hmu hk hw hW hS hl
      refine lv_iload hx hb dX10_goal_11 (lv_at hl 5 rfl) ?_
      refine lv_aload_n hx hb dX10_goal_13 rfl (lv_at hl 0 rfl) ?_
      refine mo_gi hx hb hu hown hK hal hW hS0 11 (by decide) uF_X10_148 dX10_goal_14 ?_
      have b_2 : S 11 0 ≤ 20 := hG.f 11 (mx := 20) (by decide)
      refine n_icmp_ge (tgt := 60) hx hb (by omega) (by omega) dX10_goal_17 (by decide) (fun c_3 => ?_) (fun c_3 => ?_)
      · refine lv_aload_n hx hb dX10_goal_60 rfl (lv_at hl 0 rfl) ?_
        refine mo_ga hx hb hu hown hK hal hW 4 (by decide) uF_X10_19 dX10_goal_61 ?_
        refine lv_iload_n hx hb dX10_goal_64 rfl (lv_at hl 1 rfl) ?_
        refine mo_ld hx hb hK hal hW hS0 4 (n := 8) (by decide) (by omega) dX10_goal_65 ?_
        have b_4 : S 4 pp ≤ 200 := hG.a 4 pp (n := 8) (mx := 200) (by decide) (by omega)
        refine lv_iload_n hx hb dX10_goal_66 rfl (lv_at hl 2 rfl) ?_
        refine n_bipush (v := 8) hx hb dX10_goal_67 (by decide) ?_
        refine n_idiv hx hb (by omega) (by omega) (by omega) dX10_goal_69 ?_
        refine n_iconst (v := 1) hx hb dX10_goal_70 (by decide) ?_
        refine n_iadd hx hb dX10_goal_71 ?_
        refine lv_aload_n hx hb dX10_goal_72 rfl (lv_at hl 0 rfl) ?_
        refine mo_ga hx hb hu hown hK hal hW 0 (by decide) uF_X10_9 dX10_goal_73 ?_
        refine lv_iload_n hx hb dX10_goal_76 rfl (lv_at hl 3 rfl) ?_
        refine mo_ld hx hb hK hal hW hS0 0 (n := 400) (by decide) (by omega) dX10_goal_77 ?_
        have b_5 : S 0 dd ≤ 99 := hG.a 0 dd (n := 400) (mx := 99) (by decide) (by omega)
        refine n_imul hx hb dX10_goal_78 ?_
        refine lv_iload hx hb dX10_goal_79 (lv_at hl 4 rfl) ?_
        refine n_imul hx hb dX10_goal_81 ?_
        refine n_bipush (v := 100) hx hb dX10_goal_82 (by decide) ?_
        refine n_idiv hx hb (sGoal_prod (by omega) (by omega) (by have := sW_le hG (day := dd) hp k (by omega); omega)) (by omega) (by omega) dX10_goal_84 ?_
        refine va_mmin hx hb (hml.trans hl.1.symm) hown (hu _ uM_X10_133) (hu _ uT_J9_min_7cf53) (hu _ uI_J9) (hu _ uC_J9_min_7cf53) (Nat.le_of_ble_eq_true rfl) (Nat.le_of_ble_eq_true rfl) (Nat.le_of_ble_eq_true rfl) (Nat.le_of_ble_eq_true rfl) dX10_goal_85 ?_
        refine n_topi (y := nI (min (S 4 pp) (((((mm / 8) + 1) * (S 0 dd)) * w) / 100))) (n_min (by omega) (by have := sGoal_prod (a := mm / 8 + 1) (f := S 0 dd) (w := w) (by omega) (by omega) (by have := sW_le hG (day := dd) hp k (by omega); omega); omega)) ?_
        exact o_iret hx hb hr hlocks hW hS (⟨by rw [sGoal, hw, show k = S 11 0 by omega], rfl⟩) dX10_goal_88
      · refine lv_aload_n hx hb dX10_goal_20 rfl (lv_at hl 0 rfl) ?_
        refine mo_ga hx hb hu hown hK hal hW 8 (by decide) uF_X10_28 dX10_goal_21 ?_
        refine lv_iload hx hb dX10_goal_24 (lv_at hl 5 rfl) ?_
        refine mo_ld hx hb hK hal hW hS0 8 (n := 20) (by decide) (by omega) dX10_goal_26 ?_
        have b_6 : S 8 k ≤ 7 := hG.a 8 k (n := 20) (mx := 7) (by decide) (by omega)
        refine lv_iload_n hx hb dX10_goal_27 rfl (lv_at hl 1 rfl) ?_
        refine n_icmp_ne (tgt := 54) hx hb (by omega) (by omega) dX10_goal_28 (by decide) (fun c_7 => ?_) (fun c_7 => ?_)
        · refine n_iinc (q := 1) (lv' := [(5, .int (nI (k + 1))), (0, .ref (ad.1 40 0)), (1, .int (nI pp)), (2, .int (nI mm)), (3, .int (nI dd)), (4, .int (nI w))]) hx hb dX10_goal_54 hl (k := 5) rfl (by decide) (by decide) rfl (fun ls hl => ?_)
          refine lv_goto (tgt := 11) hx hb dX10_goal_57 (by decide) ?_
          exact ih_lp11 w (k + 1) _ _ ls (by omega) (by omega) (by rw [sW]; split <;> omega) hW hS (lv_sub hl [1, 2, 3, 4, 5, 0] rfl)
        · refine lv_aload_n hx hb dX10_goal_31 rfl (lv_at hl 0 rfl) ?_
          refine mo_ga hx hb hu hown hK hal hW 9 (by decide) uF_X10_31 dX10_goal_32 ?_
          refine lv_iload hx hb dX10_goal_35 (lv_at hl 5 rfl) ?_
          refine mo_ld hx hb hK hal hW hS0 9 (n := 20) (by decide) (by omega) dX10_goal_37 ?_
          have b_8 : S 9 k ≤ 399 := hG.a 9 k (n := 20) (mx := 399) (by decide) (by omega)
          refine lv_iload_n hx hb dX10_goal_38 rfl (lv_at hl 3 rfl) ?_
          refine n_icmp_gt (tgt := 54) hx hb (by omega) (by omega) dX10_goal_39 (by decide) (fun c_9 => ?_) (fun c_9 => ?_)
          · refine n_iinc (q := 1) (lv' := [(5, .int (nI (k + 1))), (0, .ref (ad.1 40 0)), (1, .int (nI pp)), (2, .int (nI mm)), (3, .int (nI dd)), (4, .int (nI w))]) hx hb dX10_goal_54 hl (k := 5) rfl (by decide) (by decide) rfl (fun ls hl => ?_)
            refine lv_goto (tgt := 11) hx hb dX10_goal_57 (by decide) ?_
            exact ih_lp11 w (k + 1) _ _ ls (by omega) (by omega) (by rw [sW]; split <;> omega) hW hS (lv_sub hl [1, 2, 3, 4, 5, 0] rfl)
          · refine lv_iload hx hb dX10_goal_42 (lv_at hl 4 rfl) ?_
            refine lv_aload_n hx hb dX10_goal_44 rfl (lv_at hl 0 rfl) ?_
            refine mo_ga hx hb hu hown hK hal hW 10 (by decide) uF_X10_34 dX10_goal_45 ?_
            refine lv_iload hx hb dX10_goal_48 (lv_at hl 5 rfl) ?_
            refine mo_ld hx hb hK hal hW hS0 10 (n := 20) (by decide) (by omega) dX10_goal_50 ?_
            have b_10 : S 10 k ≤ 20 := hG.a 10 k (n := 20) (mx := 20) (by decide) (by omega)
            refine n_iadd hx hb dX10_goal_51 ?_
            refine lv_istore (lv' := [(4, .int (nI (w + (S 10 k)))), (0, .ref (ad.1 40 0)), (1, .int (nI pp)), (2, .int (nI mm)), (3, .int (nI dd)), (5, .int (nI k))]) hx hb dX10_goal_52 hl (by decide) rfl (fun ls hl => ?_)
            refine n_iinc (q := 1) (lv' := [(5, .int (nI (k + 1))), (4, .int (nI (w + (S 10 k)))), (0, .ref (ad.1 40 0)), (1, .int (nI pp)), (2, .int (nI mm)), (3, .int (nI dd))]) hx hb dX10_goal_54 hl (k := 5) rfl (by decide) (by decide) rfl (fun ls hl => ?_)
            refine lv_goto (tgt := 11) hx hb dX10_goal_57 (by decide) ?_
            exact ih_lp11 (w + (S 10 k)) (k + 1) _ _ ls (by omega) (by omega) (by rw [sW]; split <;> omega) hW hS (lv_sub hl [2, 3, 4, 5, 1, 0] rfl)
  exact lp11 (S 11 0 + 1) (S 3 pp) 0 _ _ ls (by omega) (by omega) rfl hW hS (lv_sub hl [2, 3, 4, 5, 1, 0] rfl)

set_option maxHeartbeats 400000 in
set_option maxRecDepth 100000 in
theorem c_X10_isKnown (l : Launch) (D : va_G) (cA : Nat → ClassId) (B0 : Nat) (ad : kA) (hal : mAl ad) (S : sS) (d0 : kD) (hS0 : dS S d0) (hG : sG S) (ll : Nat) (dd : Nat) (hl0 : ll < 40) (hd : dd < 400) : oM l yX10_isKnown wX10_isKnown 1 0 0 D cA B0 ad d0 ([.ref (ad.1 40 0), .int (nI ll), .int (nI dd)] : List Value) (oQi D cA B0 ad (fun r d1 => r = bI (sKn S ll dd) ∧ d0 = d1)) := by
  refine o_ofW (cc := cX10_isKnown) (maxL := 3) (ret := some .boolean) (by decide) rfl (Nat.le_of_ble_eq_true rfl) ?_
  intro p e s m below meth c hx hb hr hml hts hown hlocks hnm hK hW hB hS ls hl
  have hu : ∀ w ∈ UW, w.before _ s = true := fun w h => hts w (uw_c w h)
  have hl : lv_has ls 3 [(0, .ref (ad.1 40 0)), (1, .int (nI ll)), (2, .int (nI dd))] := hl
  refine lv_aload_n hx hb dX10_isKnown_0 rfl (lv_at hl 0 rfl) ?_
  refine mo_ga hx hb hu hown hK hal hW 16 (by decide) uF_X10_49 dX10_isKnown_1 ?_
  refine lv_iload_n hx hb dX10_isKnown_4 rfl (lv_at hl 1 rfl) ?_
  refine mo_ld hx hb hK hal hW hS0 16 (n := 40) (by decide) (by omega) dX10_isKnown_5 ?_
  have b_1 : S 16 ll ≤ 399 := hG.a 16 ll (n := 40) (mx := 399) (by decide) (by omega)
  refine lv_iload_n hx hb dX10_isKnown_6 rfl (lv_at hl 2 rfl) ?_
  refine n_icmp_gt (tgt := 24) hx hb (by omega) (by omega) dX10_isKnown_7 (by decide) (fun c_2 => ?_) (fun c_2 => ?_)
  · refine n_iconst (v := 0) hx hb dX10_isKnown_24 (by decide) ?_
    exact o_zret hx hb hr hlocks (by first | rfl | exact z_bI _ | (split <;> first | rfl | (split <;> rfl))) hW hS (⟨by first | (rw [sKn_t (by omega) (by omega)]; rfl) | (rw [sKn_f (by omega)]; rfl), rfl⟩) dX10_isKnown_25
  · refine lv_aload_n hx hb dX10_isKnown_10 rfl (lv_at hl 0 rfl) ?_
    refine mo_ga hx hb hu hown hK hal hW 17 (by decide) uF_X10_52 dX10_isKnown_11 ?_
    refine lv_iload_n hx hb dX10_isKnown_14 rfl (lv_at hl 1 rfl) ?_
    refine mo_ld hx hb hK hal hW hS0 17 (n := 40) (by decide) (by omega) dX10_isKnown_15 ?_
    have b_3 : S 17 ll ≤ 400 := hG.a 17 ll (n := 40) (mx := 400) (by decide) (by omega)
    refine lv_iload_n hx hb dX10_isKnown_16 rfl (lv_at hl 2 rfl) ?_
    refine n_icmp_le (tgt := 24) hx hb (by omega) (by omega) dX10_isKnown_17 (by decide) (fun c_4 => ?_) (fun c_4 => ?_)
    · refine n_iconst (v := 0) hx hb dX10_isKnown_24 (by decide) ?_
      exact o_zret hx hb hr hlocks (by first | rfl | exact z_bI _ | (split <;> first | rfl | (split <;> rfl))) hW hS (⟨by first | (rw [sKn_t (by omega) (by omega)]; rfl) | (rw [sKn_f (by omega)]; rfl), rfl⟩) dX10_isKnown_25
    · refine n_iconst (v := 1) hx hb dX10_isKnown_20 (by decide) ?_
      refine lv_goto (tgt := 25) hx hb dX10_isKnown_21 (by decide) ?_
      exact o_zret hx hb hr hlocks (by first | rfl | exact z_bI _ | (split <;> first | rfl | (split <;> rfl))) hW hS (⟨by first | (rw [sKn_t (by omega) (by omega)]; rfl) | (rw [sKn_f (by omega)]; rfl), rfl⟩) dX10_isKnown_25
