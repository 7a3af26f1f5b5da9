set_option maxHeartbeats 400000 in
set_option maxRecDepth 100000 in
theorem c_X10_bars_ (l : Launch) (D : va_G) (cA : Nat → ClassId) (B0 : Nat) (ad : kA) (hal : mAl ad) (S : sS) (sr : Nat → Int32) (d0 : kD) (hM : InvM S d0) (hR : RowM S sr d0) (li : Int32) : oM l yX10_bars_ wX10_bars_ 6 0 0 D cA B0 ad d0 ([.ref (ad.1 40 0), .int li] : List Value) (oQi D cA B0 ad (fun r d1 => r = aBars S li ∧ PI S sr d0 d1)) := by
  refine o_ofW (cc := cX10_bars_) (maxL := 2) (ret := some .int) (by decide) rfl (Nat.le_of_ble_eq_true rfl) ?_
  intro p e s m below meth c hx hb hr hml hts hown hlocks hnm hK hW hB hS ls hl
  have hu : ∀ w ∈ UW, w.before _ s = true := fun w h => hts w (uw_c w h)
  have hl : lv_has ls 2 [(0, .ref (ad.1 40 0)), (1, .int li)] := hl
  refine lv_aload_n hx hb dX10_bars__0 rfl (lv_at hl 0 rfl) ?_
  refine n_iconst (v := 0) hx hb dX10_bars__1 (by decide) ?_
  refine mo_pi hx hb hu hown hK hal hW hS 33 (by decide +kernel) uF_X10_113 dX10_bars__2 (fun H locs hW hS => ?_)
  have hI : MI S (uI d0 40 0 33 (nI 0)) (uI d0 40 0 33 (nI 0)) := MI.start (hM.thr 33 _ rfl)
  have hG : sG S := hM.2.1
  have hb1 : S 1 0 ≤ 4 := hG.f 1 (mx := 4) (by decide)
  have hb7 : S 7 0 ≤ 8 := hG.f 7 (mx := 8) (by decide)
  have hb11 : S 11 0 ≤ 20 := hG.f 11 (mx := 20) (by decide)
  have hb18 : S 18 0 ≤ 40 := hG.f 18 (mx := 40) (by decide)
  have hb19 : S 19 0 ≤ 399 := hG.f 19 (mx := 399) (by decide)
  have hb22 : S 22 0 ≤ 64 := hG.f 22 (mx := 64) (by decide)
  have hb25 : S 25 0 ≤ 4 := hG.f 25 (mx := 4) (by decide)
  have hb30 : S 30 0 ≤ 10 := hG.f 30 (mx := 10) (by decide)
  have hb32 : S 32 0 ≤ 64 := hG.f 32 (mx := 64) (by decide)
  refine lv_aload_n hx hb dX10_bars__5 rfl (lv_at hl 0 rfl) ?_
  refine lv_iload_n hx hb dX10_bars__6 rfl (lv_at hl 1 rfl) ?_
  refine o_calli (o_runV (As := [.int li]) (rest := []) ⟨hx, hb, hml, hown, hu⟩ (c_X10_isLook l D cA B0 ad hal S (uI d0 40 0 33 (nI 0)) hI.dS hG li ) (gV_X10_214 (fun _ h => h)) (n0 := 1) rfl (by decide +kernel) rfl ⟨Nat.le_of_ble_eq_true rfl, Nat.le_of_ble_eq_true rfl⟩ (o_recv hK hW hal.1 (kC_M _ _ _) rfl) hK hW hB hS hl.1 rfl (lv_room (Nat.le_of_ble_eq_true rfl)) ⟨Nat.zero_le _, Nat.zero_le _⟩ dX10_bars__7) hS (fun r_2 d_1 q_3 H locs hW hS => ?_)
  obtain ⟨rfl, rfl⟩ := q_3
  refine lv_if_ne (tgt := 15) hx hb dX10_bars__10 (by decide) (fun c_4 => ?_) (fun c_4 => ?_)
  · obtain ⟨lin, hlin, rfl⟩ := ix_t (bI_n c_4) (by omega)
    refine lv_aload_n hx hb dX10_bars__15 rfl (lv_at hl 0 rfl) ?_
    refine lv_iload_n hx hb dX10_bars__16 rfl (lv_at hl 1 rfl) ?_
    refine o_calll (o_runV (As := [.int (nI lin)]) (rest := []) ⟨hx, hb, hml, hown, hu⟩ (c_X10_barsOf l D cA B0 ad hal S (uI d0 40 0 33 (nI 0)) hI.1 lin (by omega)) (gV_X10_175 (fun _ h => h)) (n0 := 1) rfl (by decide +kernel) rfl ⟨Nat.le_of_ble_eq_true rfl, Nat.le_of_ble_eq_true rfl⟩ (o_recv hK hW hal.1 (kC_M _ _ _) rfl) hK hW hB hS hl.1 rfl (lv_room (Nat.le_of_ble_eq_true rfl)) ⟨Nat.zero_le _, Nat.zero_le _⟩ dX10_bars__17) hS (fun r_6 d_5 q_7 H locs hW hS => ?_)
    obtain ⟨rfl, hq⟩ := q_7
    have hI := hI.trans hq
    refine o_calli (o_runS (As := [.long (sBars S lin)]) (rest := []) ⟨hx, hb, hml, hown, hu⟩ (c_X10_many l D cA B0 ad hal d_5 (sBars S lin)) (gS_X10_217 (fun _ h => h)) (n0 := 1) rfl (by decide +kernel) rfl ⟨Nat.le_of_ble_eq_true rfl, Nat.le_of_ble_eq_true rfl⟩ hK hW hB hS hl.1 rfl (lv_room (Nat.le_of_ble_eq_true rfl)) ⟨Nat.zero_le _, Nat.zero_le _⟩ dX10_bars__20) hS (fun r_9 d_8 q_10 H locs hW hS => ?_)
    obtain ⟨rfl, rfl⟩ := q_10
    have b_11 := popN_le (sBars S lin)
    exact o_iret hx hb hr hlocks hW hS (⟨by first | (simp only [aBars, ix_nI hlin (by omega), nx_nI (j := lin) (by omega), eq_self, ↓reduceIte, Bool.false_eq_true]; done) | (simp only [aBars, ix_nI hlin (by omega), nx_nI (j := lin) (by omega), eq_self, ↓reduceIte, Bool.false_eq_true]; rfl), hI.pub hR⟩) dX10_bars__23
  · refine lv_iconst (v := -1) hx hb dX10_bars__13 (by decide) ?_
    exact o_iret hx hb hr hlocks hW hS (⟨by first | (simp only [aBars, bI_z c_4, eq_self, ↓reduceIte, Bool.false_eq_true]; done) | (simp only [aBars, bI_z c_4, eq_self, ↓reduceIte, Bool.false_eq_true]; rfl), hI.pub hR⟩) dX10_bars__14

set_option maxHeartbeats 400000 in
set_option maxRecDepth 100000 in
theorem c_X10_weighs (l : Launch) (D : va_G) (cA : Nat → ClassId) (B0 : Nat) (ad : kA) (hal : mAl ad) (S : sS) (sr : Nat → Int32) (d0 : kD) (hM : InvM S d0) (hR : RowM S sr d0) (li : Int32) : oM l yX10_weighs wX10_weighs 7 0 0 D cA B0 ad d0 ([.ref (ad.1 40 0), .int li] : List Value) (oQi D cA B0 ad (fun r d1 => r = aWeighs S li ∧ PI S sr d0 d1)) := by
  refine o_ofW (cc := cX10_weighs) (maxL := 2) (ret := some .int) (by decide) rfl (Nat.le_of_ble_eq_true rfl) ?_
  intro p e s m below meth c hx hb hr hml hts hown hlocks hnm hK hW hB hS ls hl
  have hu : ∀ w ∈ UW, w.before _ s = true := fun w h => hts w (uw_c w h)
  have hl : lv_has ls 2 [(0, .ref (ad.1 40 0)), (1, .int li)] := hl
  refine lv_aload_n hx hb dX10_weighs_0 rfl (lv_at hl 0 rfl) ?_
  refine n_iconst (v := 0) hx hb dX10_weighs_1 (by decide) ?_
  refine mo_pi hx hb hu hown hK hal hW hS 33 (by decide +kernel) uF_X10_113 dX10_weighs_2 (fun H locs hW hS => ?_)
  have hI : MI S (uI d0 40 0 33 (nI 0)) (uI d0 40 0 33 (nI 0)) := MI.start (hM.thr 33 _ rfl)
  have hG : sG S := hM.2.1
  have hb1 : S 1 0 ≤ 4 := hG.f 1 (mx := 4) (by decide)
  have hb7 : S 7 0 ≤ 8 := hG.f 7 (mx := 8) (by decide)
  have hb11 : S 11 0 ≤ 20 := hG.f 11 (mx := 20) (by decide)
  have hb18 : S 18 0 ≤ 40 := hG.f 18 (mx := 40) (by decide)
  have hb19 : S 19 0 ≤ 399 := hG.f 19 (mx := 399) (by decide)
  have hb22 : S 22 0 ≤ 64 := hG.f 22 (mx := 64) (by decide)
  have hb25 : S 25 0 ≤ 4 := hG.f 25 (mx := 4) (by decide)
  have hb30 : S 30 0 ≤ 10 := hG.f 30 (mx := 10) (by decide)
  have hb32 : S 32 0 ≤ 64 := hG.f 32 (mx := 64) (by decide)
  refine lv_aload_n hx hb dX10_weighs_5 rfl (lv_at hl 0 rfl) ?_
  refine lv_iload_n hx hb dX10_weighs_6 rfl (lv_at hl 1 rfl) ?_
  refine o_calli (o_runV (As := [.int li]) (rest := []) ⟨hx, hb, hml, hown, hu⟩ (c_X10_isLook l D cA B0 ad hal S (uI d0 40 0 33 (nI 0)) hI.dS hG li ) (gV_X10_214 (fun _ h => h)) (n0 := 1) rfl (by decide +kernel) rfl ⟨Nat.le_of_ble_eq_true rfl, Nat.le_of_ble_eq_true rfl⟩ (o_recv hK hW hal.1 (kC_M _ _ _) rfl) hK hW hB hS hl.1 rfl (lv_room (Nat.le_of_ble_eq_true rfl)) ⟨Nat.zero_le _, Nat.zero_le _⟩ dX10_weighs_7) hS (fun r_2 d_1 q_3 H locs hW hS => ?_)
  obtain ⟨rfl, rfl⟩ := q_3
  refine lv_if_eq (tgt := 25) hx hb dX10_weighs_10 (by decide) (fun c_4 => ?_) (fun c_4 => ?_)
  · refine lv_iconst (v := -1) hx hb dX10_weighs_25 (by decide) ?_
    exact o_iret hx hb hr hlocks hW hS (⟨by first | (simp only [aWeighs, bI_z c_4, eq_self, ↓reduceIte, Bool.false_eq_true]; done) | (simp only [aWeighs, bI_z c_4, eq_self, ↓reduceIte, Bool.false_eq_true]; rfl), hI.pub hR⟩) dX10_weighs_26
  · obtain ⟨lin, hlin, rfl⟩ := ix_t (bI_n c_4) (by omega)
    refine lv_aload_n hx hb dX10_weighs_13 rfl (lv_at hl 0 rfl) ?_
    refine lv_iload_n hx hb dX10_weighs_14 rfl (lv_at hl 1 rfl) ?_
    refine lv_aload_n hx hb dX10_weighs_15 rfl (lv_at hl 0 rfl) ?_
    refine mo_gi hx hb hu hown hK hal hW hI.dS 19 (by decide) uF_X10_55 dX10_weighs_16 ?_
    have b_5 : S 19 0 ≤ 399 := hG.f 19 (mx := 399) (by decide)
    refine o_calli (o_runV (As := [.int (nI lin), .int (nI (S 19 0))]) (rest := []) ⟨hx, hb, hml, hown, hu⟩ (c_X10_isKnown l D cA B0 ad hal S (uI d0 40 0 33 (nI 0)) hI.dS hG lin (S 19 0) (by omega) (by omega)) (gV_X10_188 (fun _ h => h)) (n0 := 2) rfl (by decide +kernel) rfl ⟨Nat.le_of_ble_eq_true rfl, Nat.le_of_ble_eq_true rfl⟩ (o_recv hK hW hal.1 (kC_M _ _ _) rfl) hK hW hB hS hl.1 rfl (lv_room (Nat.le_of_ble_eq_true rfl)) ⟨Nat.zero_le _, Nat.zero_le _⟩ dX10_weighs_19) hS (fun r_7 d_6 q_8 H locs hW hS => ?_)
    obtain ⟨rfl, rfl⟩ := q_8
    refine lv_if_ne (tgt := 27) hx hb dX10_weighs_22 (by decide) (fun c_k => ?_) (fun c_k => ?_)
    · have hkn : sKn S lin (S 19 0) = true := bI_n c_k
      have hlp : S 12 lin < S 7 0 := hG.2.2.2.2.1 lin hlin
      refine lv_aload_n hx hb dX10_weighs_27 rfl (lv_at hl 0 rfl) ?_
      refine lv_aload_n hx hb dX10_weighs_28 rfl (lv_at hl 0 rfl) ?_
      refine mo_ga hx hb hu hown hK hal hW 12 (by decide) uF_X10_37 dX10_weighs_29 ?_
      refine lv_iload_n hx hb dX10_weighs_32 rfl (lv_at hl 1 rfl) ?_
      refine mo_ld hx hb hK hal hW hI.dS 12 (n := 40) (by decide) (by omega) dX10_weighs_33 ?_
      have b_9 : S 12 lin ≤ 7 := hG.a 12 lin (n := 40) (mx := 7) (by decide) (by omega)
      refine lv_aload_n hx hb dX10_weighs_34 rfl (lv_at hl 0 rfl) ?_
      refine mo_gi hx hb hu hown hK hal hW hI.dS 19 (by decide) uF_X10_55 dX10_weighs_35 ?_
      have b_10 : S 19 0 ≤ 399 := hG.f 19 (mx := 399) (by decide)
      refine lv_iload_n hx hb dX10_weighs_38 rfl (lv_at hl 1 rfl) ?_
      refine o_calll (o_runV (As := [.int (nI (S 12 lin)), .int (nI (S 19 0)), .int (nI lin)]) (rest := []) ⟨hx, hb, hml, hown, hu⟩ (c_X10_free l D cA B0 ad hal S (uI d0 40 0 33 (nI 0)) hI.1 (S 12 lin) (S 19 0) (nI lin) (by omega) (by omega)) (gV_X10_192 (fun _ h => h)) (n0 := 3) rfl (by decide +kernel) rfl ⟨Nat.le_of_ble_eq_true rfl, Nat.le_of_ble_eq_true rfl⟩ (o_recv hK hW hal.1 (kC_M _ _ _) rfl) hK hW hB hS hl.1 rfl (lv_room (Nat.le_of_ble_eq_true rfl)) ⟨Nat.zero_le _, Nat.zero_le _⟩ dX10_weighs_39) hS (fun r_12 d_11 q_13 H locs hW hS => ?_)
      obtain ⟨rfl, hq⟩ := q_13
      have hI := hI.trans hq
      refine o_calli (o_runS (As := [.long (sFree S (S 12 lin) (S 19 0) (nI lin))]) (rest := []) ⟨hx, hb, hml, hown, hu⟩ (c_X10_many l D cA B0 ad hal d_11 (sFree S (S 12 lin) (S 19 0) (nI lin))) (gS_X10_217 (fun _ h => h)) (n0 := 1) rfl (by decide +kernel) rfl ⟨Nat.le_of_ble_eq_true rfl, Nat.le_of_ble_eq_true rfl⟩ hK hW hB hS hl.1 rfl (lv_room (Nat.le_of_ble_eq_true rfl)) ⟨Nat.zero_le _, Nat.zero_le _⟩ dX10_weighs_42) hS (fun r_15 d_14 q_16 H locs hW hS => ?_)
      obtain ⟨rfl, rfl⟩ := q_16
      have b_17 := popN_le (sFree S (S 12 lin) (S 19 0) (nI lin))
      refine lv_aload_n hx hb dX10_weighs_45 rfl (lv_at hl 0 rfl) ?_
      refine lv_aload_n hx hb dX10_weighs_46 rfl (lv_at hl 0 rfl) ?_
      refine mo_ga hx hb hu hown hK hal hW 12 (by decide) uF_X10_37 dX10_weighs_47 ?_
      refine lv_iload_n hx hb dX10_weighs_50 rfl (lv_at hl 1 rfl) ?_
      refine mo_ld hx hb hK hal hW hI.dS 12 (n := 40) (by decide) (by omega) dX10_weighs_51 ?_
      have b_18 : S 12 lin ≤ 7 := hG.a 12 lin (n := 40) (mx := 7) (by decide) (by omega)
      refine lv_aload_n hx hb dX10_weighs_52 rfl (lv_at hl 0 rfl) ?_
      refine mo_gi hx hb hu hown hK hal hW hI.dS 19 (by decide) uF_X10_55 dX10_weighs_53 ?_
      have b_19 : S 19 0 ≤ 399 := hG.f 19 (mx := 399) (by decide)
      refine lv_iconst (v := -1) hx hb dX10_weighs_56 (by decide) ?_
      refine o_calll (o_runV (As := [.int (nI (S 12 lin)), .int (nI (S 19 0)), .int (-1)]) (rest := [.int (nI (popN (sFree S (S 12 lin) (S 19 0) (nI lin))))]) ⟨hx, hb, hml, hown, hu⟩ (c_X10_free l D cA B0 ad hal S d_11 hI.1 (S 12 lin) (S 19 0) (-1) (by omega) (by omega)) (gV_X10_192 (fun _ h => h)) (n0 := 3) rfl (by decide +kernel) rfl ⟨Nat.le_of_ble_eq_true rfl, Nat.le_of_ble_eq_true rfl⟩ (o_recv hK hW hal.1 (kC_M _ _ _) rfl) hK hW hB hS hl.1 rfl (lv_room (Nat.le_of_ble_eq_true rfl)) ⟨Nat.zero_le _, Nat.zero_le _⟩ dX10_weighs_57) hS (fun r_21 d_20 q_22 H locs hW hS => ?_)
      obtain ⟨rfl, hq⟩ := q_22
      have hI := hI.trans hq
      refine o_calli (o_runS (As := [.long (sFree S (S 12 lin) (S 19 0) (-1))]) (rest := [.int (nI (popN (sFree S (S 12 lin) (S 19 0) (nI lin))))]) ⟨hx, hb, hml, hown, hu⟩ (c_X10_many l D cA B0 ad hal d_20 (sFree S (S 12 lin) (S 19 0) (-1))) (gS_X10_217 (fun _ h => h)) (n0 := 1) rfl (by decide +kernel) rfl ⟨Nat.le_of_ble_eq_true rfl, Nat.le_of_ble_eq_true rfl⟩ hK hW hB hS hl.1 rfl (lv_room (Nat.le_of_ble_eq_true rfl)) ⟨Nat.zero_le _, Nat.zero_le _⟩ dX10_weighs_60) hS (fun r_24 d_23 q_25 H locs hW hS => ?_)
      obtain ⟨rfl, rfl⟩ := q_25
      have b_26 := popN_le (sFree S (S 12 lin) (S 19 0) (-1))
      refine lv_isub hx hb dX10_weighs_63 ?_
      exact o_iret hx hb hr hlocks hW hS (⟨by first | (simp only [aWeighs, ix_nI hlin (by omega), nx_nI (j := lin) (by omega), hkn, eq_self, ↓reduceIte, Bool.false_eq_true]; done) | (simp only [aWeighs, ix_nI hlin (by omega), nx_nI (j := lin) (by omega), hkn, eq_self, ↓reduceIte, Bool.false_eq_true]; rfl), hI.pub hR⟩) dX10_weighs_64
    · have hkn : sKn S lin (S 19 0) = false := bI_z c_k
      refine lv_iconst (v := -1) hx hb dX10_weighs_25 (by decide) ?_
      exact o_iret hx hb hr hlocks hW hS (⟨by first | (simp only [aWeighs, ix_nI hlin (by omega), nx_nI (j := lin) (by omega), hkn, eq_self, ↓reduceIte, Bool.false_eq_true]; done) | (simp only [aWeighs, ix_nI hlin (by omega), nx_nI (j := lin) (by omega), hkn, eq_self, ↓reduceIte, Bool.false_eq_true]; rfl), hI.pub hR⟩) dX10_weighs_26

set_option maxHeartbeats 400000 in
set_option maxRecDepth 100000 in
theorem c_X10_share (l : Launch) (D : va_G) (cA : Nat → ClassId) (B0 : Nat) (ad : kA) (hal : mAl ad) (S : sS) (sr : Nat → Int32) (d0 : kD) (hM : InvM S d0) (hR : RowM S sr d0) (pi day qi : Int32) : oM l yX10_share wX10_share 9 0 0 D cA B0 ad d0 ([.ref (ad.1 40 0), .int pi, .int day, .int qi] : List Value) (oQi D cA B0 ad (fun r d1 => r = aShare S pi day qi ∧ PI S sr d0 d1)) := by
  refine o_ofW (cc := cX10_share) (maxL := 6) (ret := some .int) (by decide) rfl (Nat.le_of_ble_eq_true rfl) ?_
  intro p e s m below meth c hx hb hr hml hts hown hlocks hnm hK hW hB hS ls hl
  have hu : ∀ w ∈ UW, w.before _ s = true := fun w h => hts w (uw_c w h)
  have hl : lv_has ls 6 [(0, .ref (ad.1 40 0)), (1, .int pi), (2, .int day), (3, .int qi)] := hl
  refine lv_aload_n hx hb dX10_share_0 rfl (lv_at hl 0 rfl) ?_
  refine n_iconst (v := 0) hx hb dX10_share_1 (by decide) ?_
  refine mo_pi hx hb hu hown hK hal hW hS 33 (by decide +kernel) uF_X10_113 dX10_share_2 (fun H locs hW hS => ?_)
  have hI : MI S (uI d0 40 0 33 (nI 0)) (uI d0 40 0 33 (nI 0)) := MI.start (hM.thr 33 _ rfl)
  have hG : sG S := hM.2.1
  have hb1 : S 1 0 ≤ 4 := hG.f 1 (mx := 4) (by decide)
  have hb7 : S 7 0 ≤ 8 := hG.f 7 (mx := 8) (by decide)
  have hb11 : S 11 0 ≤ 20 := hG.f 11 (mx := 20) (by decide)
  have hb18 : S 18 0 ≤ 40 := hG.f 18 (mx := 40) (by decide)
  have hb19 : S 19 0 ≤ 399 := hG.f 19 (mx := 399) (by decide)
  have hb22 : S 22 0 ≤ 64 := hG.f 22 (mx := 64) (by decide)
  have hb25 : S 25 0 ≤ 4 := hG.f 25 (mx := 4) (by decide)
  have hb30 : S 30 0 ≤ 10 := hG.f 30 (mx := 10) (by decide)
  have hb32 : S 32 0 ≤ 64 := hG.f 32 (mx := 64) (by decide)
  refine lv_aload_n hx hb dX10_share_5 rfl (lv_at hl 0 rfl) ?_
  refine lv_iload_n hx hb dX10_share_6 rfl (lv_at hl 1 rfl) ?_
  refine o_calli (o_runV (As := [.int pi]) (rest := []) ⟨hx, hb, hml, hown, hu⟩ (c_X10_isPier l D cA B0 ad hal S (uI d0 40 0 33 (nI 0)) hI.dS hG pi ) (gV_X10_145 (fun _ h => h)) (n0 := 1) rfl (by decide +kernel) rfl ⟨Nat.le_of_ble_eq_true rfl, Nat.le_of_ble_eq_true rfl⟩ (o_recv hK hW hal.1 (kC_M _ _ _) rfl) hK hW hB hS hl.1 rfl (lv_room (Nat.le_of_ble_eq_true rfl)) ⟨Nat.zero_le _, Nat.zero_le _⟩ dX10_share_7) hS (fun r_2 d_1 q_3 H locs hW hS => ?_)
  obtain ⟨rfl, rfl⟩ := q_3
  refine lv_if_eq (tgt := 29) hx hb dX10_share_10 (by decide) (fun c_4 => ?_) (fun c_4 => ?_)
  · refine lv_iconst (v := -1) hx hb dX10_share_29 (by decide) ?_
    exact o_iret hx hb hr hlocks hW hS (⟨by first | (simp only [aShare, bI_z c_4, eq_self, ↓reduceIte, Bool.false_eq_true]; done) | (simp only [aShare, bI_z c_4, eq_self, ↓reduceIte, Bool.false_eq_true]; rfl), hI.pub hR⟩) dX10_share_30
  · obtain ⟨pin, hpin, rfl⟩ := ix_t (bI_n c_4) (by omega)
    refine lv_iload_n hx hb dX10_share_13 rfl (lv_at hl 2 rfl) ?_
    refine o_calli (o_runS (As := [.int day]) (rest := []) ⟨hx, hb, hml, hown, hu⟩ (c_X10_isDay l D cA B0 ad hal (uI d0 40 0 33 (nI 0)) day) (gS_X10_126 (fun _ h => h)) (n0 := 1) rfl (by decide +kernel) rfl ⟨Nat.le_of_ble_eq_true rfl, Nat.le_of_ble_eq_true rfl⟩ hK hW hB hS hl.1 rfl (lv_room (Nat.le_of_ble_eq_true rfl)) ⟨Nat.zero_le _, Nat.zero_le _⟩ dX10_share_14) hS (fun r_6 d_5 q_7 H locs hW hS => ?_)
    obtain ⟨rfl, rfl⟩ := q_7
    refine lv_if_eq (tgt := 29) hx hb dX10_share_17 (by decide) (fun c_8 => ?_) (fun c_8 => ?_)
    · refine lv_iconst (v := -1) hx hb dX10_share_29 (by decide) ?_
      exact o_iret hx hb hr hlocks hW hS (⟨by first | (simp only [aShare, ix_nI hpin (by omega), nx_nI (j := pin) (by omega), bI_z c_8, eq_self, ↓reduceIte, Bool.false_eq_true]; done) | (simp only [aShare, ix_nI hpin (by omega), nx_nI (j := pin) (by omega), bI_z c_8, eq_self, ↓reduceIte, Bool.false_eq_true]; rfl), hI.pub hR⟩) dX10_share_30
    · obtain ⟨dayn, hdayn, rfl⟩ := ix_t (bI_n c_8) (by omega)
      refine lv_iload_n hx hb dX10_share_20 rfl (lv_at hl 3 rfl) ?_
      refine n_iconst (v := 0) hx hb dX10_share_21 (by decide) ?_
      refine n_iconst (v := 1) hx hb dX10_share_22 (by decide) ?_
      refine o_calli (o_runS (As := [.int qi, .int (nI 0), .int (nI 1)]) (rest := []) ⟨hx, hb, hml, hown, hu⟩ (c_X10_in l D cA B0 ad hal (uI d0 40 0 33 (nI 0)) qi (nI 0) (nI 1)) (gS_X10_119 (fun _ h => h)) (n0 := 3) rfl (by decide +kernel) rfl ⟨Nat.le_of_ble_eq_true rfl, Nat.le_of_ble_eq_true rfl⟩ hK hW hB hS hl.1 rfl (lv_room (Nat.le_of_ble_eq_true rfl)) ⟨Nat.zero_le _, Nat.zero_le _⟩ dX10_share_23) hS (fun r_10 d_9 q_11 H locs hW hS => ?_)
      obtain ⟨rfl, rfl⟩ := q_11
      refine n_topi (y := bI (ix qi 2)) (in_ixc 2 rfl (by decide)) ?_
      refine lv_if_ne (tgt := 31) hx hb dX10_share_26 (by decide) (fun c_12 => ?_) (fun c_12 => ?_)
      · obtain ⟨qin, hqin, rfl⟩ := ix_t (bI_n c_12) (by omega)
        refine lv_aload_n hx hb dX10_share_31 rfl (lv_at hl 0 rfl) ?_
        refine lv_iload_n hx hb dX10_share_32 rfl (lv_at hl 1 rfl) ?_
        refine lv_aload_n hx hb dX10_share_33 rfl (lv_at hl 0 rfl) ?_
        refine mo_gi hx hb hu hown hK hal hW hI.dS 19 (by decide) uF_X10_55 dX10_share_34 ?_
        have b_13 : S 19 0 ≤ 399 := hG.f 19 (mx := 399) (by decide)
        refine o_calll (o_runV (As := [.int (nI pin), .int (nI (S 19 0))]) (rest := []) ⟨hx, hb, hml, hown, hu⟩ (c_X10_keptOn l D cA B0 ad hal S (uI d0 40 0 33 (nI 0)) hI.1 pin (S 19 0) (by omega) (by omega)) (gV_X10_207 (fun _ h => h)) (n0 := 2) rfl (by decide +kernel) rfl ⟨Nat.le_of_ble_eq_true rfl, Nat.le_of_ble_eq_true rfl⟩ (o_recv hK hW hal.1 (kC_M _ _ _) rfl) hK hW hB hS hl.1 rfl (lv_room (Nat.le_of_ble_eq_true rfl)) ⟨Nat.zero_le _, Nat.zero_le _⟩ dX10_share_37) hS (fun r_15 d_14 q_16 H locs hW hS => ?_)
        obtain ⟨rfl, hq⟩ := q_16
        have hI := hI.trans hq
        refine lv_lstore (lv' := [(4, .long (sKept S pin (S 19 0))), (0, .ref (ad.1 40 0)), (1, .int (nI pin)), (2, .int (nI dayn)), (3, .int (nI qin))]) hx hb dX10_share_40 hl (by decide) rfl (fun ls hl => ?_)
        refine lv_lload hx hb dX10_share_42 (lv_at hl 0 rfl) ?_
        refine lv_lconst (v := 0) hx hb dX10_share_44 (by decide) ?_
        refine W.lcmp hx hb dX10_share_45 ?_
        refine lv_if_ne (tgt := 53) hx hb dX10_share_46 (by decide) (fun c_z => ?_) (fun c_z => ?_)
        · have hz : ¬ sKept S pin (S 19 0) = 0 := fun q => c_z ((lg_cmp_eq _ _).mpr q)
          have hpp := popN_pos hz
          refine lv_aload_n hx hb dX10_share_53 rfl (lv_at hl 1 rfl) ?_
          refine lv_iload_n hx hb dX10_share_54 rfl (lv_at hl 2 rfl) ?_
          refine lv_lload hx hb dX10_share_55 (lv_at hl 0 rfl) ?_
          refine lv_iload_n hx hb dX10_share_57 rfl (lv_at hl 3 rfl) ?_
          refine lv_iload_n hx hb dX10_share_58 rfl (lv_at hl 4 rfl) ?_
          refine o_calll (o_runV (As := [.int (nI pin), .long (sKept S pin (S 19 0)), .int (nI dayn), .int (nI qin)]) (rest := []) ⟨hx, hb, hml, hown, hu⟩ (c_X10_yes l D cA B0 ad hal S d_14 hI.1 pin (sKept S pin (S 19 0)) dayn qin (by omega) (by omega) (by omega)) (gV_X10_226 (fun _ h => h)) (n0 := 4) rfl (by decide +kernel) rfl ⟨Nat.le_of_ble_eq_true rfl, Nat.le_of_ble_eq_true rfl⟩ (o_recv hK hW hal.1 (kC_M _ _ _) rfl) hK hW hB hS hl.1 rfl (lv_room (Nat.le_of_ble_eq_true rfl)) ⟨Nat.zero_le _, Nat.zero_le _⟩ dX10_share_59) hS (fun r_18 d_17 q_19 H locs hW hS => ?_)
          obtain ⟨rfl, hq⟩ := q_19
          have hI := hI.trans hq
          refine o_calli (o_runS (As := [.long (sYes S pin (sKept S pin (S 19 0)) dayn qin)]) (rest := []) ⟨hx, hb, hml, hown, hu⟩ (c_X10_many l D cA B0 ad hal d_17 (sYes S pin (sKept S pin (S 19 0)) dayn qin)) (gS_X10_217 (fun _ h => h)) (n0 := 1) rfl (by decide +kernel) rfl ⟨Nat.le_of_ble_eq_true rfl, Nat.le_of_ble_eq_true rfl⟩ hK hW hB hS hl.1 rfl (lv_room (Nat.le_of_ble_eq_true rfl)) ⟨Nat.zero_le _, Nat.zero_le _⟩ dX10_share_62) hS (fun r_21 d_20 q_22 H locs hW hS => ?_)
          obtain ⟨rfl, rfl⟩ := q_22
          have b_23 := popN_le (sYes S pin (sKept S pin (S 19 0)) dayn qin)
          refine n_sipush (v := 1000) hx hb dX10_share_65 (by decide) ?_
          refine n_imul hx hb dX10_share_68 ?_
          refine lv_lload hx hb dX10_share_69 (lv_at hl 0 rfl) ?_
          refine o_calli (o_runS (As := [.long (sKept S pin (S 19 0))]) (rest := [.int (nI ((popN (sYes S pin (sKept S pin (S 19 0)) dayn qin)) * 1000))]) ⟨hx, hb, hml, hown, hu⟩ (c_X10_many l D cA B0 ad hal d_17 (sKept S pin (S 19 0))) (gS_X10_217 (fun _ h => h)) (n0 := 1) rfl (by decide +kernel) rfl ⟨Nat.le_of_ble_eq_true rfl, Nat.le_of_ble_eq_true rfl⟩ hK hW hB hS hl.1 rfl (lv_room (Nat.le_of_ble_eq_true rfl)) ⟨Nat.zero_le _, Nat.zero_le _⟩ dX10_share_71) hS (fun r_25 d_24 q_26 H locs hW hS => ?_)
          obtain ⟨rfl, rfl⟩ := q_26
          have b_27 := popN_le (sKept S pin (S 19 0))
          refine n_idiv hx hb (by omega) (by omega) (by omega) dX10_share_74 ?_
          exact o_iret hx hb hr hlocks hW hS (⟨by first | (simp only [aShare, ix_nI hpin (by omega), nx_nI (j := pin) (by omega), ix_nI hdayn (by omega), nx_nI (j := dayn) (by omega), ix_nI hqin (by omega), nx_nI (j := qin) (by omega), hz, eq_self, ↓reduceIte, Bool.false_eq_true]; done) | (simp only [aShare, ix_nI hpin (by omega), nx_nI (j := pin) (by omega), ix_nI hdayn (by omega), nx_nI (j := dayn) (by omega), ix_nI hqin (by omega), nx_nI (j := qin) (by omega), hz, eq_self, ↓reduceIte, Bool.false_eq_true]; rfl), hI.pub hR⟩) dX10_share_75
        · have hz : sKept S pin (S 19 0) = 0 := (lg_cmp_eq _ _).mp c_z
          refine lv_iconst (v := -1) hx hb dX10_share_49 (by decide) ?_
          refine lv_goto (tgt := 75) hx hb dX10_share_50 (by decide) ?_
          exact o_iret hx hb hr hlocks hW hS (⟨by first | (simp only [aShare, ix_nI hpin (by omega), nx_nI (j := pin) (by omega), ix_nI hdayn (by omega), nx_nI (j := dayn) (by omega), ix_nI hqin (by omega), nx_nI (j := qin) (by omega), hz, eq_self, ↓reduceIte, Bool.false_eq_true]; done) | (simp only [aShare, ix_nI hpin (by omega), nx_nI (j := pin) (by omega), ix_nI hdayn (by omega), nx_nI (j := dayn) (by omega), ix_nI hqin (by omega), nx_nI (j := qin) (by omega), hz, eq_self, ↓reduceIte, Bool.false_eq_true]; rfl), hI.pub hR⟩) dX10_share_75
      · refine lv_iconst (v := -1) hx hb dX10_share_29 (by decide) ?_
        exact o_iret hx hb hr hlocks hW hS (⟨by first | (simp only [aShare, ix_nI hpin (by omega), nx_nI (j := pin) (by omega), ix_nI hdayn (by omega), nx_nI (j := dayn) (by omega), bI_z c_12, eq_self, ↓reduceIte, Bool.false_eq_true]; done) | (simp only [aShare, ix_nI hpin (by omega), nx_nI (j := pin) (by omega), ix_nI hdayn (by omega), nx_nI (j := dayn) (by omega), bI_z c_12, eq_self, ↓reduceIte, Bool.false_eq_true]; rfl), hI.pub hR⟩) dX10_share_30
