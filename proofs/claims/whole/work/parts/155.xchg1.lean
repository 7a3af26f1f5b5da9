set_option maxHeartbeats 400000 in
set_option maxRecDepth 100000 in
theorem c_X9_bed (l : Launch) (D : va_G) (cA : Nat → ClassId) (B0 : Nat) (ad : kA) (hal : mAl ad) (S : sS) (sr : Nat → Int32) (d0 : kD) (hM : InvX cA ad S d0) (hR : RowX S sr d0)  : oM l yX9_bed wX9_bed 1 0 0 D cA B0 ad d0 ([.ref (ad.1 0 0)] : List Value) (oQi D cA B0 ad (fun r d1 => r = aBed S ∧ PX cA ad (nBed S) sr d0 d1)) := by
  refine o_ofW (cc := cX9_bed) (maxL := 1) (ret := some .int) (by decide) rfl (Nat.le_of_ble_eq_true rfl) ?_
  intro p e s m below meth c hx hb hr hml hts hown hlocks hnm hK hW hB hS ls hl
  have hu : ∀ w ∈ UW, w.before _ s = true := fun w h => hts w (uw_c w h)
  have hl : lv_has ls 1 [(0, .ref (ad.1 0 0))] := hl
  have hX := hM.1
  have hA := hX.1
  have hG := hX.2.2
  have hb7 : S 7 0 ≤ 8 := hG.f 7 (mx := 8) (by decide)
  have hb11 : S 11 0 ≤ 20 := hG.f 11 (mx := 20) (by decide)
  have hb18 : S 18 0 ≤ 40 := hG.f 18 (mx := 40) (by decide)
  have hI : XX cA ad S d0 d0 := XX.start hM
  have hb1 : S 1 0 ≤ 4 := hG.f 1 (mx := 4) (by decide)
  have hb19 : S 19 0 ≤ 399 := hG.f 19 (mx := 399) (by decide)
  have hb22 : S 22 0 ≤ 64 := hG.f 22 (mx := 64) (by decide)
  have hb25 : S 25 0 ≤ 4 := hG.f 25 (mx := 4) (by decide)
  have hb30 : S 30 0 ≤ 10 := hG.f 30 (mx := 10) (by decide)
  have hb32 : S 32 0 ≤ 64 := hG.f 32 (mx := 64) (by decide)
  refine lv_aload_n hx hb dX9_bed_0 rfl (lv_at hl 0 rfl) ?_
  refine x_gi hx hb hu in_X9 hown hK hW (hA.o (k := 0) rfl) (kX_0 _ _ _ _) rfl 13 (by decide) uF_X9_71 dX9_bed_1 ?_
  refine n_topi (y := nI (S 1 0)) (hI.1.1.2.1.beds) ?_
  have b_1 : S 1 0 ≤ 4 := hG.f 1 (mx := 4) (by decide)
  refine n_iconst (v := 4) hx hb dX9_bed_4 (by decide) ?_
  refine n_icmp_lt (tgt := 10) hx hb (by omega) (by omega) dX9_bed_5 (by decide) (fun c_b => ?_) (fun c_b => ?_)
  · have hne : ¬ S 1 0 = 4 := by omega
    refine lv_aload_n hx hb dX9_bed_10 rfl (lv_at hl 0 rfl) ?_
    refine lv_dup hx hb dX9_bed_11 rfl ?_
    refine x_gi hx hb hu in_X9 hown hK hW (hA.o (k := 0) rfl) (kX_0 _ _ _ _) rfl 13 (by decide) uF_X9_71 dX9_bed_12 ?_
    refine n_topi (y := nI (S 1 0)) (hI.1.1.2.1.beds) ?_
    have b_2 : S 1 0 ≤ 4 := hG.f 1 (mx := 4) (by decide)
    refine n_iconst (v := 1) hx hb dX9_bed_15 (by decide) ?_
    refine n_iadd hx hb dX9_bed_16 ?_
    refine x_pi hx hb hu in_X9 tyX9 tyX9_ok nmX9 hown hK hW hS (hA.o (k := 0) rfl) (kI_0 _ _ _ _) rfl 13 (ty := .int) (by decide +kernel) uF_X9_71 ⟨rfl, rfl⟩ dX9_bed_17 (fun H locs hW hS => ?_)
    refine lv_aload_n hx hb dX9_bed_20 rfl (lv_at hl 0 rfl) ?_
    refine x_gi hx hb hu in_X9 hown hK hW (hA.o (k := 0) rfl) (kX_0 _ _ _ _) rfl 13 (by decide) uF_X9_71 dX9_bed_21 ?_
    refine n_topi (y := nI (S 1 0 + 1)) (uI_s _ _ _ _ _) ?_
    refine n_iconst (v := 1) hx hb dX9_bed_24 (by decide) ?_
    refine n_isub hx hb (by omega) dX9_bed_25 ?_
    refine n_top (b := S 1 0) (by omega) ?_
    exact o_iret hx hb hr hlocks hW hS (⟨by first | (simp only [aBed, hne, eq_self, ↓reduceIte, Bool.false_eq_true]; done) | (simp only [aBed, hne, eq_self, ↓reduceIte, Bool.false_eq_true]; rfl), by simp only [nBed, hne, eq_self, ↓reduceIte, Bool.false_eq_true]; exact x_bed hM hR ((hG.b.up 1 0 (mx := 4) rfl (by omega)).g ⟨fun p hp => Nat.lt_succ_of_lt (hG.2.2.1 p hp), hG.2.2.2⟩)⟩) dX9_bed_26
  · have hne : S 1 0 = 4 := by omega
    refine lv_iconst (v := -1) hx hb dX9_bed_8 (by decide) ?_
    exact o_iret hx hb hr hlocks hW hS (⟨by first | (simp only [aBed, hne, eq_self, ↓reduceIte, Bool.false_eq_true]; done) | (simp only [aBed, hne, eq_self, ↓reduceIte, Bool.false_eq_true]; rfl), by simp only [nBed, hne, eq_self, ↓reduceIte, Bool.false_eq_true]; exact hI.pub hR⟩) dX9_bed_9

set_option maxHeartbeats 400000 in
set_option maxRecDepth 100000 in
theorem c_X9_as (l : Launch) (D : va_G) (cA : Nat → ClassId) (B0 : Nat) (ad : kA) (hal : mAl ad) (S : sS) (sr : Nat → Int32) (d0 : kD) (hM : InvX cA ad S d0) (hR : RowX S sr d0) (day : Int32) : oM l yX9_as wX9_as 3 0 0 D cA B0 ad d0 ([.ref (ad.1 0 0), .int day] : List Value) (oQi D cA B0 ad (fun r d1 => r = aAs S day ∧ PX cA ad (nAs S day) sr d0 d1)) := by
  refine o_ofW (cc := cX9_as) (maxL := 3) (ret := some .int) (by decide) rfl (Nat.le_of_ble_eq_true rfl) ?_
  intro p e s m below meth c hx hb hr hml hts hown hlocks hnm hK hW hB hS ls hl
  have hu : ∀ w ∈ UW, w.before _ s = true := fun w h => hts w (uw_c w h)
  have hl : lv_has ls 3 [(0, .ref (ad.1 0 0)), (1, .int day)] := hl
  have hX := hM.1
  have hA := hX.1
  have hG := hX.2.2
  have hb7 : S 7 0 ≤ 8 := hG.f 7 (mx := 8) (by decide)
  have hb11 : S 11 0 ≤ 20 := hG.f 11 (mx := 20) (by decide)
  have hb18 : S 18 0 ≤ 40 := hG.f 18 (mx := 40) (by decide)
  have hI : XX cA ad S d0 d0 := XX.start hM
  have hb1 : S 1 0 ≤ 4 := hG.f 1 (mx := 4) (by decide)
  have hb19 : S 19 0 ≤ 399 := hG.f 19 (mx := 399) (by decide)
  have hb22 : S 22 0 ≤ 64 := hG.f 22 (mx := 64) (by decide)
  have hb25 : S 25 0 ≤ 4 := hG.f 25 (mx := 4) (by decide)
  have hb30 : S 30 0 ≤ 10 := hG.f 30 (mx := 10) (by decide)
  have hb32 : S 32 0 ≤ 64 := hG.f 32 (mx := 64) (by decide)
  refine lv_iload_n hx hb dX9_as_0 rfl (lv_at hl 1 rfl) ?_
  refine o_calli (o_runS (As := [.int day]) (rest := []) ⟨hx, hb, hml, hown, hu⟩ (c_X9_isDay l D cA B0 ad hal d0 day) (gS_X9_81 (fun _ h => h)) (n0 := 1) rfl (by decide +kernel) rfl ⟨Nat.le_of_ble_eq_true rfl, Nat.le_of_ble_eq_true rfl⟩ hK hW hB hS hl.1 rfl (lv_room (Nat.le_of_ble_eq_true rfl)) ⟨Nat.zero_le _, Nat.zero_le _⟩ dX9_as_1) hS (fun r_2 d_1 q_3 H locs hW hS => ?_)
  obtain ⟨rfl, rfl⟩ := q_3
  refine lv_if_ne (tgt := 9) hx hb dX9_as_4 (by decide) (fun c_4 => ?_) (fun c_4 => ?_)
  · obtain ⟨dayn, hdayn, rfl⟩ := ix_t (bI_n c_4) (by omega)
    refine lv_aload_n hx hb dX9_as_9 rfl (lv_at hl 0 rfl) ?_
    refine x_gi hx hb hu in_X9 hown hK hW (hA.o (k := 0) rfl) (kX_0 _ _ _ _) rfl 15 (by decide) uF_X9_78 dX9_as_10 ?_
    refine n_topi (y := nI (S 19 0)) (hI.1.1.2.1.as) ?_
    have b_5 : S 19 0 ≤ 399 := hG.f 19 (mx := 399) (by decide)
    refine lv_istore_n (lv' := [(2, .int (nI (S 19 0))), (0, .ref (ad.1 0 0)), (1, .int (nI dayn))]) hx hb dX9_as_13 rfl hl (by decide) rfl (fun ls hl => ?_)
    refine lv_aload_n hx hb dX9_as_14 rfl (lv_at hl 1 rfl) ?_
    refine lv_iload_n hx hb dX9_as_15 rfl (lv_at hl 2 rfl) ?_
    refine x_pi hx hb hu in_X9 tyX9 tyX9_ok nmX9 hown hK hW hS (hA.o (k := 0) rfl) (kI_0 _ _ _ _) rfl 15 (ty := .int) (by decide +kernel) uF_X9_78 ⟨rfl, rfl⟩ dX9_as_16 (fun H locs hW hS => ?_)
    refine lv_iload_n hx hb dX9_as_19 rfl (lv_at hl 0 rfl) ?_
    exact o_iret hx hb hr hlocks hW hS (⟨by first | (simp only [aAs, ix_nI hdayn (by omega), nx_nI (j := dayn) (by omega), eq_self, ↓reduceIte, Bool.false_eq_true]; done) | (simp only [aAs, ix_nI hdayn (by omega), nx_nI (j := dayn) (by omega), eq_self, ↓reduceIte, Bool.false_eq_true]; rfl), by simp only [nAs, ix_nI hdayn (by omega), nx_nI (j := dayn) (by omega), eq_self, ↓reduceIte, Bool.false_eq_true]; exact x_as hM hR ((hG.b.up 19 0 (mx := 399) rfl (by omega)).g hG.2.2)⟩) dX9_as_20
  · refine lv_iconst (v := -1) hx hb dX9_as_7 (by decide) ?_
    exact o_iret hx hb hr hlocks hW hS (⟨by first | (simp only [aAs, bI_z c_4, eq_self, ↓reduceIte, Bool.false_eq_true]; done) | (simp only [aAs, bI_z c_4, eq_self, ↓reduceIte, Bool.false_eq_true]; rfl), by simp only [nAs, bI_z c_4, eq_self, ↓reduceIte, Bool.false_eq_true]; exact hI.pub hR⟩) dX9_as_8

set_option maxHeartbeats 400000 in
set_option maxRecDepth 100000 in
theorem c_X9_truth (l : Launch) (D : va_G) (cA : Nat → ClassId) (B0 : Nat) (ad : kA) (hal : mAl ad) (S : sS) (sr : Nat → Int32) (d0 : kD) (hM : InvX cA ad S d0) (hR : RowX S sr d0) (pi mq : Int32) : oM l yX9_truth wX9_truth 5 0 0 D cA B0 ad d0 ([.ref (ad.1 0 0), .int pi, .int mq] : List Value) (oQi D cA B0 ad (fun r d1 => r = aTruth S pi mq ∧ PX cA ad (nTruth S pi mq) sr d0 d1)) := by
  refine o_ofW (cc := cX9_truth) (maxL := 5) (ret := some .int) (by decide) rfl (Nat.le_of_ble_eq_true rfl) ?_
  intro p e s m below meth c hx hb hr hml hts hown hlocks hnm hK hW hB hS ls hl
  have hu : ∀ w ∈ UW, w.before _ s = true := fun w h => hts w (uw_c w h)
  have hl : lv_has ls 5 [(0, .ref (ad.1 0 0)), (1, .int pi), (2, .int mq)] := hl
  have hX := hM.1
  have hA := hX.1
  have hG := hX.2.2
  have hb7 : S 7 0 ≤ 8 := hG.f 7 (mx := 8) (by decide)
  have hb11 : S 11 0 ≤ 20 := hG.f 11 (mx := 20) (by decide)
  have hb18 : S 18 0 ≤ 40 := hG.f 18 (mx := 40) (by decide)
  have hI : XX cA ad S d0 d0 := XX.start hM
  have hb1 : S 1 0 ≤ 4 := hG.f 1 (mx := 4) (by decide)
  have hb19 : S 19 0 ≤ 399 := hG.f 19 (mx := 399) (by decide)
  have hb22 : S 22 0 ≤ 64 := hG.f 22 (mx := 64) (by decide)
  have hb25 : S 25 0 ≤ 4 := hG.f 25 (mx := 4) (by decide)
  have hb30 : S 30 0 ≤ 10 := hG.f 30 (mx := 10) (by decide)
  have hb32 : S 32 0 ≤ 64 := hG.f 32 (mx := 64) (by decide)
  refine lv_aload_n hx hb dX9_truth_0 rfl (lv_at hl 0 rfl) ?_
  refine lv_iload_n hx hb dX9_truth_1 rfl (lv_at hl 1 rfl) ?_
  refine o_callq (o_runV (As := [.int pi]) (rest := []) ⟨hx, hb, hml, hown, hu⟩ (c_X9_pierOf l D cA B0 ad hal S d0 hI.1.1 pi) (gV_X9_126 (fun _ h => h)) (n0 := 1) rfl (by decide +kernel) rfl ⟨Nat.le_of_ble_eq_true rfl, Nat.le_of_ble_eq_true rfl⟩ (o_recv hK hW (hA.o (k := 0) rfl) (kX_0 _ _ _ _) rfl) hK hW hB hS hl.1 rfl (lv_room (Nat.le_of_ble_eq_true rfl)) ⟨Nat.zero_le _, Nat.zero_le _⟩ dX9_truth_2) hS (fun r_2 d_1 q_3 H locs hW hS => ?_)
  obtain ⟨rfl, rfl⟩ := q_3
  cases o_4 : ix pi (S 7 0) with
  | false =>
    refine W.eq (g2 := F0 m 5 ls [.null]) rfl ?_
    refine lv_astore_nN (lv' := [(3, .null), (0, .ref (ad.1 0 0)), (1, .int pi), (2, .int mq)]) hx hb dX9_truth_5 rfl hl (by decide) rfl (fun ls hl => ?_)
    refine lv_aload_nN hx hb dX9_truth_6 rfl (lv_at hl 0 rfl) ?_
    refine lv_ifnullN (tgt := 17) hx hb dX9_truth_7 (by decide) ?_
    refine lv_iconst (v := -1) hx hb dX9_truth_17 (by decide) ?_
    exact o_iret hx hb hr hlocks hW hS (⟨by first | (simp only [aTruth, o_4, eq_self, ↓reduceIte, Bool.false_eq_true]; done) | (simp only [aTruth, o_4, eq_self, ↓reduceIte, Bool.false_eq_true]; rfl), by simp only [nTruth, o_4, eq_self, ↓reduceIte, Bool.false_eq_true]; exact hI.pub hR⟩) dX9_truth_18
  | true =>
    obtain ⟨pin, hpin, rfl⟩ := ix_t o_4 (by omega)
    refine W.eq (g2 := F0 m 5 ls [.ref (ad.1 6 pin)]) (by rw [if_pos rfl, nx_nI (by omega)]; rfl) ?_
    refine lv_astore_n (lv' := [(3, .ref (ad.1 6 pin)), (0, .ref (ad.1 0 0)), (1, .int (nI pin)), (2, .int mq)]) hx hb dX9_truth_5 rfl hl (by decide) rfl (fun ls hl => ?_)
    refine lv_aload_n hx hb dX9_truth_6 rfl (lv_at hl 0 rfl) ?_
    refine lv_ifnull hx hb dX9_truth_7 ?_
    refine lv_iload_n hx hb dX9_truth_10 rfl (lv_at hl 3 rfl) ?_
    refine o_calli (o_runS (As := [.int mq]) (rest := []) ⟨hx, hb, hml, hown, hu⟩ (c_X9_isMind l D cA B0 ad hal d0 mq) (gS_X9_138 (fun _ h => h)) (n0 := 1) rfl (by decide +kernel) rfl ⟨Nat.le_of_ble_eq_true rfl, Nat.le_of_ble_eq_true rfl⟩ hK hW hB hS hl.1 rfl (lv_room (Nat.le_of_ble_eq_true rfl)) ⟨Nat.zero_le _, Nat.zero_le _⟩ dX9_truth_11) hS (fun r_6 d_5 q_7 H locs hW hS => ?_)
    obtain ⟨rfl, rfl⟩ := q_7
    refine lv_if_ne (tgt := 19) hx hb dX9_truth_14 (by decide) (fun c_8 => ?_) (fun c_8 => ?_)
    · obtain ⟨mqn, hmqn, rfl⟩ := ix_t (bI_n c_8) (by omega)
      refine lv_aload_n hx hb dX9_truth_19 rfl (lv_at hl 0 rfl) ?_
      refine x_gi hx hb hu in_X5 hown hK hW (hA.pier (by omega)) (kX_6 _ _ _ _) rfl 10 (by decide) uF_X9_294 dX9_truth_20 ?_
      refine n_topi (y := nI (S 26 pin)) (hI.1.1.2.1.truth (by omega)) ?_
      have b_9 : S 26 pin ≤ 63 := hG.a 26 pin (n := 8) (mx := 63) (by decide) (by omega)
      refine lv_istore (lv' := [(4, .int (nI (S 26 pin))), (3, .ref (ad.1 6 pin)), (0, .ref (ad.1 0 0)), (1, .int (nI pin)), (2, .int (nI mqn))]) hx hb dX9_truth_23 hl (by decide) rfl (fun ls hl => ?_)
      refine lv_aload_n hx hb dX9_truth_25 rfl (lv_at hl 1 rfl) ?_
      refine lv_iload_n hx hb dX9_truth_26 rfl (lv_at hl 4 rfl) ?_
      refine x_pi hx hb hu in_X5 tyX5 tyX5_ok nmX5 hown hK hW hS (hA.pier (by omega)) (kI_6 _ _ _ _) rfl 10 (ty := .int) (by decide +kernel) uF_X9_294 ⟨rfl, rfl⟩ dX9_truth_27 (fun H locs hW hS => ?_)
      refine lv_iload hx hb dX9_truth_30 (lv_at hl 0 rfl) ?_
      exact o_iret hx hb hr hlocks hW hS (⟨by first | (simp only [aTruth, ix_nI hpin (by omega), nx_nI (j := pin) (by omega), ix_nI hmqn (by omega), nx_nI (j := mqn) (by omega), eq_self, ↓reduceIte, Bool.false_eq_true]; done) | (simp only [aTruth, ix_nI hpin (by omega), nx_nI (j := pin) (by omega), ix_nI hmqn (by omega), nx_nI (j := mqn) (by omega), eq_self, ↓reduceIte, Bool.false_eq_true]; rfl), by simp only [nTruth, ix_nI hpin (by omega), nx_nI (j := pin) (by omega), ix_nI hmqn (by omega), nx_nI (j := mqn) (by omega), eq_self, ↓reduceIte, Bool.false_eq_true]; exact x_tru hM hR hpin ((hG.b.up 26 _ (mx := 63) rfl (by omega)).g hG.2.2)⟩) dX9_truth_32
    · refine lv_iconst (v := -1) hx hb dX9_truth_17 (by decide) ?_
      exact o_iret hx hb hr hlocks hW hS (⟨by first | (simp only [aTruth, ix_nI hpin (by omega), nx_nI (j := pin) (by omega), bI_z c_8, eq_self, ↓reduceIte, Bool.false_eq_true]; done) | (simp only [aTruth, ix_nI hpin (by omega), nx_nI (j := pin) (by omega), bI_z c_8, eq_self, ↓reduceIte, Bool.false_eq_true]; rfl), by simp only [nTruth, ix_nI hpin (by omega), nx_nI (j := pin) (by omega), bI_z c_8, eq_self, ↓reduceIte, Bool.false_eq_true]; exact hI.pub hR⟩) dX9_truth_18

set_option maxHeartbeats 400000 in
set_option maxRecDepth 100000 in
theorem c_X9_back (l : Launch) (D : va_G) (cA : Nat → ClassId) (B0 : Nat) (ad : kA) (hal : mAl ad) (S : sS) (sr : Nat → Int32) (d0 : kD) (hM : InvX cA ad S d0) (hR : RowX S sr d0) (li day : Int32) : oM l yX9_back wX9_back 5 0 0 D cA B0 ad d0 ([.ref (ad.1 0 0), .int li, .int day] : List Value) (oQi D cA B0 ad (fun r d1 => r = aBack S li day ∧ PX cA ad (nBack S li day) sr d0 d1)) := by
  refine o_ofW (cc := cX9_back) (maxL := 4) (ret := some .boolean) (by decide) rfl (Nat.le_of_ble_eq_true rfl) ?_
  intro p e s m below meth c hx hb hr hml hts hown hlocks hnm hK hW hB hS ls hl
  have hu : ∀ w ∈ UW, w.before _ s = true := fun w h => hts w (uw_c w h)
  have hl : lv_has ls 4 [(0, .ref (ad.1 0 0)), (1, .int li), (2, .int day)] := hl
  have hX := hM.1
  have hA := hX.1
  have hG := hX.2.2
  have hb7 : S 7 0 ≤ 8 := hG.f 7 (mx := 8) (by decide)
  have hb11 : S 11 0 ≤ 20 := hG.f 11 (mx := 20) (by decide)
  have hb18 : S 18 0 ≤ 40 := hG.f 18 (mx := 40) (by decide)
  have hI : XX cA ad S d0 d0 := XX.start hM
  have hb1 : S 1 0 ≤ 4 := hG.f 1 (mx := 4) (by decide)
  have hb19 : S 19 0 ≤ 399 := hG.f 19 (mx := 399) (by decide)
  have hb22 : S 22 0 ≤ 64 := hG.f 22 (mx := 64) (by decide)
  have hb25 : S 25 0 ≤ 4 := hG.f 25 (mx := 4) (by decide)
  have hb30 : S 30 0 ≤ 10 := hG.f 30 (mx := 10) (by decide)
  have hb32 : S 32 0 ≤ 64 := hG.f 32 (mx := 64) (by decide)
  refine lv_aload_n hx hb dX9_back_0 rfl (lv_at hl 0 rfl) ?_
  refine lv_iload_n hx hb dX9_back_1 rfl (lv_at hl 1 rfl) ?_
  refine o_callq (o_runV (As := [.int li]) (rest := []) ⟨hx, hb, hml, hown, hu⟩ (c_X9_lookOf l D cA B0 ad hal S d0 hI.1.1 li) (gV_X9_222 (fun _ h => h)) (n0 := 1) rfl (by decide +kernel) rfl ⟨Nat.le_of_ble_eq_true rfl, Nat.le_of_ble_eq_true rfl⟩ (o_recv hK hW (hA.o (k := 0) rfl) (kX_0 _ _ _ _) rfl) hK hW hB hS hl.1 rfl (lv_room (Nat.le_of_ble_eq_true rfl)) ⟨Nat.zero_le _, Nat.zero_le _⟩ dX9_back_2) hS (fun r_2 d_1 q_3 H locs hW hS => ?_)
  obtain ⟨rfl, rfl⟩ := q_3
  cases o_4 : ix li (S 18 0) with
  | false =>
    refine W.eq (g2 := F0 m 5 ls [.null]) rfl ?_
    refine lv_astore_nN (lv' := [(3, .null), (0, .ref (ad.1 0 0)), (1, .int li), (2, .int day)]) hx hb dX9_back_5 rfl hl (by decide) rfl (fun ls hl => ?_)
    refine lv_aload_nN hx hb dX9_back_6 rfl (lv_at hl 0 rfl) ?_
    refine lv_ifnullN (tgt := 17) hx hb dX9_back_7 (by decide) ?_
    refine n_iconst (v := 0) hx hb dX9_back_17 (by decide) ?_
    exact o_zret hx hb hr hlocks (by first | rfl | exact z_bI _ | (split <;> first | rfl | (split <;> rfl))) hW hS (⟨by first | (simp only [aBack, o_4, eq_self, ↓reduceIte, Bool.false_eq_true]; done) | (simp only [aBack, o_4, eq_self, ↓reduceIte, Bool.false_eq_true]; rfl), by simp only [nBack, o_4, eq_self, ↓reduceIte, Bool.false_eq_true]; exact hI.pub hR⟩) dX9_back_18
  | true =>
    obtain ⟨lin, hlin, rfl⟩ := ix_t o_4 (by omega)
    refine W.eq (g2 := F0 m 5 ls [.ref (ad.1 8 lin)]) (by rw [if_pos rfl, nx_nI (by omega)]; rfl) ?_
    refine lv_astore_n (lv' := [(3, .ref (ad.1 8 lin)), (0, .ref (ad.1 0 0)), (1, .int (nI lin)), (2, .int day)]) hx hb dX9_back_5 rfl hl (by decide) rfl (fun ls hl => ?_)
    refine lv_aload_n hx hb dX9_back_6 rfl (lv_at hl 0 rfl) ?_
    refine lv_ifnull hx hb dX9_back_7 ?_
    refine lv_iload_n hx hb dX9_back_10 rfl (lv_at hl 3 rfl) ?_
    refine o_calli (o_runS (As := [.int day]) (rest := []) ⟨hx, hb, hml, hown, hu⟩ (c_X9_isDay l D cA B0 ad hal d0 day) (gS_X9_81 (fun _ h => h)) (n0 := 1) rfl (by decide +kernel) rfl ⟨Nat.le_of_ble_eq_true rfl, Nat.le_of_ble_eq_true rfl⟩ hK hW hB hS hl.1 rfl (lv_room (Nat.le_of_ble_eq_true rfl)) ⟨Nat.zero_le _, Nat.zero_le _⟩ dX9_back_11) hS (fun r_6 d_5 q_7 H locs hW hS => ?_)
    obtain ⟨rfl, rfl⟩ := q_7
    refine lv_if_ne (tgt := 19) hx hb dX9_back_14 (by decide) (fun c_8 => ?_) (fun c_8 => ?_)
    · obtain ⟨dayn, hdayn, rfl⟩ := ix_t (bI_n c_8) (by omega)
      refine lv_aload_n hx hb dX9_back_19 rfl (lv_at hl 0 rfl) ?_
      refine lv_iload_n hx hb dX9_back_20 rfl (lv_at hl 3 rfl) ?_
      refine x_pi hx hb hu in_X2 tyX2 tyX2_ok nmX2 hown hK hW hS (hA.look (by omega)) (kI_8 _ _ _ _) rfl 5 (ty := .int) (by decide +kernel) uF_X9_226 ⟨rfl, rfl⟩ dX9_back_21 (fun H locs hW hS => ?_)
      refine n_iconst (v := 1) hx hb dX9_back_24 (by decide) ?_
      exact o_zret hx hb hr hlocks (by first | rfl | exact z_bI _ | (split <;> first | rfl | (split <;> rfl))) hW hS (⟨by first | (simp only [aBack, ix_nI hlin (by omega), nx_nI (j := lin) (by omega), ix_nI hdayn (by omega), nx_nI (j := dayn) (by omega), eq_self, ↓reduceIte, Bool.false_eq_true]; done) | (simp only [aBack, ix_nI hlin (by omega), nx_nI (j := lin) (by omega), ix_nI hdayn (by omega), nx_nI (j := dayn) (by omega), eq_self, ↓reduceIte, Bool.false_eq_true]; rfl), by simp only [nBack, ix_nI hlin (by omega), nx_nI (j := lin) (by omega), ix_nI hdayn (by omega), nx_nI (j := dayn) (by omega), eq_self, ↓reduceIte, Bool.false_eq_true]; exact x_bck hM hR ((hG.b.up 17 _ (mx := 400) rfl (by omega)).g hG.2.2)⟩) dX9_back_25
    · refine n_iconst (v := 0) hx hb dX9_back_17 (by decide) ?_
      exact o_zret hx hb hr hlocks (by first | rfl | exact z_bI _ | (split <;> first | rfl | (split <;> rfl))) hW hS (⟨by first | (simp only [aBack, ix_nI hlin (by omega), nx_nI (j := lin) (by omega), bI_z c_8, eq_self, ↓reduceIte, Bool.false_eq_true]; done) | (simp only [aBack, ix_nI hlin (by omega), nx_nI (j := lin) (by omega), bI_z c_8, eq_self, ↓reduceIte, Bool.false_eq_true]; rfl), by simp only [nBack, ix_nI hlin (by omega), nx_nI (j := lin) (by omega), bI_z c_8, eq_self, ↓reduceIte, Bool.false_eq_true]; exact hI.pub hR⟩) dX9_back_18

set_option maxHeartbeats 400000 in
set_option maxRecDepth 100000 in
theorem c_X9_prove (l : Launch) (D : va_G) (cA : Nat → ClassId) (B0 : Nat) (ad : kA) (hal : mAl ad) (S : sS) (sr : Nat → Int32) (d0 : kD) (hM : InvX cA ad S d0) (hR : RowX S sr d0) (mq li : Int32) : oM l yX9_prove wX9_prove 3 0 0 D cA B0 ad d0 ([.ref (ad.1 0 0), .int mq, .int li] : List Value) (oQi D cA B0 ad (fun r d1 => r = aProve S mq li ∧ PX cA ad (nProve S mq li) sr d0 d1)) := by
  refine o_ofW (cc := cX9_prove) (maxL := 3) (ret := some .int) (by decide) rfl (Nat.le_of_ble_eq_true rfl) ?_
  intro p e s m below meth c hx hb hr hml hts hown hlocks hnm hK hW hB hS ls hl
  have hu : ∀ w ∈ UW, w.before _ s = true := fun w h => hts w (uw_c w h)
  have hl : lv_has ls 3 [(0, .ref (ad.1 0 0)), (1, .int mq), (2, .int li)] := hl
  have hX := hM.1
  have hA := hX.1
  have hG := hX.2.2
  have hb7 : S 7 0 ≤ 8 := hG.f 7 (mx := 8) (by decide)
  have hb11 : S 11 0 ≤ 20 := hG.f 11 (mx := 20) (by decide)
  have hb18 : S 18 0 ≤ 40 := hG.f 18 (mx := 40) (by decide)
  have hI : XX cA ad S d0 d0 := XX.start hM
  have hb1 : S 1 0 ≤ 4 := hG.f 1 (mx := 4) (by decide)
  have hb19 : S 19 0 ≤ 399 := hG.f 19 (mx := 399) (by decide)
  have hb22 : S 22 0 ≤ 64 := hG.f 22 (mx := 64) (by decide)
  have hb25 : S 25 0 ≤ 4 := hG.f 25 (mx := 4) (by decide)
  have hb30 : S 30 0 ≤ 10 := hG.f 30 (mx := 10) (by decide)
  have hb32 : S 32 0 ≤ 64 := hG.f 32 (mx := 64) (by decide)
  refine lv_iload_n hx hb dX9_prove_0 rfl (lv_at hl 1 rfl) ?_
  refine o_calli (o_runS (As := [.int mq]) (rest := []) ⟨hx, hb, hml, hown, hu⟩ (c_X9_isMind l D cA B0 ad hal d0 mq) (gS_X9_138 (fun _ h => h)) (n0 := 1) rfl (by decide +kernel) rfl ⟨Nat.le_of_ble_eq_true rfl, Nat.le_of_ble_eq_true rfl⟩ hK hW hB hS hl.1 rfl (lv_room (Nat.le_of_ble_eq_true rfl)) ⟨Nat.zero_le _, Nat.zero_le _⟩ dX9_prove_1) hS (fun r_2 d_1 q_3 H locs hW hS => ?_)
  obtain ⟨rfl, rfl⟩ := q_3
  refine lv_if_eq (tgt := 29) hx hb dX9_prove_4 (by decide) (fun c_4 => ?_) (fun c_4 => ?_)
  · refine lv_iconst (v := -1) hx hb dX9_prove_29 (by decide) ?_
    exact o_iret hx hb hr hlocks hW hS (⟨by first | (simp only [aProve, bI_z c_4, eq_self, ↓reduceIte, Bool.false_eq_true]; done) | (simp only [aProve, bI_z c_4, eq_self, ↓reduceIte, Bool.false_eq_true]; rfl), by simp only [nProve, bI_z c_4, eq_self, ↓reduceIte, Bool.false_eq_true]; exact hI.pub hR⟩) dX9_prove_30
  · obtain ⟨mqn, hmqn, rfl⟩ := ix_t (bI_n c_4) (by omega)
    refine lv_iload_n hx hb dX9_prove_7 rfl (lv_at hl 2 rfl) ?_
    refine n_iconst (v := 0) hx hb dX9_prove_8 (by decide) ?_
    refine n_bipush (v := 39) hx hb dX9_prove_9 (by decide) ?_
    refine o_calli (o_runS (As := [.int li, .int (nI 0), .int (nI 39)]) (rest := []) ⟨hx, hb, hml, hown, hu⟩ (c_X9_within l D cA B0 ad hal d0 li (nI 0) (nI 39)) (gS_X9_85 (fun _ h => h)) (n0 := 3) rfl (by decide +kernel) rfl ⟨Nat.le_of_ble_eq_true rfl, Nat.le_of_ble_eq_true rfl⟩ hK hW hB hS hl.1 rfl (lv_room (Nat.le_of_ble_eq_true rfl)) ⟨Nat.zero_le _, Nat.zero_le _⟩ dX9_prove_11) hS (fun r_6 d_5 q_7 H locs hW hS => ?_)
    obtain ⟨rfl, rfl⟩ := q_7
    refine n_topi (y := bI (ix li 40)) (in_ixc 40 rfl (by decide)) ?_
    refine lv_if_eq (tgt := 29) hx hb dX9_prove_14 (by decide) (fun c_8 => ?_) (fun c_8 => ?_)
    · refine lv_iconst (v := -1) hx hb dX9_prove_29 (by decide) ?_
      exact o_iret hx hb hr hlocks hW hS (⟨by first | (simp only [aProve, ix_nI hmqn (by omega), nx_nI (j := mqn) (by omega), bI_z c_8, eq_self, ↓reduceIte, Bool.false_eq_true]; done) | (simp only [aProve, ix_nI hmqn (by omega), nx_nI (j := mqn) (by omega), bI_z c_8, eq_self, ↓reduceIte, Bool.false_eq_true]; rfl), by simp only [nProve, ix_nI hmqn (by omega), nx_nI (j := mqn) (by omega), bI_z c_8, eq_self, ↓reduceIte, Bool.false_eq_true]; exact hI.pub hR⟩) dX9_prove_30
    · obtain ⟨lin, hlin, rfl⟩ := ix_t (bI_n c_8) (by omega)
      refine lv_aload_n hx hb dX9_prove_17 rfl (lv_at hl 0 rfl) ?_
      refine x_gr hx hb hu in_X9 hown hK hW (hA.o (k := 0) rfl) (kX_0 _ _ _ _) rfl 7 (by decide) uF_X9_44 (hA.f 7 (k := 13) (i := 0) (by decide) (hA.o (k := 13) rfl)) dX9_prove_18 ?_
      refine x_gi hx hb hu in_X6 hown hK hW (hA.o (k := 13) rfl) (kX_13 _ _ _ _) rfl 2 (by decide) uF_X9_274 dX9_prove_21 ?_
      refine n_topi (y := nI (S 22 0)) (hR.2.1) ?_
      refine n_bipush (v := 64) hx hb dX9_prove_24 (by decide) ?_
      refine n_icmp_lt (tgt := 31) hx hb (by omega) (by omega) dX9_prove_26 (by decide) (fun c_b => ?_) (fun c_b => ?_)
      · have hne : ¬ S 22 0 = 64 := by omega
        have hT := hR.1
        have hSp := hR.2
        have hI := hI.r
        refine lv_aload_n hx hb dX9_prove_31 rfl (lv_at hl 0 rfl) ?_
        refine x_gr hx hb hu in_X9 hown hK hW (hA.o (k := 0) rfl) (kX_0 _ _ _ _) rfl 7 (by decide) uF_X9_44 (hA.f 7 (k := 13) (i := 0) (by decide) (hA.o (k := 13) rfl)) dX9_prove_32 ?_
        refine lv_iload_n hx hb dX9_prove_35 rfl (lv_at hl 1 rfl) ?_
        refine lv_iload_n hx hb dX9_prove_36 rfl (lv_at hl 2 rfl) ?_
        refine o_callv (o_runV (As := [.int (nI mqn), .int (nI lin)]) (rest := []) ⟨hx, hb, hml, hown, hu⟩ (c_X6_add l D cA B0 ad hal S d0 hI.1.1 (S 22 0) mqn lin (by omega) hR.2.1) (gV_X9_277 (fun _ h => h)) (n0 := 2) rfl (by decide +kernel) rfl ⟨Nat.le_of_ble_eq_true rfl, Nat.le_of_ble_eq_true rfl⟩ (o_recv hK hW (hA.o (k := 13) rfl) (kX_13 _ _ _ _) rfl) hK hW hB hS hl.1 rfl (lv_room (Nat.le_of_ble_eq_true rfl)) ⟨Nat.zero_le _, Nat.zero_le _⟩ dX9_prove_37) hS (fun d_9 q_11 H locs hW hS => ?_)
        subst q_11
        have hI := hI.k12 14 0 (S 22 0) (nI mqn) (by decide)
        have hI := hI.k12 15 0 (S 22 0) (nI lin) (by decide)
        have hI := hI.k12 13 0 2 (nI (S 22 0 + 1)) (by decide)
        have hT := ((hT.k 14 0 (S 22 0) (nI mqn) (by decide)).k 15 0 (S 22 0) (nI lin) (by decide)).k 13 0 2 (nI (S 22 0 + 1)) (by decide)
        have hSp := hSp.add (c := (S 22 0)) (m := mqn) (l := lin) (by omega)
        refine lv_aload_n hx hb dX9_prove_40 rfl (lv_at hl 0 rfl) ?_
        refine x_gr hx hb hu in_X9 hown hK hW (hA.o (k := 0) rfl) (kX_0 _ _ _ _) rfl 7 (by decide) uF_X9_44 (hA.f 7 (k := 13) (i := 0) (by decide) (hA.o (k := 13) rfl)) dX9_prove_41 ?_
        refine x_gi hx hb hu in_X6 hown hK hW (hA.o (k := 13) rfl) (kX_13 _ _ _ _) rfl 2 (by decide) uF_X9_274 dX9_prove_44 ?_
        refine n_topi (y := nI (S 22 0 + 1)) (hSp.1) ?_
        exact o_iret hx hb hr hlocks hW hS (⟨by first | (simp only [aProve, ix_nI hmqn (by omega), nx_nI (j := mqn) (by omega), ix_nI hlin (by omega), nx_nI (j := lin) (by omega), hne, eq_self, ↓reduceIte, Bool.false_eq_true]; done) | (simp only [aProve, ix_nI hmqn (by omega), nx_nI (j := mqn) (by omega), ix_nI hlin (by omega), nx_nI (j := lin) (by omega), hne, eq_self, ↓reduceIte, Bool.false_eq_true]; rfl), by simp only [nProve, ix_nI hmqn (by omega), nx_nI (j := mqn) (by omega), ix_nI hlin (by omega), nx_nI (j := lin) (by omega), hne, eq_self, ↓reduceIte, Bool.false_eq_true]; exact x_prv hI hT hSp ((((hG.b.up 20 _ (mx := 63) rfl (by omega)).up 21 _ (mx := 39) rfl (by omega)).up 22 0 (mx := 64) rfl (by omega)).g hG.2.2)⟩) dX9_prove_47
      · have hne : S 22 0 = 64 := by omega
        refine lv_iconst (v := -1) hx hb dX9_prove_29 (by decide) ?_
        exact o_iret hx hb hr hlocks hW hS (⟨by first | (simp only [aProve, ix_nI hmqn (by omega), nx_nI (j := mqn) (by omega), ix_nI hlin (by omega), nx_nI (j := lin) (by omega), hne, eq_self, ↓reduceIte, Bool.false_eq_true]; done) | (simp only [aProve, ix_nI hmqn (by omega), nx_nI (j := mqn) (by omega), ix_nI hlin (by omega), nx_nI (j := lin) (by omega), hne, eq_self, ↓reduceIte, Bool.false_eq_true]; rfl), by simp only [nProve, ix_nI hmqn (by omega), nx_nI (j := mqn) (by omega), ix_nI hlin (by omega), nx_nI (j := lin) (by omega), hne, eq_self, ↓reduceIte, Bool.false_eq_true]; exact hI.pub hR⟩) dX9_prove_30
