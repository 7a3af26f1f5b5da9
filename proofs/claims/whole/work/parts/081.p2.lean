set_option maxHeartbeats 400000 in
set_option maxRecDepth 100000 in
theorem c_X10_bed (l : Launch) (D : va_G) (cA : Nat → ClassId) (B0 : Nat) (ad : kA) (hal : mAl ad) (S : sS) (sr : Nat → Int32) (d0 : kD) (hM : InvM S d0) (hR : RowM S sr d0)  : oM l yX10_bed wX10_bed 2 0 0 D cA B0 ad d0 ([.ref (ad.1 40 0)] : List Value) (oQi D cA B0 ad (fun r d1 => r = aBed S ∧ PI (nBed S) sr d0 d1)) := by
  refine o_ofW (cc := cX10_bed) (maxL := 1) (ret := some .int) (by decide) rfl (Nat.le_of_ble_eq_true rfl) ?_
  intro p e s m below meth c hx hb hr hml hts hown hlocks hnm hK hW hB hS ls hl
  have hu : ∀ w ∈ UW, w.before _ s = true := fun w h => hts w (uw_c w h)
  have hl : lv_has ls 1 [(0, .ref (ad.1 40 0))] := hl
  refine lv_aload_n hx hb dX10_bed_0 rfl (lv_at hl 0 rfl) ?_
  refine n_iconst (v := 0) hx hb dX10_bed_1 (by decide) ?_
  refine mo_pi hx hb hu hown hK hal hW hS 33 (by decide +kernel) uF_X10_113 dX10_bed_2 (fun H locs hW hS => ?_)
  have hD : dS S (uI d0 40 0 33 (nI 0)) := (hM.thr 33 _ rfl).1
  have hG : sG S := hM.2.1
  have hb1 : S 1 0 ≤ 4 := hG.f 1 (mx := 4) (by decide)
  have hb7 : S 7 0 ≤ 8 := hG.f 7 (mx := 8) (by decide)
  have hb11 : S 11 0 ≤ 20 := hG.f 11 (mx := 20) (by decide)
  have hb18 : S 18 0 ≤ 40 := hG.f 18 (mx := 40) (by decide)
  have hb19 : S 19 0 ≤ 399 := hG.f 19 (mx := 399) (by decide)
  have hb22 : S 22 0 ≤ 64 := hG.f 22 (mx := 64) (by decide)
  have hb25 : S 25 0 ≤ 4 := hG.f 25 (mx := 4) (by decide)
  have hb30 : S 30 0 ≤ 10 := hG.f 30 (mx := 10) (by decide)
  have hb32 : S 32 0 ≤ 64 := hG.f 32 (mx := 64) (by decide)
  refine lv_aload_n hx hb dX10_bed_5 rfl (lv_at hl 0 rfl) ?_
  refine mo_gi hx hb hu hown hK hal hW hD 1 (by decide) uF_X10_142 dX10_bed_6 ?_
  have b_1 : S 1 0 ≤ 4 := hG.f 1 (mx := 4) (by decide)
  refine n_iconst (v := 4) hx hb dX10_bed_9 (by decide) ?_
  refine n_icmp_ne (tgt := 15) hx hb (by omega) (by omega) dX10_bed_10 (by decide) (fun c_2 => ?_) (fun c_2 => ?_)
  · refine lv_aload_n hx hb dX10_bed_15 rfl (lv_at hl 0 rfl) ?_
    refine lv_dup hx hb dX10_bed_16 rfl ?_
    refine mo_gi hx hb hu hown hK hal hW hD 1 (by decide) uF_X10_142 dX10_bed_17 ?_
    have b_3 : S 1 0 ≤ 4 := hG.f 1 (mx := 4) (by decide)
    refine n_iconst (v := 1) hx hb dX10_bed_20 (by decide) ?_
    refine n_iadd hx hb dX10_bed_21 ?_
    refine mo_pi hx hb hu hown hK hal hW hS 1 (by decide +kernel) uF_X10_142 dX10_bed_22 (fun H locs hW hS => ?_)
    have hD := hD.putF 1 ((S 1 0) + 1) rfl
    refine lv_aload_n hx hb dX10_bed_25 rfl (lv_at hl 0 rfl) ?_
    refine mo_gi hx hb hu hown hK hal hW hD 1 (by decide) uF_X10_142 dX10_bed_26 ?_
    refine n_top (b := (S 1 0) + 1) rfl ?_
    refine n_iconst (v := 1) hx hb dX10_bed_29 (by decide) ?_
    refine n_isub hx hb (by omega) dX10_bed_30 ?_
    exact o_iret hx hb hr hlocks hW hS (⟨by first | (simp only [aBed, c_2, eq_self, ↓reduceIte, Bool.false_eq_true]; done) | (simp only [aBed, c_2, eq_self, ↓reduceIte, Bool.false_eq_true]; rfl), by rw [show nBed S = upS S 1 0 ((S 1 0) + 1) from by first | (simp only [nBed, c_2, eq_self, ↓reduceIte, Bool.false_eq_true]; done) | (simp only [nBed, c_2, eq_self, ↓reduceIte, Bool.false_eq_true]; rfl)]; exact ⟨hM.chg hD ((hG.b.up 1 0 (mx := 4) rfl (by omega)).g ⟨fun p hp => Nat.lt_succ_of_lt (hG.2.2.1 p hp), hG.2.2.2⟩) rfl rfl rfl rfl rfl (fun p hp m n => sHE_cg (S := S) (S' := upS S 1 0 ((S 1 0) + 1)) rfl rfl rfl rfl rfl rfl rfl m n) (fun l hl => ⟨rfl, rfl, rfl, rfl⟩) (Nat.le_refl _) (Nat.le_refl _), hR, (((FrP.refl d0).stI _ _ _ _ (by omega)).stI _ _ _ _ (by omega))⟩⟩) dX10_bed_31
  · refine lv_iconst (v := -1) hx hb dX10_bed_13 (by decide) ?_
    exact o_iret hx hb hr hlocks hW hS (⟨by first | (simp only [aBed, c_2, eq_self, ↓reduceIte, Bool.false_eq_true]; done) | (simp only [aBed, c_2, eq_self, ↓reduceIte, Bool.false_eq_true]; rfl), by rw [show nBed S = S from by first | (simp only [nBed, c_2, eq_self, ↓reduceIte, Bool.false_eq_true]; done) | (simp only [nBed, c_2, eq_self, ↓reduceIte, Bool.false_eq_true]; rfl)]; exact (MI.start (hM.thr 33 _ rfl)).pub hR⟩) dX10_bed_14

set_option maxHeartbeats 400000 in
set_option maxRecDepth 100000 in
theorem c_X10_as (l : Launch) (D : va_G) (cA : Nat → ClassId) (B0 : Nat) (ad : kA) (hal : mAl ad) (S : sS) (sr : Nat → Int32) (d0 : kD) (hM : InvM S d0) (hR : RowM S sr d0) (day : Int32) : oM l yX10_as wX10_as 3 0 0 D cA B0 ad d0 ([.ref (ad.1 40 0), .int day] : List Value) (oQi D cA B0 ad (fun r d1 => r = aAs S day ∧ PI (nAs S day) sr d0 d1)) := by
  refine o_ofW (cc := cX10_as) (maxL := 3) (ret := some .int) (by decide) rfl (Nat.le_of_ble_eq_true rfl) ?_
  intro p e s m below meth c hx hb hr hml hts hown hlocks hnm hK hW hB hS ls hl
  have hu : ∀ w ∈ UW, w.before _ s = true := fun w h => hts w (uw_c w h)
  have hl : lv_has ls 3 [(0, .ref (ad.1 40 0)), (1, .int day)] := hl
  refine lv_aload_n hx hb dX10_as_0 rfl (lv_at hl 0 rfl) ?_
  refine n_iconst (v := 0) hx hb dX10_as_1 (by decide) ?_
  refine mo_pi hx hb hu hown hK hal hW hS 33 (by decide +kernel) uF_X10_113 dX10_as_2 (fun H locs hW hS => ?_)
  have hD : dS S (uI d0 40 0 33 (nI 0)) := (hM.thr 33 _ rfl).1
  have hG : sG S := hM.2.1
  have hb1 : S 1 0 ≤ 4 := hG.f 1 (mx := 4) (by decide)
  have hb7 : S 7 0 ≤ 8 := hG.f 7 (mx := 8) (by decide)
  have hb11 : S 11 0 ≤ 20 := hG.f 11 (mx := 20) (by decide)
  have hb18 : S 18 0 ≤ 40 := hG.f 18 (mx := 40) (by decide)
  have hb19 : S 19 0 ≤ 399 := hG.f 19 (mx := 399) (by decide)
  have hb22 : S 22 0 ≤ 64 := hG.f 22 (mx := 64) (by decide)
  have hb25 : S 25 0 ≤ 4 := hG.f 25 (mx := 4) (by decide)
  have hb30 : S 30 0 ≤ 10 := hG.f 30 (mx := 10) (by decide)
  have hb32 : S 32 0 ≤ 64 := hG.f 32 (mx := 64) (by decide)
  refine lv_iload_n hx hb dX10_as_5 rfl (lv_at hl 1 rfl) ?_
  refine o_calli (o_runS (As := [.int day]) (rest := []) ⟨hx, hb, hml, hown, hu⟩ (c_X10_isDay l D cA B0 ad hal (uI d0 40 0 33 (nI 0)) day) (gS_X10_126 (fun _ h => h)) (n0 := 1) rfl (by decide +kernel) rfl ⟨Nat.le_of_ble_eq_true rfl, Nat.le_of_ble_eq_true rfl⟩ hK hW hB hS hl.1 rfl (lv_room (Nat.le_of_ble_eq_true rfl)) ⟨Nat.zero_le _, Nat.zero_le _⟩ dX10_as_6) hS (fun r_2 d_1 q_3 H locs hW hS => ?_)
  obtain ⟨rfl, rfl⟩ := q_3
  refine lv_if_ne (tgt := 14) hx hb dX10_as_9 (by decide) (fun c_4 => ?_) (fun c_4 => ?_)
  · obtain ⟨dayn, hdayn, rfl⟩ := ix_t (bI_n c_4) (by omega)
    refine lv_aload_n hx hb dX10_as_14 rfl (lv_at hl 0 rfl) ?_
    refine mo_gi hx hb hu hown hK hal hW hD 19 (by decide) uF_X10_55 dX10_as_15 ?_
    have b_5 : S 19 0 ≤ 399 := hG.f 19 (mx := 399) (by decide)
    refine lv_istore_n (lv' := [(2, .int (nI (S 19 0))), (0, .ref (ad.1 40 0)), (1, .int (nI dayn))]) hx hb dX10_as_18 rfl hl (by decide) rfl (fun ls hl => ?_)
    refine lv_aload_n hx hb dX10_as_19 rfl (lv_at hl 1 rfl) ?_
    refine lv_iload_n hx hb dX10_as_20 rfl (lv_at hl 2 rfl) ?_
    refine mo_pi hx hb hu hown hK hal hW hS 19 (by decide +kernel) uF_X10_55 dX10_as_21 (fun H locs hW hS => ?_)
    have hD := hD.putF 19 dayn rfl
    refine lv_iload_n hx hb dX10_as_24 rfl (lv_at hl 0 rfl) ?_
    exact o_iret hx hb hr hlocks hW hS (⟨by first | (simp only [aAs, ix_nI hdayn (by omega), nx_nI (j := dayn) (by omega), eq_self, ↓reduceIte, Bool.false_eq_true]; done) | (simp only [aAs, ix_nI hdayn (by omega), nx_nI (j := dayn) (by omega), eq_self, ↓reduceIte, Bool.false_eq_true]; rfl), by rw [show nAs S (nI dayn) = upS S 19 0 dayn from by first | (simp only [nAs, ix_nI hdayn (by omega), nx_nI (j := dayn) (by omega), eq_self, ↓reduceIte, Bool.false_eq_true]; done) | (simp only [nAs, ix_nI hdayn (by omega), nx_nI (j := dayn) (by omega), eq_self, ↓reduceIte, Bool.false_eq_true]; rfl)]; exact ⟨hM.chg hD ((hG.b.up 19 0 (mx := 399) rfl (by omega)).g hG.2.2) rfl rfl rfl rfl rfl (fun p hp m n => sHE_cg (S := S) (S' := upS S 19 0 dayn) rfl rfl rfl rfl rfl rfl rfl m n) (fun l hl => ⟨rfl, rfl, rfl, rfl⟩) (Nat.le_refl _) (Nat.le_refl _), hR, (((FrP.refl d0).stI _ _ _ _ (by omega)).stI _ _ _ _ (by omega))⟩⟩) dX10_as_25
  · refine lv_iconst (v := -1) hx hb dX10_as_12 (by decide) ?_
    exact o_iret hx hb hr hlocks hW hS (⟨by first | (simp only [aAs, bI_z c_4, eq_self, ↓reduceIte, Bool.false_eq_true]; done) | (simp only [aAs, bI_z c_4, eq_self, ↓reduceIte, Bool.false_eq_true]; rfl), by rw [show nAs S day = S from by first | (simp only [nAs, bI_z c_4, eq_self, ↓reduceIte, Bool.false_eq_true]; done) | (simp only [nAs, bI_z c_4, eq_self, ↓reduceIte, Bool.false_eq_true]; rfl)]; exact (MI.start (hM.thr 33 _ rfl)).pub hR⟩) dX10_as_13

set_option maxHeartbeats 400000 in
set_option maxRecDepth 100000 in
theorem c_X10_truth (l : Launch) (D : va_G) (cA : Nat → ClassId) (B0 : Nat) (ad : kA) (hal : mAl ad) (S : sS) (sr : Nat → Int32) (d0 : kD) (hM : InvM S d0) (hR : RowM S sr d0) (pi mq : Int32) : oM l yX10_truth wX10_truth 3 0 0 D cA B0 ad d0 ([.ref (ad.1 40 0), .int pi, .int mq] : List Value) (oQi D cA B0 ad (fun r d1 => r = aTruth S pi mq ∧ PI (nTruth S pi mq) sr d0 d1)) := by
  refine o_ofW (cc := cX10_truth) (maxL := 4) (ret := some .int) (by decide) rfl (Nat.le_of_ble_eq_true rfl) ?_
  intro p e s m below meth c hx hb hr hml hts hown hlocks hnm hK hW hB hS ls hl
  have hu : ∀ w ∈ UW, w.before _ s = true := fun w h => hts w (uw_c w h)
  have hl : lv_has ls 4 [(0, .ref (ad.1 40 0)), (1, .int pi), (2, .int mq)] := hl
  refine lv_aload_n hx hb dX10_truth_0 rfl (lv_at hl 0 rfl) ?_
  refine n_iconst (v := 0) hx hb dX10_truth_1 (by decide) ?_
  refine mo_pi hx hb hu hown hK hal hW hS 33 (by decide +kernel) uF_X10_113 dX10_truth_2 (fun H locs hW hS => ?_)
  have hD : dS S (uI d0 40 0 33 (nI 0)) := (hM.thr 33 _ rfl).1
  have hG : sG S := hM.2.1
  have hb1 : S 1 0 ≤ 4 := hG.f 1 (mx := 4) (by decide)
  have hb7 : S 7 0 ≤ 8 := hG.f 7 (mx := 8) (by decide)
  have hb11 : S 11 0 ≤ 20 := hG.f 11 (mx := 20) (by decide)
  have hb18 : S 18 0 ≤ 40 := hG.f 18 (mx := 40) (by decide)
  have hb19 : S 19 0 ≤ 399 := hG.f 19 (mx := 399) (by decide)
  have hb22 : S 22 0 ≤ 64 := hG.f 22 (mx := 64) (by decide)
  have hb25 : S 25 0 ≤ 4 := hG.f 25 (mx := 4) (by decide)
  have hb30 : S 30 0 ≤ 10 := hG.f 30 (mx := 10) (by decide)
  have hb32 : S 32 0 ≤ 64 := hG.f 32 (mx := 64) (by decide)
  refine lv_aload_n hx hb dX10_truth_5 rfl (lv_at hl 0 rfl) ?_
  refine lv_iload_n hx hb dX10_truth_6 rfl (lv_at hl 1 rfl) ?_
  refine o_calli (o_runV (As := [.int pi]) (rest := []) ⟨hx, hb, hml, hown, hu⟩ (c_X10_isPier l D cA B0 ad hal S (uI d0 40 0 33 (nI 0)) hD hG pi ) (gV_X10_145 (fun _ h => h)) (n0 := 1) rfl (by decide +kernel) rfl ⟨Nat.le_of_ble_eq_true rfl, Nat.le_of_ble_eq_true rfl⟩ (o_recv hK hW hal.1 (kC_M _ _ _) rfl) hK hW hB hS hl.1 rfl (lv_room (Nat.le_of_ble_eq_true rfl)) ⟨Nat.zero_le _, Nat.zero_le _⟩ dX10_truth_7) hS (fun r_2 d_1 q_3 H locs hW hS => ?_)
  obtain ⟨rfl, rfl⟩ := q_3
  refine lv_if_eq (tgt := 20) hx hb dX10_truth_10 (by decide) (fun c_4 => ?_) (fun c_4 => ?_)
  · refine lv_iconst (v := -1) hx hb dX10_truth_20 (by decide) ?_
    exact o_iret hx hb hr hlocks hW hS (⟨by first | (simp only [aTruth, bI_z c_4, eq_self, ↓reduceIte, Bool.false_eq_true]; done) | (simp only [aTruth, bI_z c_4, eq_self, ↓reduceIte, Bool.false_eq_true]; rfl), by rw [show nTruth S pi mq = S from by first | (simp only [nTruth, bI_z c_4, eq_self, ↓reduceIte, Bool.false_eq_true]; done) | (simp only [nTruth, bI_z c_4, eq_self, ↓reduceIte, Bool.false_eq_true]; rfl)]; exact (MI.start (hM.thr 33 _ rfl)).pub hR⟩) dX10_truth_21
  · obtain ⟨pin, hpin, rfl⟩ := ix_t (bI_n c_4) (by omega)
    refine lv_iload_n hx hb dX10_truth_13 rfl (lv_at hl 2 rfl) ?_
    refine o_calli (o_runS (As := [.int mq]) (rest := []) ⟨hx, hb, hml, hown, hu⟩ (c_X10_isMind l D cA B0 ad hal (uI d0 40 0 33 (nI 0)) mq) (gS_X10_162 (fun _ h => h)) (n0 := 1) rfl (by decide +kernel) rfl ⟨Nat.le_of_ble_eq_true rfl, Nat.le_of_ble_eq_true rfl⟩ hK hW hB hS hl.1 rfl (lv_room (Nat.le_of_ble_eq_true rfl)) ⟨Nat.zero_le _, Nat.zero_le _⟩ dX10_truth_14) hS (fun r_6 d_5 q_7 H locs hW hS => ?_)
    obtain ⟨rfl, rfl⟩ := q_7
    refine lv_if_ne (tgt := 22) hx hb dX10_truth_17 (by decide) (fun c_8 => ?_) (fun c_8 => ?_)
    · obtain ⟨mqn, hmqn, rfl⟩ := ix_t (bI_n c_8) (by omega)
      refine lv_aload_n hx hb dX10_truth_22 rfl (lv_at hl 0 rfl) ?_
      refine mo_ga hx hb hu hown hK hal hW 26 (by decide) uF_X10_71 dX10_truth_23 ?_
      refine lv_iload_n hx hb dX10_truth_26 rfl (lv_at hl 1 rfl) ?_
      refine mo_ld hx hb hK hal hW hD 26 (n := 8) (by decide) (by omega) dX10_truth_27 ?_
      have b_9 : S 26 pin ≤ 63 := hG.a 26 pin (n := 8) (mx := 63) (by decide) (by omega)
      refine lv_istore_n (lv' := [(3, .int (nI (S 26 pin))), (0, .ref (ad.1 40 0)), (1, .int (nI pin)), (2, .int (nI mqn))]) hx hb dX10_truth_28 rfl hl (by decide) rfl (fun ls hl => ?_)
      refine lv_aload_n hx hb dX10_truth_29 rfl (lv_at hl 1 rfl) ?_
      refine mo_ga hx hb hu hown hK hal hW 26 (by decide) uF_X10_71 dX10_truth_30 ?_
      refine lv_iload_n hx hb dX10_truth_33 rfl (lv_at hl 2 rfl) ?_
      refine lv_iload_n hx hb dX10_truth_34 rfl (lv_at hl 3 rfl) ?_
      refine mo_st hx hb hK hal hW hS 26 (n := 8) (by decide) (by omega) dX10_truth_35 (fun H locs hW hS => ?_)
      have hD := hD.put 26 pin mqn (n := 8) rfl (by omega)
      refine lv_iload_n hx hb dX10_truth_36 rfl (lv_at hl 0 rfl) ?_
      exact o_iret hx hb hr hlocks hW hS (⟨by first | (simp only [aTruth, ix_nI hpin (by omega), nx_nI (j := pin) (by omega), ix_nI hmqn (by omega), nx_nI (j := mqn) (by omega), eq_self, ↓reduceIte, Bool.false_eq_true]; done) | (simp only [aTruth, ix_nI hpin (by omega), nx_nI (j := pin) (by omega), ix_nI hmqn (by omega), nx_nI (j := mqn) (by omega), eq_self, ↓reduceIte, Bool.false_eq_true]; rfl), by rw [show nTruth S (nI pin) (nI mqn) = upS S 26 pin mqn from by first | (simp only [nTruth, ix_nI hpin (by omega), nx_nI (j := pin) (by omega), ix_nI hmqn (by omega), nx_nI (j := mqn) (by omega), eq_self, ↓reduceIte, Bool.false_eq_true]; done) | (simp only [nTruth, ix_nI hpin (by omega), nx_nI (j := pin) (by omega), ix_nI hmqn (by omega), nx_nI (j := mqn) (by omega), eq_self, ↓reduceIte, Bool.false_eq_true]; rfl)]; exact ⟨hM.chg hD ((hG.b.up 26 _ (mx := 63) rfl (by omega)).g hG.2.2) rfl rfl rfl rfl rfl (fun p hp m n => sHE_cg (S := S) (S' := upS S 26 pin mqn) rfl rfl rfl rfl rfl rfl rfl m n) (fun l hl => ⟨rfl, rfl, rfl, rfl⟩) (Nat.le_refl _) (Nat.le_refl _), hR, (((FrP.refl d0).stI _ _ _ _ (by omega)).stI _ _ _ _ (by omega))⟩⟩) dX10_truth_37
    · refine lv_iconst (v := -1) hx hb dX10_truth_20 (by decide) ?_
      exact o_iret hx hb hr hlocks hW hS (⟨by first | (simp only [aTruth, ix_nI hpin (by omega), nx_nI (j := pin) (by omega), bI_z c_8, eq_self, ↓reduceIte, Bool.false_eq_true]; done) | (simp only [aTruth, ix_nI hpin (by omega), nx_nI (j := pin) (by omega), bI_z c_8, eq_self, ↓reduceIte, Bool.false_eq_true]; rfl), by rw [show nTruth S (nI pin) mq = S from by first | (simp only [nTruth, ix_nI hpin (by omega), nx_nI (j := pin) (by omega), bI_z c_8, eq_self, ↓reduceIte, Bool.false_eq_true]; done) | (simp only [nTruth, ix_nI hpin (by omega), nx_nI (j := pin) (by omega), bI_z c_8, eq_self, ↓reduceIte, Bool.false_eq_true]; rfl)]; exact (MI.start (hM.thr 33 _ rfl)).pub hR⟩) dX10_truth_21

set_option maxHeartbeats 400000 in
set_option maxRecDepth 100000 in
theorem c_X10_back (l : Launch) (D : va_G) (cA : Nat → ClassId) (B0 : Nat) (ad : kA) (hal : mAl ad) (S : sS) (sr : Nat → Int32) (d0 : kD) (hM : InvM S d0) (hR : RowM S sr d0) (li day : Int32) : oM l yX10_back wX10_back 3 0 0 D cA B0 ad d0 ([.ref (ad.1 40 0), .int li, .int day] : List Value) (oQi D cA B0 ad (fun r d1 => r = aBack S li day ∧ PI (nBack S li day) sr d0 d1)) := by
  refine o_ofW (cc := cX10_back) (maxL := 3) (ret := some .boolean) (by decide) rfl (Nat.le_of_ble_eq_true rfl) ?_
  intro p e s m below meth c hx hb hr hml hts hown hlocks hnm hK hW hB hS ls hl
  have hu : ∀ w ∈ UW, w.before _ s = true := fun w h => hts w (uw_c w h)
  have hl : lv_has ls 3 [(0, .ref (ad.1 40 0)), (1, .int li), (2, .int day)] := hl
  refine lv_aload_n hx hb dX10_back_0 rfl (lv_at hl 0 rfl) ?_
  refine n_iconst (v := 0) hx hb dX10_back_1 (by decide) ?_
  refine mo_pi hx hb hu hown hK hal hW hS 33 (by decide +kernel) uF_X10_113 dX10_back_2 (fun H locs hW hS => ?_)
  have hD : dS S (uI d0 40 0 33 (nI 0)) := (hM.thr 33 _ rfl).1
  have hG : sG S := hM.2.1
  have hb1 : S 1 0 ≤ 4 := hG.f 1 (mx := 4) (by decide)
  have hb7 : S 7 0 ≤ 8 := hG.f 7 (mx := 8) (by decide)
  have hb11 : S 11 0 ≤ 20 := hG.f 11 (mx := 20) (by decide)
  have hb18 : S 18 0 ≤ 40 := hG.f 18 (mx := 40) (by decide)
  have hb19 : S 19 0 ≤ 399 := hG.f 19 (mx := 399) (by decide)
  have hb22 : S 22 0 ≤ 64 := hG.f 22 (mx := 64) (by decide)
  have hb25 : S 25 0 ≤ 4 := hG.f 25 (mx := 4) (by decide)
  have hb30 : S 30 0 ≤ 10 := hG.f 30 (mx := 10) (by decide)
  have hb32 : S 32 0 ≤ 64 := hG.f 32 (mx := 64) (by decide)
  refine lv_aload_n hx hb dX10_back_5 rfl (lv_at hl 0 rfl) ?_
  refine lv_iload_n hx hb dX10_back_6 rfl (lv_at hl 1 rfl) ?_
  refine o_calli (o_runV (As := [.int li]) (rest := []) ⟨hx, hb, hml, hown, hu⟩ (c_X10_isLook l D cA B0 ad hal S (uI d0 40 0 33 (nI 0)) hD hG li ) (gV_X10_214 (fun _ h => h)) (n0 := 1) rfl (by decide +kernel) rfl ⟨Nat.le_of_ble_eq_true rfl, Nat.le_of_ble_eq_true rfl⟩ (o_recv hK hW hal.1 (kC_M _ _ _) rfl) hK hW hB hS hl.1 rfl (lv_room (Nat.le_of_ble_eq_true rfl)) ⟨Nat.zero_le _, Nat.zero_le _⟩ dX10_back_7) hS (fun r_2 d_1 q_3 H locs hW hS => ?_)
  obtain ⟨rfl, rfl⟩ := q_3
  refine lv_if_eq (tgt := 20) hx hb dX10_back_10 (by decide) (fun c_4 => ?_) (fun c_4 => ?_)
  · refine n_iconst (v := 0) hx hb dX10_back_20 (by decide) ?_
    exact o_zret hx hb hr hlocks (by first | rfl | exact z_bI _ | (split <;> first | rfl | (split <;> rfl))) hW hS (⟨by first | (simp only [aBack, bI_z c_4, eq_self, ↓reduceIte, Bool.false_eq_true]; done) | (simp only [aBack, bI_z c_4, eq_self, ↓reduceIte, Bool.false_eq_true]; rfl), by rw [show nBack S li day = S from by first | (simp only [nBack, bI_z c_4, eq_self, ↓reduceIte, Bool.false_eq_true]; done) | (simp only [nBack, bI_z c_4, eq_self, ↓reduceIte, Bool.false_eq_true]; rfl)]; exact (MI.start (hM.thr 33 _ rfl)).pub hR⟩) dX10_back_21
  · obtain ⟨lin, hlin, rfl⟩ := ix_t (bI_n c_4) (by omega)
    refine lv_iload_n hx hb dX10_back_13 rfl (lv_at hl 2 rfl) ?_
    refine o_calli (o_runS (As := [.int day]) (rest := []) ⟨hx, hb, hml, hown, hu⟩ (c_X10_isDay l D cA B0 ad hal (uI d0 40 0 33 (nI 0)) day) (gS_X10_126 (fun _ h => h)) (n0 := 1) rfl (by decide +kernel) rfl ⟨Nat.le_of_ble_eq_true rfl, Nat.le_of_ble_eq_true rfl⟩ hK hW hB hS hl.1 rfl (lv_room (Nat.le_of_ble_eq_true rfl)) ⟨Nat.zero_le _, Nat.zero_le _⟩ dX10_back_14) hS (fun r_6 d_5 q_7 H locs hW hS => ?_)
    obtain ⟨rfl, rfl⟩ := q_7
    refine lv_if_ne (tgt := 22) hx hb dX10_back_17 (by decide) (fun c_8 => ?_) (fun c_8 => ?_)
    · obtain ⟨dayn, hdayn, rfl⟩ := ix_t (bI_n c_8) (by omega)
      refine lv_aload_n hx hb dX10_back_22 rfl (lv_at hl 0 rfl) ?_
      refine mo_ga hx hb hu hown hK hal hW 17 (by decide) uF_X10_52 dX10_back_23 ?_
      refine lv_iload_n hx hb dX10_back_26 rfl (lv_at hl 1 rfl) ?_
      refine lv_iload_n hx hb dX10_back_27 rfl (lv_at hl 2 rfl) ?_
      refine mo_st hx hb hK hal hW hS 17 (n := 40) (by decide) (by omega) dX10_back_28 (fun H locs hW hS => ?_)
      have hD := hD.put 17 lin dayn (n := 40) rfl (by omega)
      refine n_iconst (v := 1) hx hb dX10_back_29 (by decide) ?_
      exact o_zret hx hb hr hlocks (by first | rfl | exact z_bI _ | (split <;> first | rfl | (split <;> rfl))) hW hS (⟨by first | (simp only [aBack, ix_nI hlin (by omega), nx_nI (j := lin) (by omega), ix_nI hdayn (by omega), nx_nI (j := dayn) (by omega), eq_self, ↓reduceIte, Bool.false_eq_true]; done) | (simp only [aBack, ix_nI hlin (by omega), nx_nI (j := lin) (by omega), ix_nI hdayn (by omega), nx_nI (j := dayn) (by omega), eq_self, ↓reduceIte, Bool.false_eq_true]; rfl), by rw [show nBack S (nI lin) (nI dayn) = upS S 17 lin dayn from by first | (simp only [nBack, ix_nI hlin (by omega), nx_nI (j := lin) (by omega), ix_nI hdayn (by omega), nx_nI (j := dayn) (by omega), eq_self, ↓reduceIte, Bool.false_eq_true]; done) | (simp only [nBack, ix_nI hlin (by omega), nx_nI (j := lin) (by omega), ix_nI hdayn (by omega), nx_nI (j := dayn) (by omega), eq_self, ↓reduceIte, Bool.false_eq_true]; rfl)]; exact ⟨hM.chg hD ((hG.b.up 17 _ (mx := 400) rfl (by omega)).g hG.2.2) rfl rfl rfl rfl rfl (fun p hp m n => sHE_cg (S := S) (S' := upS S 17 lin dayn) rfl rfl rfl rfl rfl rfl rfl m n) (fun l hl => ⟨rfl, rfl, rfl, rfl⟩) (Nat.le_refl _) (Nat.le_refl _), hR, (((FrP.refl d0).stI _ _ _ _ (by omega)).stI _ _ _ _ (by omega))⟩⟩) dX10_back_30
    · refine n_iconst (v := 0) hx hb dX10_back_20 (by decide) ?_
      exact o_zret hx hb hr hlocks (by first | rfl | exact z_bI _ | (split <;> first | rfl | (split <;> rfl))) hW hS (⟨by first | (simp only [aBack, ix_nI hlin (by omega), nx_nI (j := lin) (by omega), bI_z c_8, eq_self, ↓reduceIte, Bool.false_eq_true]; done) | (simp only [aBack, ix_nI hlin (by omega), nx_nI (j := lin) (by omega), bI_z c_8, eq_self, ↓reduceIte, Bool.false_eq_true]; rfl), by rw [show nBack S (nI lin) day = S from by first | (simp only [nBack, ix_nI hlin (by omega), nx_nI (j := lin) (by omega), bI_z c_8, eq_self, ↓reduceIte, Bool.false_eq_true]; done) | (simp only [nBack, ix_nI hlin (by omega), nx_nI (j := lin) (by omega), bI_z c_8, eq_self, ↓reduceIte, Bool.false_eq_true]; rfl)]; exact (MI.start (hM.thr 33 _ rfl)).pub hR⟩) dX10_back_21

set_option maxHeartbeats 400000 in
set_option maxRecDepth 100000 in
theorem c_X10_prove (l : Launch) (D : va_G) (cA : Nat → ClassId) (B0 : Nat) (ad : kA) (hal : mAl ad) (S : sS) (sr : Nat → Int32) (d0 : kD) (hM : InvM S d0) (hR : RowM S sr d0) (mq li : Int32) : oM l yX10_prove wX10_prove 3 0 0 D cA B0 ad d0 ([.ref (ad.1 40 0), .int mq, .int li] : List Value) (oQi D cA B0 ad (fun r d1 => r = aProve S mq li ∧ PI (nProve S mq li) sr d0 d1)) := by
  refine o_ofW (cc := cX10_prove) (maxL := 3) (ret := some .int) (by decide) rfl (Nat.le_of_ble_eq_true rfl) ?_
  intro p e s m below meth c hx hb hr hml hts hown hlocks hnm hK hW hB hS ls hl
  have hu : ∀ w ∈ UW, w.before _ s = true := fun w h => hts w (uw_c w h)
  have hl : lv_has ls 3 [(0, .ref (ad.1 40 0)), (1, .int mq), (2, .int li)] := hl
  refine lv_aload_n hx hb dX10_prove_0 rfl (lv_at hl 0 rfl) ?_
  refine n_iconst (v := 0) hx hb dX10_prove_1 (by decide) ?_
  refine mo_pi hx hb hu hown hK hal hW hS 33 (by decide +kernel) uF_X10_113 dX10_prove_2 (fun H locs hW hS => ?_)
  have hD : dS S (uI d0 40 0 33 (nI 0)) := (hM.thr 33 _ rfl).1
  have hG : sG S := hM.2.1
  have hb1 : S 1 0 ≤ 4 := hG.f 1 (mx := 4) (by decide)
  have hb7 : S 7 0 ≤ 8 := hG.f 7 (mx := 8) (by decide)
  have hb11 : S 11 0 ≤ 20 := hG.f 11 (mx := 20) (by decide)
  have hb18 : S 18 0 ≤ 40 := hG.f 18 (mx := 40) (by decide)
  have hb19 : S 19 0 ≤ 399 := hG.f 19 (mx := 399) (by decide)
  have hb22 : S 22 0 ≤ 64 := hG.f 22 (mx := 64) (by decide)
  have hb25 : S 25 0 ≤ 4 := hG.f 25 (mx := 4) (by decide)
  have hb30 : S 30 0 ≤ 10 := hG.f 30 (mx := 10) (by decide)
  have hb32 : S 32 0 ≤ 64 := hG.f 32 (mx := 64) (by decide)
  refine lv_iload_n hx hb dX10_prove_5 rfl (lv_at hl 1 rfl) ?_
  refine o_calli (o_runS (As := [.int mq]) (rest := []) ⟨hx, hb, hml, hown, hu⟩ (c_X10_isMind l D cA B0 ad hal (uI d0 40 0 33 (nI 0)) mq) (gS_X10_162 (fun _ h => h)) (n0 := 1) rfl (by decide +kernel) rfl ⟨Nat.le_of_ble_eq_true rfl, Nat.le_of_ble_eq_true rfl⟩ hK hW hB hS hl.1 rfl (lv_room (Nat.le_of_ble_eq_true rfl)) ⟨Nat.zero_le _, Nat.zero_le _⟩ dX10_prove_6) hS (fun r_2 d_1 q_3 H locs hW hS => ?_)
  obtain ⟨rfl, rfl⟩ := q_3
  refine lv_if_eq (tgt := 31) hx hb dX10_prove_9 (by decide) (fun c_4 => ?_) (fun c_4 => ?_)
  · refine lv_iconst (v := -1) hx hb dX10_prove_31 (by decide) ?_
    exact o_iret hx hb hr hlocks hW hS (⟨by first | (simp only [aProve, bI_z c_4, eq_self, ↓reduceIte, Bool.false_eq_true]; done) | (simp only [aProve, bI_z c_4, eq_self, ↓reduceIte, Bool.false_eq_true]; rfl), by rw [show nProve S mq li = S from by first | (simp only [nProve, bI_z c_4, eq_self, ↓reduceIte, Bool.false_eq_true]; done) | (simp only [nProve, bI_z c_4, eq_self, ↓reduceIte, Bool.false_eq_true]; rfl)]; exact (MI.start (hM.thr 33 _ rfl)).pub hR⟩) dX10_prove_32
  · obtain ⟨mqn, hmqn, rfl⟩ := ix_t (bI_n c_4) (by omega)
    refine lv_iload_n hx hb dX10_prove_12 rfl (lv_at hl 2 rfl) ?_
    refine n_iconst (v := 0) hx hb dX10_prove_13 (by decide) ?_
    refine n_bipush (v := 39) hx hb dX10_prove_14 (by decide) ?_
    refine o_calli (o_runS (As := [.int li, .int (nI 0), .int (nI 39)]) (rest := []) ⟨hx, hb, hml, hown, hu⟩ (c_X10_in l D cA B0 ad hal (uI d0 40 0 33 (nI 0)) li (nI 0) (nI 39)) (gS_X10_119 (fun _ h => h)) (n0 := 3) rfl (by decide +kernel) rfl ⟨Nat.le_of_ble_eq_true rfl, Nat.le_of_ble_eq_true rfl⟩ hK hW hB hS hl.1 rfl (lv_room (Nat.le_of_ble_eq_true rfl)) ⟨Nat.zero_le _, Nat.zero_le _⟩ dX10_prove_16) hS (fun r_6 d_5 q_7 H locs hW hS => ?_)
    obtain ⟨rfl, rfl⟩ := q_7
    refine n_topi (y := bI (ix li 40)) (in_ixc 40 rfl (by decide)) ?_
    refine lv_if_eq (tgt := 31) hx hb dX10_prove_19 (by decide) (fun c_8 => ?_) (fun c_8 => ?_)
    · refine lv_iconst (v := -1) hx hb dX10_prove_31 (by decide) ?_
      exact o_iret hx hb hr hlocks hW hS (⟨by first | (simp only [aProve, ix_nI hmqn (by omega), nx_nI (j := mqn) (by omega), bI_z c_8, eq_self, ↓reduceIte, Bool.false_eq_true]; done) | (simp only [aProve, ix_nI hmqn (by omega), nx_nI (j := mqn) (by omega), bI_z c_8, eq_self, ↓reduceIte, Bool.false_eq_true]; rfl), by rw [show nProve S (nI mqn) li = S from by first | (simp only [nProve, ix_nI hmqn (by omega), nx_nI (j := mqn) (by omega), bI_z c_8, eq_self, ↓reduceIte, Bool.false_eq_true]; done) | (simp only [nProve, ix_nI hmqn (by omega), nx_nI (j := mqn) (by omega), bI_z c_8, eq_self, ↓reduceIte, Bool.false_eq_true]; rfl)]; exact (MI.start (hM.thr 33 _ rfl)).pub hR⟩) dX10_prove_32
    · obtain ⟨lin, hlin, rfl⟩ := ix_t (bI_n c_8) (by omega)
      refine lv_aload_n hx hb dX10_prove_22 rfl (lv_at hl 0 rfl) ?_
      refine mo_gi hx hb hu hown hK hal hW hD 22 (by decide) uF_X10_272 dX10_prove_23 ?_
      have b_9 : S 22 0 ≤ 64 := hG.f 22 (mx := 64) (by decide)
      refine n_bipush (v := 64) hx hb dX10_prove_26 (by decide) ?_
      refine n_icmp_ne (tgt := 33) hx hb (by omega) (by omega) dX10_prove_28 (by decide) (fun c_10 => ?_) (fun c_10 => ?_)
      · refine lv_aload_n hx hb dX10_prove_33 rfl (lv_at hl 0 rfl) ?_
        refine mo_ga hx hb hu hown hK hal hW 20 (by decide) uF_X10_59 dX10_prove_34 ?_
        refine lv_aload_n hx hb dX10_prove_37 rfl (lv_at hl 0 rfl) ?_
        refine mo_gi hx hb hu hown hK hal hW hD 22 (by decide) uF_X10_272 dX10_prove_38 ?_
        have b_11 : S 22 0 ≤ 64 := hG.f 22 (mx := 64) (by decide)
        refine lv_iload_n hx hb dX10_prove_41 rfl (lv_at hl 1 rfl) ?_
        refine mo_st hx hb hK hal hW hS 20 (n := 64) (by decide) (by omega) dX10_prove_42 (fun H locs hW hS => ?_)
        have hD := hD.put 20 (S 22 0) mqn (n := 64) rfl (by omega)
        refine lv_aload_n hx hb dX10_prove_43 rfl (lv_at hl 0 rfl) ?_
        refine mo_ga hx hb hu hown hK hal hW 21 (by decide) uF_X10_62 dX10_prove_44 ?_
        refine lv_aload_n hx hb dX10_prove_47 rfl (lv_at hl 0 rfl) ?_
        refine mo_gi hx hb hu hown hK hal hW hD 22 (by decide) uF_X10_272 dX10_prove_48 ?_
        refine n_top (b := S 22 0) rfl ?_
        refine lv_iload_n hx hb dX10_prove_51 rfl (lv_at hl 2 rfl) ?_
        refine mo_st hx hb hK hal hW hS 21 (n := 64) (by decide) (by omega) dX10_prove_52 (fun H locs hW hS => ?_)
        have hD := hD.put 21 (S 22 0) lin (n := 64) rfl (by omega)
        refine lv_aload_n hx hb dX10_prove_53 rfl (lv_at hl 0 rfl) ?_
        refine lv_dup hx hb dX10_prove_54 rfl ?_
        refine mo_gi hx hb hu hown hK hal hW hD 22 (by decide) uF_X10_272 dX10_prove_55 ?_
        refine n_top (b := S 22 0) rfl ?_
        refine n_iconst (v := 1) hx hb dX10_prove_58 (by decide) ?_
        refine n_iadd hx hb dX10_prove_59 ?_
        refine mo_pi hx hb hu hown hK hal hW hS 22 (by decide +kernel) uF_X10_272 dX10_prove_60 (fun H locs hW hS => ?_)
        have hD := hD.putF 22 ((S 22 0) + 1) rfl
        refine lv_aload_n hx hb dX10_prove_63 rfl (lv_at hl 0 rfl) ?_
        refine mo_gi hx hb hu hown hK hal hW hD 22 (by decide) uF_X10_272 dX10_prove_64 ?_
        refine n_top (b := (S 22 0) + 1) rfl ?_
        exact o_iret hx hb hr hlocks hW hS (⟨by first | (simp only [aProve, ix_nI hmqn (by omega), nx_nI (j := mqn) (by omega), ix_nI hlin (by omega), nx_nI (j := lin) (by omega), c_10, eq_self, ↓reduceIte, Bool.false_eq_true]; done) | (simp only [aProve, ix_nI hmqn (by omega), nx_nI (j := mqn) (by omega), ix_nI hlin (by omega), nx_nI (j := lin) (by omega), c_10, eq_self, ↓reduceIte, Bool.false_eq_true]; rfl), by rw [show nProve S (nI mqn) (nI lin) = upS (upS (upS S 20 (S 22 0) mqn) 21 (S 22 0) lin) 22 0 ((S 22 0) + 1) from by first | (simp only [nProve, ix_nI hmqn (by omega), nx_nI (j := mqn) (by omega), ix_nI hlin (by omega), nx_nI (j := lin) (by omega), c_10, eq_self, ↓reduceIte, Bool.false_eq_true]; done) | (simp only [nProve, ix_nI hmqn (by omega), nx_nI (j := mqn) (by omega), ix_nI hlin (by omega), nx_nI (j := lin) (by omega), c_10, eq_self, ↓reduceIte, Bool.false_eq_true]; rfl)]; exact ⟨hM.chg hD ((((hG.b.up 20 _ (mx := 63) rfl (by omega)).up 21 _ (mx := 39) rfl (by omega)).up 22 0 (mx := 64) rfl (by omega)).g hG.2.2) rfl rfl rfl rfl rfl (fun p hp m n => sHE_cg (S := S) (S' := upS (upS (upS S 20 (S 22 0) mqn) 21 (S 22 0) lin) 22 0 ((S 22 0) + 1)) rfl rfl rfl rfl rfl rfl rfl m n) (fun l hl => ⟨rfl, rfl, rfl, rfl⟩) (Nat.le_refl _) (Nat.le_refl _), hR, (((((FrP.refl d0).stI _ _ _ _ (by omega)).stI _ _ _ _ (by omega)).stI _ _ _ _ (by omega)).stI _ _ _ _ (by omega))⟩⟩) dX10_prove_67
      · refine lv_iconst (v := -1) hx hb dX10_prove_31 (by decide) ?_
        exact o_iret hx hb hr hlocks hW hS (⟨by first | (simp only [aProve, ix_nI hmqn (by omega), nx_nI (j := mqn) (by omega), ix_nI hlin (by omega), nx_nI (j := lin) (by omega), c_10, eq_self, ↓reduceIte, Bool.false_eq_true]; done) | (simp only [aProve, ix_nI hmqn (by omega), nx_nI (j := mqn) (by omega), ix_nI hlin (by omega), nx_nI (j := lin) (by omega), c_10, eq_self, ↓reduceIte, Bool.false_eq_true]; rfl), by rw [show nProve S (nI mqn) (nI lin) = S from by first | (simp only [nProve, ix_nI hmqn (by omega), nx_nI (j := mqn) (by omega), ix_nI hlin (by omega), nx_nI (j := lin) (by omega), c_10, eq_self, ↓reduceIte, Bool.false_eq_true]; done) | (simp only [nProve, ix_nI hmqn (by omega), nx_nI (j := mqn) (by omega), ix_nI hlin (by omega), nx_nI (j := lin) (by omega), c_10, eq_self, ↓reduceIte, Bool.false_eq_true]; rfl)]; exact (MI.start (hM.thr 33 _ rfl)).pub hR⟩) dX10_prove_32

set_option maxHeartbeats 400000 in
set_option maxRecDepth 100000 in
theorem c_X10_offer (l : Launch) (D : va_G) (cA : Nat → ClassId) (B0 : Nat) (ad : kA) (hal : mAl ad) (S : sS) (sr : Nat → Int32) (d0 : kD) (hM : InvM S d0) (hR : RowM S sr d0) (pi mo co : Int32) : oM l yX10_offer wX10_offer 3 0 0 D cA B0 ad d0 ([.ref (ad.1 40 0), .int pi, .int mo, .int co] : List Value) (oQi D cA B0 ad (fun r d1 => r = aOffer S pi mo co ∧ PI (nOffer S pi mo co) sr d0 d1)) := by
  refine o_ofW (cc := cX10_offer) (maxL := 4) (ret := some .int) (by decide) rfl (Nat.le_of_ble_eq_true rfl) ?_
  intro p e s m below meth c hx hb hr hml hts hown hlocks hnm hK hW hB hS ls hl
  have hu : ∀ w ∈ UW, w.before _ s = true := fun w h => hts w (uw_c w h)
  have hl : lv_has ls 4 [(0, .ref (ad.1 40 0)), (1, .int pi), (2, .int mo), (3, .int co)] := hl
  refine lv_aload_n hx hb dX10_offer_0 rfl (lv_at hl 0 rfl) ?_
  refine n_iconst (v := 0) hx hb dX10_offer_1 (by decide) ?_
  refine mo_pi hx hb hu hown hK hal hW hS 33 (by decide +kernel) uF_X10_113 dX10_offer_2 (fun H locs hW hS => ?_)
  have hD : dS S (uI d0 40 0 33 (nI 0)) := (hM.thr 33 _ rfl).1
  have hG : sG S := hM.2.1
  have hb1 : S 1 0 ≤ 4 := hG.f 1 (mx := 4) (by decide)
  have hb7 : S 7 0 ≤ 8 := hG.f 7 (mx := 8) (by decide)
  have hb11 : S 11 0 ≤ 20 := hG.f 11 (mx := 20) (by decide)
  have hb18 : S 18 0 ≤ 40 := hG.f 18 (mx := 40) (by decide)
  have hb19 : S 19 0 ≤ 399 := hG.f 19 (mx := 399) (by decide)
  have hb22 : S 22 0 ≤ 64 := hG.f 22 (mx := 64) (by decide)
  have hb25 : S 25 0 ≤ 4 := hG.f 25 (mx := 4) (by decide)
  have hb30 : S 30 0 ≤ 10 := hG.f 30 (mx := 10) (by decide)
  have hb32 : S 32 0 ≤ 64 := hG.f 32 (mx := 64) (by decide)
  refine lv_aload_n hx hb dX10_offer_5 rfl (lv_at hl 0 rfl) ?_
  refine lv_iload_n hx hb dX10_offer_6 rfl (lv_at hl 1 rfl) ?_
  refine o_calli (o_runV (As := [.int pi]) (rest := []) ⟨hx, hb, hml, hown, hu⟩ (c_X10_isPier l D cA B0 ad hal S (uI d0 40 0 33 (nI 0)) hD hG pi ) (gV_X10_145 (fun _ h => h)) (n0 := 1) rfl (by decide +kernel) rfl ⟨Nat.le_of_ble_eq_true rfl, Nat.le_of_ble_eq_true rfl⟩ (o_recv hK hW hal.1 (kC_M _ _ _) rfl) hK hW hB hS hl.1 rfl (lv_room (Nat.le_of_ble_eq_true rfl)) ⟨Nat.zero_le _, Nat.zero_le _⟩ dX10_offer_7) hS (fun r_2 d_1 q_3 H locs hW hS => ?_)
  obtain ⟨rfl, rfl⟩ := q_3
  refine lv_if_eq (tgt := 43) hx hb dX10_offer_10 (by decide) (fun c_4 => ?_) (fun c_4 => ?_)
  · refine lv_iconst (v := -1) hx hb dX10_offer_43 (by decide) ?_
    exact o_iret hx hb hr hlocks hW hS (⟨by first | (simp only [aOffer, bI_z c_4, eq_self, ↓reduceIte, Bool.false_eq_true]; done) | (simp only [aOffer, bI_z c_4, eq_self, ↓reduceIte, Bool.false_eq_true]; rfl), by rw [show nOffer S pi mo co = S from by first | (simp only [nOffer, bI_z c_4, eq_self, ↓reduceIte, Bool.false_eq_true]; done) | (simp only [nOffer, bI_z c_4, eq_self, ↓reduceIte, Bool.false_eq_true]; rfl)]; exact (MI.start (hM.thr 33 _ rfl)).pub hR⟩) dX10_offer_44
  · obtain ⟨pin, hpin, rfl⟩ := ix_t (bI_n c_4) (by omega)
    refine lv_iload_n hx hb dX10_offer_13 rfl (lv_at hl 2 rfl) ?_
    refine n_iconst (v := 1) hx hb dX10_offer_14 (by decide) ?_
    refine n_bipush (v := 99) hx hb dX10_offer_15 (by decide) ?_
    refine o_calli (o_runS (As := [.int mo, .int (nI 1), .int (nI 99)]) (rest := []) ⟨hx, hb, hml, hown, hu⟩ (c_X10_in l D cA B0 ad hal (uI d0 40 0 33 (nI 0)) mo (nI 1) (nI 99)) (gS_X10_119 (fun _ h => h)) (n0 := 3) rfl (by decide +kernel) rfl ⟨Nat.le_of_ble_eq_true rfl, Nat.le_of_ble_eq_true rfl⟩ hK hW hB hS hl.1 rfl (lv_room (Nat.le_of_ble_eq_true rfl)) ⟨Nat.zero_le _, Nat.zero_le _⟩ dX10_offer_17) hS (fun r_6 d_5 q_7 H locs hW hS => ?_)
    obtain ⟨rfl, rfl⟩ := q_7
    refine n_topi (y := bI (rx mo 1 99)) (in_rx (by omega) (by omega)) ?_
    refine lv_if_eq (tgt := 43) hx hb dX10_offer_20 (by decide) (fun c_8 => ?_) (fun c_8 => ?_)
    · refine lv_iconst (v := -1) hx hb dX10_offer_43 (by decide) ?_
      exact o_iret hx hb hr hlocks hW hS (⟨by first | (simp only [aOffer, ix_nI hpin (by omega), nx_nI (j := pin) (by omega), bI_z c_8, eq_self, ↓reduceIte, Bool.false_eq_true]; done) | (simp only [aOffer, ix_nI hpin (by omega), nx_nI (j := pin) (by omega), bI_z c_8, eq_self, ↓reduceIte, Bool.false_eq_true]; rfl), by rw [show nOffer S (nI pin) mo co = S from by first | (simp only [nOffer, ix_nI hpin (by omega), nx_nI (j := pin) (by omega), bI_z c_8, eq_self, ↓reduceIte, Bool.false_eq_true]; done) | (simp only [nOffer, ix_nI hpin (by omega), nx_nI (j := pin) (by omega), bI_z c_8, eq_self, ↓reduceIte, Bool.false_eq_true]; rfl)]; exact (MI.start (hM.thr 33 _ rfl)).pub hR⟩) dX10_offer_44
    · obtain ⟨mon, hmona, hmon, rfl⟩ := rx_t (bI_n c_8) (by omega)
      refine lv_iload_n hx hb dX10_offer_23 rfl (lv_at hl 3 rfl) ?_
      refine n_iconst (v := 1) hx hb dX10_offer_24 (by decide) ?_
      refine n_sipush (v := 999) hx hb dX10_offer_25 (by decide) ?_
      refine o_calli (o_runS (As := [.int co, .int (nI 1), .int (nI 999)]) (rest := []) ⟨hx, hb, hml, hown, hu⟩ (c_X10_in l D cA B0 ad hal (uI d0 40 0 33 (nI 0)) co (nI 1) (nI 999)) (gS_X10_119 (fun _ h => h)) (n0 := 3) rfl (by decide +kernel) rfl ⟨Nat.le_of_ble_eq_true rfl, Nat.le_of_ble_eq_true rfl⟩ hK hW hB hS hl.1 rfl (lv_room (Nat.le_of_ble_eq_true rfl)) ⟨Nat.zero_le _, Nat.zero_le _⟩ dX10_offer_28) hS (fun r_10 d_9 q_11 H locs hW hS => ?_)
      obtain ⟨rfl, rfl⟩ := q_11
      refine n_topi (y := bI (rx co 1 999)) (in_rx (by omega) (by omega)) ?_
      refine lv_if_eq (tgt := 43) hx hb dX10_offer_31 (by decide) (fun c_12 => ?_) (fun c_12 => ?_)
      · refine lv_iconst (v := -1) hx hb dX10_offer_43 (by decide) ?_
        exact o_iret hx hb hr hlocks hW hS (⟨by first | (simp only [aOffer, ix_nI hpin (by omega), nx_nI (j := pin) (by omega), rx_nI hmona hmon (by omega), nx_nI (j := mon) (by omega), bI_z c_12, eq_self, ↓reduceIte, Bool.false_eq_true]; done) | (simp only [aOffer, ix_nI hpin (by omega), nx_nI (j := pin) (by omega), rx_nI hmona hmon (by omega), nx_nI (j := mon) (by omega), bI_z c_12, eq_self, ↓reduceIte, Bool.false_eq_true]; rfl), by rw [show nOffer S (nI pin) (nI mon) co = S from by first | (simp only [nOffer, ix_nI hpin (by omega), nx_nI (j := pin) (by omega), rx_nI hmona hmon (by omega), nx_nI (j := mon) (by omega), bI_z c_12, eq_self, ↓reduceIte, Bool.false_eq_true]; done) | (simp only [nOffer, ix_nI hpin (by omega), nx_nI (j := pin) (by omega), rx_nI hmona hmon (by omega), nx_nI (j := mon) (by omega), bI_z c_12, eq_self, ↓reduceIte, Bool.false_eq_true]; rfl)]; exact (MI.start (hM.thr 33 _ rfl)).pub hR⟩) dX10_offer_44
      · obtain ⟨con, hcona, hcon, rfl⟩ := rx_t (bI_n c_12) (by omega)
        refine lv_aload_n hx hb dX10_offer_34 rfl (lv_at hl 0 rfl) ?_
        refine mo_gi hx hb hu hown hK hal hW hD 30 (by decide) uF_X10_303 dX10_offer_35 ?_
        have b_13 : S 30 0 ≤ 10 := hG.f 30 (mx := 10) (by decide)
        refine n_bipush (v := 10) hx hb dX10_offer_38 (by decide) ?_
        refine n_icmp_ne (tgt := 45) hx hb (by omega) (by omega) dX10_offer_40 (by decide) (fun c_14 => ?_) (fun c_14 => ?_)
        · refine lv_aload_n hx hb dX10_offer_45 rfl (lv_at hl 0 rfl) ?_
          refine mo_ga hx hb hu hown hK hal hW 27 (by decide) uF_X10_74 dX10_offer_46 ?_
          refine lv_aload_n hx hb dX10_offer_49 rfl (lv_at hl 0 rfl) ?_
          refine mo_gi hx hb hu hown hK hal hW hD 30 (by decide) uF_X10_303 dX10_offer_50 ?_
          have b_15 : S 30 0 ≤ 10 := hG.f 30 (mx := 10) (by decide)
          refine lv_iload_n hx hb dX10_offer_53 rfl (lv_at hl 1 rfl) ?_
          refine mo_st hx hb hK hal hW hS 27 (n := 10) (by decide) (by omega) dX10_offer_54 (fun H locs hW hS => ?_)
          have hD := hD.put 27 (S 30 0) pin (n := 10) rfl (by omega)
          refine lv_aload_n hx hb dX10_offer_55 rfl (lv_at hl 0 rfl) ?_
          refine mo_ga hx hb hu hown hK hal hW 28 (by decide) uF_X10_77 dX10_offer_56 ?_
          refine lv_aload_n hx hb dX10_offer_59 rfl (lv_at hl 0 rfl) ?_
          refine mo_gi hx hb hu hown hK hal hW hD 30 (by decide) uF_X10_303 dX10_offer_60 ?_
          refine n_top (b := S 30 0) rfl ?_
          refine lv_iload_n hx hb dX10_offer_63 rfl (lv_at hl 2 rfl) ?_
          refine mo_st hx hb hK hal hW hS 28 (n := 10) (by decide) (by omega) dX10_offer_64 (fun H locs hW hS => ?_)
          have hD := hD.put 28 (S 30 0) mon (n := 10) rfl (by omega)
          refine lv_aload_n hx hb dX10_offer_65 rfl (lv_at hl 0 rfl) ?_
          refine mo_ga hx hb hu hown hK hal hW 29 (by decide) uF_X10_80 dX10_offer_66 ?_
          refine lv_aload_n hx hb dX10_offer_69 rfl (lv_at hl 0 rfl) ?_
          refine mo_gi hx hb hu hown hK hal hW hD 30 (by decide) uF_X10_303 dX10_offer_70 ?_
          refine n_top (b := S 30 0) rfl ?_
          refine lv_iload_n hx hb dX10_offer_73 rfl (lv_at hl 3 rfl) ?_
          refine mo_st hx hb hK hal hW hS 29 (n := 10) (by decide) (by omega) dX10_offer_74 (fun H locs hW hS => ?_)
          have hD := hD.put 29 (S 30 0) con (n := 10) rfl (by omega)
          refine lv_aload_n hx hb dX10_offer_75 rfl (lv_at hl 0 rfl) ?_
          refine lv_dup hx hb dX10_offer_76 rfl ?_
          refine mo_gi hx hb hu hown hK hal hW hD 30 (by decide) uF_X10_303 dX10_offer_77 ?_
          refine n_top (b := S 30 0) rfl ?_
          refine n_iconst (v := 1) hx hb dX10_offer_80 (by decide) ?_
          refine n_iadd hx hb dX10_offer_81 ?_
          refine mo_pi hx hb hu hown hK hal hW hS 30 (by decide +kernel) uF_X10_303 dX10_offer_82 (fun H locs hW hS => ?_)
          have hD := hD.putF 30 ((S 30 0) + 1) rfl
          refine lv_aload_n hx hb dX10_offer_85 rfl (lv_at hl 0 rfl) ?_
          refine mo_gi hx hb hu hown hK hal hW hD 30 (by decide) uF_X10_303 dX10_offer_86 ?_
          refine n_top (b := (S 30 0) + 1) rfl ?_
          exact o_iret hx hb hr hlocks hW hS (⟨by first | (simp only [aOffer, ix_nI hpin (by omega), nx_nI (j := pin) (by omega), rx_nI hmona hmon (by omega), nx_nI (j := mon) (by omega), rx_nI hcona hcon (by omega), nx_nI (j := con) (by omega), c_14, eq_self, ↓reduceIte, Bool.false_eq_true]; done) | (simp only [aOffer, ix_nI hpin (by omega), nx_nI (j := pin) (by omega), rx_nI hmona hmon (by omega), nx_nI (j := mon) (by omega), rx_nI hcona hcon (by omega), nx_nI (j := con) (by omega), c_14, eq_self, ↓reduceIte, Bool.false_eq_true]; rfl), by rw [show nOffer S (nI pin) (nI mon) (nI con) = upS (upS (upS (upS S 27 (S 30 0) pin) 28 (S 30 0) mon) 29 (S 30 0) con) 30 0 ((S 30 0) + 1) from by first | (simp only [nOffer, ix_nI hpin (by omega), nx_nI (j := pin) (by omega), rx_nI hmona hmon (by omega), nx_nI (j := mon) (by omega), rx_nI hcona hcon (by omega), nx_nI (j := con) (by omega), c_14, eq_self, ↓reduceIte, Bool.false_eq_true]; done) | (simp only [nOffer, ix_nI hpin (by omega), nx_nI (j := pin) (by omega), rx_nI hmona hmon (by omega), nx_nI (j := mon) (by omega), rx_nI hcona hcon (by omega), nx_nI (j := con) (by omega), c_14, eq_self, ↓reduceIte, Bool.false_eq_true]; rfl)]; exact ⟨hM.chg hD (((((hG.b.up 27 _ (mx := 7) rfl (by omega)).up 28 _ (mx := 99) rfl (by omega)).up 29 _ (mx := 999) rfl (by omega)).up 30 0 (mx := 10) rfl (by omega)).g ⟨hG.2.2.1, hG.2.2.2.1, hG.2.2.2.2.1, fun k hk => up_lt hpin (fun hk => hG.2.2.2.2.2.1 k hk) hk, hG.2.2.2.2.2.2⟩) rfl rfl rfl rfl rfl (fun p hp m n => sHE_cg (S := S) (S' := upS (upS (upS (upS S 27 (S 30 0) pin) 28 (S 30 0) mon) 29 (S 30 0) con) 30 0 ((S 30 0) + 1)) rfl rfl rfl rfl rfl rfl rfl m n) (fun l hl => ⟨rfl, rfl, rfl, rfl⟩) (Nat.le_refl _) (Nat.le_refl _), hR, ((((((FrP.refl d0).stI _ _ _ _ (by omega)).stI _ _ _ _ (by omega)).stI _ _ _ _ (by omega)).stI _ _ _ _ (by omega)).stI _ _ _ _ (by omega))⟩⟩) dX10_offer_89
        · refine lv_iconst (v := -1) hx hb dX10_offer_43 (by decide) ?_
          exact o_iret hx hb hr hlocks hW hS (⟨by first | (simp only [aOffer, ix_nI hpin (by omega), nx_nI (j := pin) (by omega), rx_nI hmona hmon (by omega), nx_nI (j := mon) (by omega), rx_nI hcona hcon (by omega), nx_nI (j := con) (by omega), c_14, eq_self, ↓reduceIte, Bool.false_eq_true]; done) | (simp only [aOffer, ix_nI hpin (by omega), nx_nI (j := pin) (by omega), rx_nI hmona hmon (by omega), nx_nI (j := mon) (by omega), rx_nI hcona hcon (by omega), nx_nI (j := con) (by omega), c_14, eq_self, ↓reduceIte, Bool.false_eq_true]; rfl), by rw [show nOffer S (nI pin) (nI mon) (nI con) = S from by first | (simp only [nOffer, ix_nI hpin (by omega), nx_nI (j := pin) (by omega), rx_nI hmona hmon (by omega), nx_nI (j := mon) (by omega), rx_nI hcona hcon (by omega), nx_nI (j := con) (by omega), c_14, eq_self, ↓reduceIte, Bool.false_eq_true]; done) | (simp only [nOffer, ix_nI hpin (by omega), nx_nI (j := pin) (by omega), rx_nI hmona hmon (by omega), nx_nI (j := mon) (by omega), rx_nI hcona hcon (by omega), nx_nI (j := con) (by omega), c_14, eq_self, ↓reduceIte, Bool.false_eq_true]; rfl)]; exact (MI.start (hM.thr 33 _ rfl)).pub hR⟩) dX10_offer_44
