set_option maxHeartbeats 400000 in
set_option maxRecDepth 100000 in
theorem c_X10_plan (l : Launch) (D : va_G) (cA : Nat → ClassId) (B0 : Nat) (ad : kA) (hal : mAl ad) (S : sS) (sr : Nat → Int32) (d0 : kD) (hM : InvM S d0) (hR : RowM S sr d0) (pi ai bi ni ki ei : Int32) : oM l yX10_plan wX10_plan 12 0 0 D cA B0 ad d0 ([.ref (ad.1 40 0), .int pi, .int ai, .int bi, .int ni, .int ki, .int ei] : List Value) (oQi D cA B0 ad (fun r d1 => r = aPlan S pi ai bi ni ki ei ∧ PI (nPlan S pi ai bi ni ki ei) (rPlan S sr pi ai bi ni ki ei) d0 d1)) := by
  refine o_ofW (cc := cX10_plan) (maxL := 13) (ret := some .int) (by decide) rfl (Nat.le_of_ble_eq_true rfl) ?_
  intro p e s m below meth c hx hb hr hml hts hown hlocks hnm hK hW hB hS ls hl
  have hu : ∀ w ∈ UW, w.before _ s = true := fun w h => hts w (uw_c w h)
  have hl : lv_has ls 13 [(0, .ref (ad.1 40 0)), (1, .int pi), (2, .int ai), (3, .int bi), (4, .int ni), (5, .int ki), (6, .int ei)] := hl
  refine lv_aload_n hx hb dX10_plan_0 rfl (lv_at hl 0 rfl) ?_
  refine n_iconst (v := 0) hx hb dX10_plan_1 (by decide) ?_
  refine mo_pi hx hb hu hown hK hal hW hS 33 (by decide +kernel) uF_X10_113 dX10_plan_2 (fun H locs hW hS => ?_)
  have hI : MI S (uI d0 40 0 33 (nI 0)) (uI d0 40 0 33 (nI 0)) := MI.start (hM.thr 33 _ rfl)
  have hG : sG S := hM.2.1
  have hb1 : S 1 0 ≤ 4 := hG.f 1 (mx := 4) (by decide)
  have hb7 : S 7 0 ≤ 8 := hG.f 7 (mx := 8) (by decide)
  have hb11 : S 11 0 ≤ 20 := hG.f 11 (mx := 20) (by decide)
  have hb18 : S 18 0 ≤ 40 := hG.f 18 (mx := 40) (by decide)
  have hb19 : S 19 0 ≤ 399 := hG.f 19 (mx := 399) (by decide)
  have hb22 : S 22 0 ≤ 64 := hG.f 22 (mx := 64) (by decide)
  have hb25 : S 25 0 ≤ 4 := hG.f 25 (mx := 4) (by decide)
  have hb30 : S 30 0 ≤ 10 := hG.f 30 (mx := 10) (by decide)
  have hb32 : S 32 0 ≤ 64 := hG.f 32 (mx := 64) (by decide)
  refine lv_aload_n hx hb dX10_plan_5 rfl (lv_at hl 0 rfl) ?_
  refine lv_iload_n hx hb dX10_plan_6 rfl (lv_at hl 1 rfl) ?_
  refine lv_iload_n hx hb dX10_plan_7 rfl (lv_at hl 2 rfl) ?_
  refine lv_iload_n hx hb dX10_plan_8 rfl (lv_at hl 3 rfl) ?_
  refine lv_iload hx hb dX10_plan_9 (lv_at hl 4 rfl) ?_
  refine lv_iload hx hb dX10_plan_11 (lv_at hl 6 rfl) ?_
  refine o_calli (o_runV (As := [.int pi, .int ai, .int bi, .int ni, .int ei]) (rest := []) ⟨hx, hb, hml, hown, hu⟩ (c_X10_isPlan l D cA B0 ad hal S (uI d0 40 0 33 (nI 0)) hI.dS hG pi ai bi ni ei ) (gV_X10_260 (fun _ h => h)) (n0 := 5) rfl (by decide +kernel) rfl ⟨Nat.le_of_ble_eq_true rfl, Nat.le_of_ble_eq_true rfl⟩ (o_recv hK hW hal.1 (kC_M _ _ _) rfl) hK hW hB hS hl.1 rfl (lv_room (Nat.le_of_ble_eq_true rfl)) ⟨Nat.zero_le _, Nat.zero_le _⟩ dX10_plan_13) hS (fun r_2 d_1 q_3 H locs hW hS => ?_)
  obtain ⟨rfl, rfl⟩ := q_3
  refine lv_if_eq (tgt := 29) hx hb dX10_plan_16 (by decide) (fun c_p => ?_) (fun c_p => ?_)
  · refine lv_iconst (v := -1) hx hb dX10_plan_29 (by decide) ?_
    exact o_iret hx hb hr hlocks hW hS (⟨by simp only [aPlan, bI_z c_p, eq_self, ↓reduceIte, Bool.false_eq_true], by simp only [nPlan, rPlan, bI_z c_p, eq_self, ↓reduceIte, Bool.false_eq_true]; exact hI.pub hR⟩) dX10_plan_30
  · have hspl := bI_n c_p
    obtain ⟨pin, ain, bin, nin, ein, hpin, hain, hbina, hbin, hnina, hnin, hdyl, hein, rfl, rfl, rfl, rfl, rfl⟩ := isPl_t hb7 hspl
    have hdyF : ∀ i, i < nin → dyF ain bin i < 400 := fun i hi => dyF_le hdyl hi
    refine lv_iload hx hb dX10_plan_19 (lv_at hl 5 rfl) ?_
    refine n_iconst (v := 1) hx hb dX10_plan_21 (by decide) ?_
    refine n_iconst (v := 3) hx hb dX10_plan_22 (by decide) ?_
    refine o_calli (o_runS (As := [.int ki, .int (nI 1), .int (nI 3)]) (rest := []) ⟨hx, hb, hml, hown, hu⟩ (c_X10_in l D cA B0 ad hal (uI d0 40 0 33 (nI 0)) ki (nI 1) (nI 3)) (gS_X10_119 (fun _ h => h)) (n0 := 3) rfl (by decide +kernel) rfl ⟨Nat.le_of_ble_eq_true rfl, Nat.le_of_ble_eq_true rfl⟩ hK hW hB hS hl.1 rfl (lv_room (Nat.le_of_ble_eq_true rfl)) ⟨Nat.zero_le _, Nat.zero_le _⟩ dX10_plan_23) hS (fun r_5 d_4 q_6 H locs hW hS => ?_)
    obtain ⟨rfl, rfl⟩ := q_6
    refine n_topi (y := bI (rx ki 1 3)) (in_rx (by omega) (by omega)) ?_
    refine lv_if_ne (tgt := 31) hx hb dX10_plan_26 (by decide) (fun c_7 => ?_) (fun c_7 => ?_)
    · obtain ⟨kin, hkina, hkin, rfl⟩ := rx_t (bI_n c_7) (by omega)
      refine lv_aload_n hx hb dX10_plan_31 rfl (lv_at hl 0 rfl) ?_
      refine lv_iload_n hx hb dX10_plan_32 rfl (lv_at hl 1 rfl) ?_
      refine lv_aload_n hx hb dX10_plan_33 rfl (lv_at hl 0 rfl) ?_
      refine mo_gi hx hb hu hown hK hal hW hI.dS 19 (by decide) uF_X10_55 dX10_plan_34 ?_
      have b_8 : S 19 0 ≤ 399 := hG.f 19 (mx := 399) (by decide)
      refine o_calll (o_runV (As := [.int (nI pin), .int (nI (S 19 0))]) (rest := []) ⟨hx, hb, hml, hown, hu⟩ (c_X10_keptOn l D cA B0 ad hal S (uI d0 40 0 33 (nI 0)) hI.1 pin (S 19 0) (by omega) (by omega)) (gV_X10_207 (fun _ h => h)) (n0 := 2) rfl (by decide +kernel) rfl ⟨Nat.le_of_ble_eq_true rfl, Nat.le_of_ble_eq_true rfl⟩ (o_recv hK hW hal.1 (kC_M _ _ _) rfl) hK hW hB hS hl.1 rfl (lv_room (Nat.le_of_ble_eq_true rfl)) ⟨Nat.zero_le _, Nat.zero_le _⟩ dX10_plan_37) hS (fun r_10 d_9 q_11 H locs hW hS => ?_)
      obtain ⟨rfl, hq⟩ := q_11
      have hI := hI.trans hq
      refine lv_lstore (lv' := [(7, .long (sKept S pin (S 19 0))), (0, .ref (ad.1 40 0)), (1, .int (nI pin)), (2, .int (nI ain)), (3, .int (nI bin)), (4, .int (nI nin)), (5, .int (nI kin)), (6, .int (nI ein))]) hx hb dX10_plan_40 hl (by decide) rfl (fun ls hl => ?_)
      refine lv_lload hx hb dX10_plan_42 (lv_at hl 0 rfl) ?_
      refine lv_lconst (v := 0) hx hb dX10_plan_44 (by decide) ?_
      refine W.lcmp hx hb dX10_plan_45 ?_
      refine lv_if_ne (tgt := 51) hx hb dX10_plan_46 (by decide) (fun c_z => ?_) (fun c_z => ?_)
      · have hz : ¬ sKept S pin (S 19 0) = 0 := lg0n c_z
        refine lv_aload_n hx hb dX10_plan_51 rfl (lv_at hl 1 rfl) ?_
        refine lv_iload_n hx hb dX10_plan_52 rfl (lv_at hl 2 rfl) ?_
        refine lv_iload_n hx hb dX10_plan_53 rfl (lv_at hl 3 rfl) ?_
        refine lv_iload_n hx hb dX10_plan_54 rfl (lv_at hl 4 rfl) ?_
        refine lv_iload hx hb dX10_plan_55 (lv_at hl 5 rfl) ?_
        refine lv_iload hx hb dX10_plan_57 (lv_at hl 7 rfl) ?_
        refine o_callv (o_runV (As := [.int (nI pin), .int (nI ain), .int (nI bin), .int (nI nin), .int (nI ein)]) (rest := []) ⟨hx, hb, hml, hown, hu⟩ (c_X10_beginPlan l D cA B0 ad hal S d_9 hI.1 pin ain bin nin ein (by omega)) (gV_X10_264 (fun _ h => h)) (n0 := 5) rfl (by decide +kernel) rfl ⟨Nat.le_of_ble_eq_true rfl, Nat.le_of_ble_eq_true rfl⟩ (o_recv hK hW hal.1 (kC_M _ _ _) rfl) hK hW hB hS hl.1 rfl (lv_room (Nat.le_of_ble_eq_true rfl)) ⟨Nat.zero_le _, Nat.zero_le _⟩ dX10_plan_59) hS (fun dB q_13 H locs hW hS => ?_)
        have hBG := q_13
        have hP0 := hBG.pi hI hR
        have hPD := hBG.pd
        have hI2 : MI S dB dB := MI.start hBG.1
        refine lv_lload hx hb dX10_plan_62 (lv_at hl 0 rfl) ?_
        refine o_calli (o_runS (As := [.long (sKept S pin (S 19 0))]) (rest := []) ⟨hx, hb, hml, hown, hu⟩ (c_X10_many l D cA B0 ad hal dB (sKept S pin (S 19 0))) (gS_X10_217 (fun _ h => h)) (n0 := 1) rfl (by decide +kernel) rfl ⟨Nat.le_of_ble_eq_true rfl, Nat.le_of_ble_eq_true rfl⟩ hK hW hB hS hl.1 rfl (lv_room (Nat.le_of_ble_eq_true rfl)) ⟨Nat.zero_le _, Nat.zero_le _⟩ dX10_plan_64) hS (fun r_15 d_14 q_16 H locs hW hS => ?_)
        obtain ⟨rfl, rfl⟩ := q_16
        have b_17 := popN_le (sKept S pin (S 19 0))
        refine lv_istore (lv' := [(9, .int (nI (popN (sKept S pin (S 19 0))))), (7, .long (sKept S pin (S 19 0))), (0, .ref (ad.1 40 0)), (1, .int (nI pin)), (2, .int (nI ain)), (3, .int (nI bin)), (4, .int (nI nin)), (5, .int (nI kin)), (6, .int (nI ein))]) hx hb dX10_plan_67 hl (by decide) rfl (fun ls hl => ?_)
        refine lv_iconst (v := -1) hx hb dX10_plan_69 (by decide) ?_
        refine lv_istore (lv' := [(10, .int (-1)), (9, .int (nI (popN (sKept S pin (S 19 0))))), (7, .long (sKept S pin (S 19 0))), (0, .ref (ad.1 40 0)), (1, .int (nI pin)), (2, .int (nI ain)), (3, .int (nI bin)), (4, .int (nI nin)), (5, .int (nI kin)), (6, .int (nI ein))]) hx hb dX10_plan_70 hl (by decide) rfl (fun ls hl => ?_)
        refine n_iconst (v := 0) hx hb dX10_plan_72 (by decide) ?_
        refine lv_istore (lv' := [(11, .int (nI 0)), (10, .int (-1)), (9, .int (nI (popN (sKept S pin (S 19 0))))), (7, .long (sKept S pin (S 19 0))), (0, .ref (ad.1 40 0)), (1, .int (nI pin)), (2, .int (nI ain)), (3, .int (nI bin)), (4, .int (nI nin)), (5, .int (nI kin)), (6, .int (nI ein))]) hx hb dX10_plan_73 hl (by decide) rfl (fun ls hl => ?_)
        have lp75 : ∀ (n : Nat) (be : Nat) (dz : Int32) (i1 : Nat)  (d : kD) (H : Heap) (locs : List Loc) (ls : Array Slot), nin - i1 < n → (i1 ≤ nin) → (MI S dB d) → (PD d pin ein (dyF ain bin) nin) → (be = (plB S pin ein (dyF ain bin) nin (kin - 1) (sKept S pin (S 19 0)) i1).1) → (dz = (plB S pin ein (dyF ain bin) nin (kin - 1) (sKept S pin (S 19 0)) i1).2) → oW D cA B0 ad d H → va_S (oA B0) s.heap H locs → lv_has ls 13 [(0, .ref (ad.1 40 0)), (1, .int (nI pin)), (2, .int (nI ain)), (3, .int (nI bin)), (4, .int (nI nin)), (5, .int (nI kin)), (6, .int (nI ein)), (7, .long (sKept S pin (S 19 0))), (9, .int (nI be)), (10, .int dz), (11, .int (nI i1))] → W p l e (oR 12 0 0) s m ([.ref (ad.1 40 0), .int (nI pin), .int (nI ain), .int (nI bin), .int (nI nin), .int (nI kin), .int (nI ein)] : List Value).toArray below meth c H locs 0 0 (MQ below (oQi D cA B0 ad (fun r d1 => r = aPlan S (nI pin) (nI ain) (nI bin) (nI nin) (nI kin) (nI ein) ∧ PI (nPlan S (nI pin) (nI ain) (nI bin) (nI nin) (nI kin) (nI ein)) (rPlan S sr (nI pin) (nI ain) (nI bin) (nI nin) (nI kin) (nI ein)) d0 d1)) ([.ref (ad.1 40 0), .int (nI pin), .int (nI ain), .int (nI bin), .int (nI nin), .int (nI kin), .int (nI ein)] : List Value).toArray s 0 0 (oA B0)) (F0 m 75 ls []) := by
          intro n
          induction n with
          | zero => intro be dz i1  d H locs ls hmu; exact absurd hmu (Nat.not_lt_zero _)
          | succ n ih_lp75 =>
            intro be dz i1  d H locs ls hmu hi1 hI2 hPD hbe hdd hW hS hl
            have hpl := plB_le S pin ein (dyF ain bin) nin (kin - 1) (sKept S pin (S 19 0)) i1
            refine lv_iload hx hb dX10_plan_75 (lv_at hl 10 rfl) ?_
            refine lv_iload hx hb dX10_plan_77 (lv_at hl 4 rfl) ?_
            refine n_icmp_ge (tgt := 125) hx hb (by omega) (by omega) dX10_plan_79 (by decide) (fun c_18 => ?_) (fun c_18 => ?_)
            · have hin : i1 = nin := by omega
              have hP := hP0.mi hI2
              refine lv_aload_n hx hb dX10_plan_125 rfl (lv_at hl 0 rfl) ?_
              refine n_iconst (v := 0) hx hb dX10_plan_126 (by decide) ?_
              refine mo_pi hx hb hu hown hK hal hW hS 32 (by decide +kernel) uF_X10_123 dX10_plan_127 (fun H locs hW hS => ?_)
              have hP := hP.row0 (fun _ => 0)
              refine lv_aload_n hx hb dX10_plan_130 rfl (lv_at hl 0 rfl) ?_
              refine lv_iload hx hb dX10_plan_131 (lv_at hl 9 rfl) ?_
              refine o_callv (o_runV (As := [.int dz]) (rest := []) ⟨hx, hb, hml, hown, hu⟩ (c_X10_tell l D cA B0 ad hal (upS S 32 0 0) (uI d 40 0 32 (nI 0)) hP.1.1 hP.1.2.1 dz (show 0 < 64 from by omega)) (gV_X10_211 (fun _ h => h)) (n0 := 1) rfl (by decide +kernel) rfl ⟨Nat.le_of_ble_eq_true rfl, Nat.le_of_ble_eq_true rfl⟩ (o_recv hK hW hal.1 (kC_M _ _ _) rfl) hK hW hB hS hl.1 rfl (lv_room (Nat.le_of_ble_eq_true rfl)) ⟨Nat.zero_le _, Nat.zero_le _⟩ dX10_plan_133) hS (fun d_19 q_21 H locs hW hS => ?_)
              subst q_21
              have hP := hP.tell (show 0 < 64 from by omega) dz
              refine lv_iload hx hb dX10_plan_136 (lv_at hl 8 rfl) ?_
              exact o_iret hx hb hr hlocks hW hS (⟨by simp only [aPlan, hspl, nx_nI (j := pin) (by omega), nx_nI (j := ain) (by omega), nx_nI (j := bin) (by omega), nx_nI (j := nin) (by omega), nx_nI (j := ein) (by omega), rx_nI hkina hkin (by omega), nx_nI (j := kin) (by omega), hz, eq_self, ↓reduceIte, Bool.false_eq_true]; unfold plA; rw [hbe, hin], by simp only [nPlan, rPlan, hspl, nx_nI (j := pin) (by omega), nx_nI (j := ain) (by omega), nx_nI (j := bin) (by omega), nx_nI (j := nin) (by omega), nx_nI (j := ein) (by omega), rx_nI hkina hkin (by omega), nx_nI (j := kin) (by omega), hz, eq_self, ↓reduceIte, Bool.false_eq_true]; rw [show (plA S pin ain bin nin kin ein).2 = dz by rw [hdd, hin]; rfl]; exact hP⟩) dX10_plan_138
            · refine lv_aload_n hx hb dX10_plan_82 rfl (lv_at hl 0 rfl) ?_
              refine lv_lload hx hb dX10_plan_83 (lv_at hl 7 rfl) ?_
              refine lv_iload hx hb dX10_plan_85 (lv_at hl 10 rfl) ?_
              refine lv_iload hx hb dX10_plan_87 (lv_at hl 5 rfl) ?_
              refine lv_iload hx hb dX10_plan_89 (lv_at hl 8 rfl) ?_
              refine o_calli (o_runV (As := [.long (sKept S pin (S 19 0)), .int (nI i1), .int (nI kin), .int (nI be)]) (rest := []) ⟨hx, hb, hml, hown, hu⟩ (c_X10_behind_u l D cA B0 ad hal S d hI2.1 pin ein nin (dyF ain bin) hPD hpin (by omega) (by omega) hdyF (sKept S pin (S 19 0)) i1 kin be (by omega) (by omega) (by omega) (by omega)) (gV_X10_253 (fun _ h => h)) (n0 := 4) rfl (by decide +kernel) rfl ⟨Nat.le_of_ble_eq_true rfl, Nat.le_of_ble_eq_true rfl⟩ (o_recv hK hW hal.1 (kC_M _ _ _) rfl) hK hW hB hS hl.1 rfl (lv_room (Nat.le_of_ble_eq_true rfl)) ⟨Nat.zero_le _, Nat.zero_le _⟩ dX10_plan_91) hS (fun r_23 d_22 q_24 H locs hW hS => ?_)
              obtain ⟨r_23v, rfl, r_23a, r_23b, hq⟩ := q_24
              have hI2 := hI2.trans hq
              have hPD := hPD.mi hq
              have hvb : min r_23v be = min (bhV S pin ein (dyF ain bin) nin (kin - 1) (sKept S pin (S 19 0)) i1) be := r_23b
              refine lv_istore (lv' := [(12, .int (nI r_23v)), (0, .ref (ad.1 40 0)), (1, .int (nI pin)), (2, .int (nI ain)), (3, .int (nI bin)), (4, .int (nI nin)), (5, .int (nI kin)), (6, .int (nI ein)), (7, .long (sKept S pin (S 19 0))), (9, .int (nI be)), (10, .int dz), (11, .int (nI i1))]) hx hb dX10_plan_94 hl (by decide) rfl (fun ls hl => ?_)
              refine lv_iload hx hb dX10_plan_96 (lv_at hl 0 rfl) ?_
              refine lv_iload hx hb dX10_plan_98 (lv_at hl 9 rfl) ?_
              refine n_icmp_lt (tgt := 106) hx hb (by omega) (by omega) dX10_plan_100 (by decide) (fun c_w => ?_) (fun c_w => ?_)
              · have hst : plB S pin ein (dyF ain bin) nin (kin - 1) (sKept S pin (S 19 0)) (i1 + 1) = (bhV S pin ein (dyF ain bin) nin (kin - 1) (sKept S pin (S 19 0)) i1, nI (dyF ain bin i1)) := by rw [plB, if_pos (by rw [← hbe]; omega)]
                refine lv_iload hx hb dX10_plan_106 (lv_at hl 0 rfl) ?_
                refine lv_istore (lv' := [(9, .int (nI r_23v)), (12, .int (nI r_23v)), (0, .ref (ad.1 40 0)), (1, .int (nI pin)), (2, .int (nI ain)), (3, .int (nI bin)), (4, .int (nI nin)), (5, .int (nI kin)), (6, .int (nI ein)), (7, .long (sKept S pin (S 19 0))), (10, .int dz), (11, .int (nI i1))]) hx hb dX10_plan_108 hl (by decide) rfl (fun ls hl => ?_)
                refine lv_aload_n hx hb dX10_plan_110 rfl (lv_at hl 2 rfl) ?_
                refine mo_ga hx hb hu hown hK hal hW 39 (by decide) uF_X10_104 dX10_plan_111 ?_
                refine lv_iload hx hb dX10_plan_114 (lv_at hl 11 rfl) ?_
                refine mo_lr hx hb hK hal hW 39 (n := 6) (by decide) (by omega) dX10_plan_116 ?_
                refine n_topi (y := nI (dyF ain bin i1)) (hPD.2.2.2 i1 (by omega)) ?_
                refine lv_istore (lv' := [(10, .int (nI (dyF ain bin i1))), (9, .int (nI r_23v)), (12, .int (nI r_23v)), (0, .ref (ad.1 40 0)), (1, .int (nI pin)), (2, .int (nI ain)), (3, .int (nI bin)), (4, .int (nI nin)), (5, .int (nI kin)), (6, .int (nI ein)), (7, .long (sKept S pin (S 19 0))), (11, .int (nI i1))]) hx hb dX10_plan_117 hl (by decide) rfl (fun ls hl => ?_)
                refine n_iinc (q := 1) (lv' := [(11, .int (nI (i1 + 1))), (10, .int (nI (dyF ain bin i1))), (9, .int (nI r_23v)), (12, .int (nI r_23v)), (0, .ref (ad.1 40 0)), (1, .int (nI pin)), (2, .int (nI ain)), (3, .int (nI bin)), (4, .int (nI nin)), (5, .int (nI kin)), (6, .int (nI ein)), (7, .long (sKept S pin (S 19 0)))]) hx hb dX10_plan_119 hl (k := 11) rfl (by decide) (by decide) rfl (fun ls hl => ?_)
                refine lv_goto (tgt := 75) hx hb dX10_plan_122 (by decide) ?_
                exact ih_lp75 r_23v (nI (dyF ain bin i1)) (i1 + 1) d_22 _ _ ls (by omega) (by omega) hI2 hPD (by first | (rw [hst]; exact hbe) | (rw [hst]; show _ = bhV S pin ein (dyF ain bin) nin (kin - 1) _ i1; omega)) (by first | (rw [hst]; done) | (rw [hst]; exact hdd)) hW hS (lv_sub hl [4, 5, 6, 7, 8, 9, 10, 11, 2, 1, 0] rfl)
              · have hst : plB S pin ein (dyF ain bin) nin (kin - 1) (sKept S pin (S 19 0)) (i1 + 1) = plB S pin ein (dyF ain bin) nin (kin - 1) (sKept S pin (S 19 0)) i1 := by rw [plB, if_neg (by rw [← hbe]; omega)]
                refine lv_goto (tgt := 119) hx hb dX10_plan_103 (by decide) ?_
                refine n_iinc (q := 1) (lv' := [(11, .int (nI (i1 + 1))), (12, .int (nI r_23v)), (0, .ref (ad.1 40 0)), (1, .int (nI pin)), (2, .int (nI ain)), (3, .int (nI bin)), (4, .int (nI nin)), (5, .int (nI kin)), (6, .int (nI ein)), (7, .long (sKept S pin (S 19 0))), (9, .int (nI be)), (10, .int dz)]) hx hb dX10_plan_119 hl (k := 11) rfl (by decide) (by decide) rfl (fun ls hl => ?_)
                refine lv_goto (tgt := 75) hx hb dX10_plan_122 (by decide) ?_
                exact ih_lp75 be dz (i1 + 1) d_22 _ _ ls (by omega) (by omega) hI2 hPD (by first | (rw [hst]; exact hbe) | (rw [hst]; show _ = bhV S pin ein (dyF ain bin) nin (kin - 1) _ i1; omega)) (by first | (rw [hst]; done) | (rw [hst]; exact hdd)) hW hS (lv_sub hl [2, 3, 4, 5, 6, 7, 8, 9, 10, 11, 0] rfl)
        exact lp75 (nin + 1) (popN (sKept S pin (S 19 0))) (-1) 0 dB _ _ ls (by omega) (by omega) hI2 hPD rfl rfl hW hS (lv_sub hl [4, 5, 6, 7, 8, 9, 10, 3, 2, 1, 0] rfl)
      · have hz : sKept S pin (S 19 0) = 0 := lg0 c_z
        refine lv_iconst (v := -1) hx hb dX10_plan_49 (by decide) ?_
        exact o_iret hx hb hr hlocks hW hS (⟨by simp only [aPlan, hspl, nx_nI (j := pin) (by omega), nx_nI (j := ain) (by omega), nx_nI (j := bin) (by omega), nx_nI (j := nin) (by omega), nx_nI (j := ein) (by omega), rx_nI hkina hkin (by omega), nx_nI (j := kin) (by omega), hz, eq_self, ↓reduceIte, Bool.false_eq_true], by simp only [nPlan, rPlan, hspl, nx_nI (j := pin) (by omega), nx_nI (j := ain) (by omega), nx_nI (j := bin) (by omega), nx_nI (j := nin) (by omega), nx_nI (j := ein) (by omega), rx_nI hkina hkin (by omega), nx_nI (j := kin) (by omega), hz, eq_self, ↓reduceIte, Bool.false_eq_true]; exact hI.pub hR⟩) dX10_plan_50
    · refine lv_iconst (v := -1) hx hb dX10_plan_29 (by decide) ?_
      exact o_iret hx hb hr hlocks hW hS (⟨by simp only [aPlan, hspl, nx_nI (j := pin) (by omega), nx_nI (j := ain) (by omega), nx_nI (j := bin) (by omega), nx_nI (j := nin) (by omega), nx_nI (j := ein) (by omega), bI_z c_7, eq_self, ↓reduceIte, Bool.false_eq_true], by simp only [nPlan, rPlan, hspl, nx_nI (j := pin) (by omega), nx_nI (j := ain) (by omega), nx_nI (j := bin) (by omega), nx_nI (j := nin) (by omega), nx_nI (j := ein) (by omega), bI_z c_7, eq_self, ↓reduceIte, Bool.false_eq_true]; exact hI.pub hR⟩) dX10_plan_30
