set_option maxHeartbeats 400000 in
set_option maxRecDepth 100000 in
theorem c_X10_next (l : Launch) (D : va_G) (cA : Nat → ClassId) (B0 : Nat) (ad : kA) (hal : mAl ad) (S : sS) (sr : Nat → Int32) (d0 : kD) (hM : InvM S d0) (hR : RowM S sr d0) (pi a b ei : Int32) : oM l yX10_next wX10_next 9 0 0 D cA B0 ad d0 ([.ref (ad.1 40 0), .int pi, .int a, .int b, .int ei] : List Value) (oQi D cA B0 ad (fun r d1 => r = aNext S pi a b ei ∧ PI (nNext S pi a b ei) (rNext S sr pi a b ei) d0 d1)) := by
  refine o_ofW (cc := cX10_next) (maxL := 11) (ret := some .int) (by decide) rfl (Nat.le_of_ble_eq_true rfl) ?_
  intro p e s m below meth c hx hb hr hml hts hown hlocks hnm hK hW hB hS ls hl
  have hu : ∀ w ∈ UW, w.before _ s = true := fun w h => hts w (uw_c w h)
  have hl : lv_has ls 11 [(0, .ref (ad.1 40 0)), (1, .int pi), (2, .int a), (3, .int b), (4, .int ei)] := hl
  refine lv_aload_n hx hb dX10_next_0 rfl (lv_at hl 0 rfl) ?_
  refine n_iconst (v := 0) hx hb dX10_next_1 (by decide) ?_
  refine mo_pi hx hb hu hown hK hal hW hS 33 (by decide +kernel) uF_X10_113 dX10_next_2 (fun H locs hW hS => ?_)
  have hI : MI S (uI d0 40 0 33 (nI 0)) (uI d0 40 0 33 (nI 0)) := MI.start (hM.thr 33 _ rfl)
  have hG : sG S := hM.2.1
  have hb1 : S 1 0 ≤ 4 := hG.f 1 (mx := 4) (by decide)
  have hb7 : S 7 0 ≤ 8 := hG.f 7 (mx := 8) (by decide)
  have hb11 : S 11 0 ≤ 20 := hG.f 11 (mx := 20) (by decide)
  have hb18 : S 18 0 ≤ 40 := hG.f 18 (mx := 40) (by decide)
  have hb19 : S 19 0 ≤ 399 := hG.f 19 (mx := 399) (by decide)
  have hb22 : S 22 0 ≤ 64 := hG.f 22 (mx := 64) (by decide)
  have hb25 : S 25 0 ≤ 4 := hG.f 25 (mx := 4) (by decide)
  have hb30 : S 30 0 ≤ 10 := hG.f 30 (mx := 10) (by decide)
  have hb32 : S 32 0 ≤ 64 := hG.f 32 (mx := 64) (by decide)
  refine lv_aload_n hx hb dX10_next_5 rfl (lv_at hl 0 rfl) ?_
  refine lv_iload_n hx hb dX10_next_6 rfl (lv_at hl 1 rfl) ?_
  refine o_calli (o_runV (As := [.int pi]) (rest := []) ⟨hx, hb, hml, hown, hu⟩ (c_X10_isPier l D cA B0 ad hal S (uI d0 40 0 33 (nI 0)) hI.dS hG pi ) (gV_X10_145 (fun _ h => h)) (n0 := 1) rfl (by decide +kernel) rfl ⟨Nat.le_of_ble_eq_true rfl, Nat.le_of_ble_eq_true rfl⟩ (o_recv hK hW hal.1 (kC_M _ _ _) rfl) hK hW hB hS hl.1 rfl (lv_room (Nat.le_of_ble_eq_true rfl)) ⟨Nat.zero_le _, Nat.zero_le _⟩ dX10_next_7) hS (fun r_2 d_1 q_3 H locs hW hS => ?_)
  obtain ⟨rfl, rfl⟩ := q_3
  refine lv_if_eq (tgt := 39) hx hb dX10_next_10 (by decide) (fun c_4 => ?_) (fun c_4 => ?_)
  · refine lv_iconst (v := -1) hx hb dX10_next_39 (by decide) ?_
    exact o_iret hx hb hr hlocks hW hS (⟨by simp only [aNext, bI_z c_4, eq_self, ↓reduceIte, Bool.false_eq_true], by simp only [nNext, rNext, bI_z c_4, eq_self, ↓reduceIte, Bool.false_eq_true]; exact hI.pub hR⟩) dX10_next_40
  · obtain ⟨pin, hpin, rfl⟩ := ix_t (bI_n c_4) (by omega)
    refine lv_iload_n hx hb dX10_next_13 rfl (lv_at hl 2 rfl) ?_
    refine o_calli (o_runS (As := [.int a]) (rest := []) ⟨hx, hb, hml, hown, hu⟩ (c_X10_isDay l D cA B0 ad hal (uI d0 40 0 33 (nI 0)) a) (gS_X10_126 (fun _ h => h)) (n0 := 1) rfl (by decide +kernel) rfl ⟨Nat.le_of_ble_eq_true rfl, Nat.le_of_ble_eq_true rfl⟩ hK hW hB hS hl.1 rfl (lv_room (Nat.le_of_ble_eq_true rfl)) ⟨Nat.zero_le _, Nat.zero_le _⟩ dX10_next_14) hS (fun r_6 d_5 q_7 H locs hW hS => ?_)
    obtain ⟨rfl, rfl⟩ := q_7
    refine lv_if_eq (tgt := 39) hx hb dX10_next_17 (by decide) (fun c_8 => ?_) (fun c_8 => ?_)
    · refine lv_iconst (v := -1) hx hb dX10_next_39 (by decide) ?_
      exact o_iret hx hb hr hlocks hW hS (⟨by simp only [aNext, ix_nI hpin (by omega), nx_nI (j := pin) (by omega), bI_z c_8, eq_self, ↓reduceIte, Bool.false_eq_true], by simp only [nNext, rNext, ix_nI hpin (by omega), nx_nI (j := pin) (by omega), bI_z c_8, eq_self, ↓reduceIte, Bool.false_eq_true]; exact hI.pub hR⟩) dX10_next_40
    · obtain ⟨an, han, rfl⟩ := ix_t (bI_n c_8) (by omega)
      refine lv_iload_n hx hb dX10_next_20 rfl (lv_at hl 3 rfl) ?_
      refine lv_iload_n hx hb dX10_next_21 rfl (lv_at hl 2 rfl) ?_
      refine n_sipush (v := 399) hx hb dX10_next_22 (by decide) ?_
      refine o_calli (o_runS (As := [.int b, .int (nI an), .int (nI 399)]) (rest := []) ⟨hx, hb, hml, hown, hu⟩ (c_X10_in l D cA B0 ad hal (uI d0 40 0 33 (nI 0)) b (nI an) (nI 399)) (gS_X10_119 (fun _ h => h)) (n0 := 3) rfl (by decide +kernel) rfl ⟨Nat.le_of_ble_eq_true rfl, Nat.le_of_ble_eq_true rfl⟩ hK hW hB hS hl.1 rfl (lv_room (Nat.le_of_ble_eq_true rfl)) ⟨Nat.zero_le _, Nat.zero_le _⟩ dX10_next_25) hS (fun r_10 d_9 q_11 H locs hW hS => ?_)
      obtain ⟨rfl, rfl⟩ := q_11
      refine n_topi (y := bI (rx b an 399)) (in_rx (by omega) (by omega)) ?_
      refine lv_if_eq (tgt := 39) hx hb dX10_next_28 (by decide) (fun c_12 => ?_) (fun c_12 => ?_)
      · refine lv_iconst (v := -1) hx hb dX10_next_39 (by decide) ?_
        exact o_iret hx hb hr hlocks hW hS (⟨by simp only [aNext, ix_nI hpin (by omega), nx_nI (j := pin) (by omega), ix_nI han (by omega), nx_nI (j := an) (by omega), bI_z c_12, eq_self, ↓reduceIte, Bool.false_eq_true], by simp only [nNext, rNext, ix_nI hpin (by omega), nx_nI (j := pin) (by omega), ix_nI han (by omega), nx_nI (j := an) (by omega), bI_z c_12, eq_self, ↓reduceIte, Bool.false_eq_true]; exact hI.pub hR⟩) dX10_next_40
      · obtain ⟨bn, hbna, hbn, rfl⟩ := rx_t (bI_n c_12) (by omega)
        refine lv_iload hx hb dX10_next_31 (lv_at hl 4 rfl) ?_
        refine o_calli (o_runS (As := [.int ei]) (rest := []) ⟨hx, hb, hml, hown, hu⟩ (c_X10_isErrs l D cA B0 ad hal (uI d0 40 0 33 (nI 0)) ei) (gS_X10_237 (fun _ h => h)) (n0 := 1) rfl (by decide +kernel) rfl ⟨Nat.le_of_ble_eq_true rfl, Nat.le_of_ble_eq_true rfl⟩ hK hW hB hS hl.1 rfl (lv_room (Nat.le_of_ble_eq_true rfl)) ⟨Nat.zero_le _, Nat.zero_le _⟩ dX10_next_33) hS (fun r_14 d_13 q_15 H locs hW hS => ?_)
        obtain ⟨rfl, rfl⟩ := q_15
        refine lv_if_ne (tgt := 41) hx hb dX10_next_36 (by decide) (fun c_16 => ?_) (fun c_16 => ?_)
        · obtain ⟨ein, hein, rfl⟩ := ix_t (bI_n c_16) (by omega)
          refine lv_aload_n hx hb dX10_next_41 rfl (lv_at hl 0 rfl) ?_
          refine lv_iload_n hx hb dX10_next_42 rfl (lv_at hl 1 rfl) ?_
          refine lv_aload_n hx hb dX10_next_43 rfl (lv_at hl 0 rfl) ?_
          refine mo_gi hx hb hu hown hK hal hW hI.dS 19 (by decide) uF_X10_55 dX10_next_44 ?_
          have b_17 : S 19 0 ≤ 399 := hG.f 19 (mx := 399) (by decide)
          refine o_calll (o_runV (As := [.int (nI pin), .int (nI (S 19 0))]) (rest := []) ⟨hx, hb, hml, hown, hu⟩ (c_X10_keptOn l D cA B0 ad hal S (uI d0 40 0 33 (nI 0)) hI.1 pin (S 19 0) (by omega) (by omega)) (gV_X10_207 (fun _ h => h)) (n0 := 2) rfl (by decide +kernel) rfl ⟨Nat.le_of_ble_eq_true rfl, Nat.le_of_ble_eq_true rfl⟩ (o_recv hK hW hal.1 (kC_M _ _ _) rfl) hK hW hB hS hl.1 rfl (lv_room (Nat.le_of_ble_eq_true rfl)) ⟨Nat.zero_le _, Nat.zero_le _⟩ dX10_next_47) hS (fun r_19 d_18 q_20 H locs hW hS => ?_)
          obtain ⟨rfl, hq⟩ := q_20
          have hI := hI.trans hq
          refine lv_lstore (lv' := [(5, .long (sKept S pin (S 19 0))), (0, .ref (ad.1 40 0)), (1, .int (nI pin)), (2, .int (nI an)), (3, .int (nI bn)), (4, .int (nI ein))]) hx hb dX10_next_50 hl (by decide) rfl (fun ls hl => ?_)
          refine lv_lload hx hb dX10_next_52 (lv_at hl 0 rfl) ?_
          refine lv_lconst (v := 0) hx hb dX10_next_54 (by decide) ?_
          refine W.lcmp hx hb dX10_next_55 ?_
          refine lv_if_ne (tgt := 61) hx hb dX10_next_56 (by decide) (fun c_z => ?_) (fun c_z => ?_)
          · have hz : ¬ sKept S pin (S 19 0) = 0 := lg0n c_z
            refine lv_iconst (v := -1) hx hb dX10_next_61 (by decide) ?_
            refine lv_istore (lv' := [(7, .int (-1)), (5, .long (sKept S pin (S 19 0))), (0, .ref (ad.1 40 0)), (1, .int (nI pin)), (2, .int (nI an)), (3, .int (nI bn)), (4, .int (nI ein))]) hx hb dX10_next_62 hl (by decide) rfl (fun ls hl => ?_)
            refine n_bipush (v := 65) hx hb dX10_next_64 (by decide) ?_
            refine lv_istore (lv' := [(8, .int (nI 65)), (7, .int (-1)), (5, .long (sKept S pin (S 19 0))), (0, .ref (ad.1 40 0)), (1, .int (nI pin)), (2, .int (nI an)), (3, .int (nI bn)), (4, .int (nI ein))]) hx hb dX10_next_66 hl (by decide) rfl (fun ls hl => ?_)
            refine lv_iload_n hx hb dX10_next_68 rfl (lv_at hl 5 rfl) ?_
            refine lv_istore (lv' := [(9, .int (nI an)), (8, .int (nI 65)), (7, .int (-1)), (5, .long (sKept S pin (S 19 0))), (0, .ref (ad.1 40 0)), (1, .int (nI pin)), (2, .int (nI an)), (3, .int (nI bn)), (4, .int (nI ein))]) hx hb dX10_next_69 hl (by decide) rfl (fun ls hl => ?_)
            have lp71 : ∀ (n : Nat) (be : Int32) (le : Nat) (dy : Nat)  (d : kD) (H : Heap) (locs : List Loc) (ls : Array Slot), bn + 1 - dy < n → (an ≤ dy) → (dy ≤ bn + 1) → (MI S (uI d0 40 0 33 (nI 0)) d) → (be = (nxL S pin (sKept S pin (S 19 0)) ein an (dy - an)).2) → (le = (nxL S pin (sKept S pin (S 19 0)) ein an (dy - an)).1) → oW D cA B0 ad d H → va_S (oA B0) s.heap H locs → lv_has ls 11 [(0, .ref (ad.1 40 0)), (1, .int (nI pin)), (2, .int (nI an)), (3, .int (nI bn)), (4, .int (nI ein)), (5, .long (sKept S pin (S 19 0))), (7, .int be), (8, .int (nI le)), (9, .int (nI dy))] → W p l e (oR 9 0 0) s m ([.ref (ad.1 40 0), .int (nI pin), .int (nI an), .int (nI bn), .int (nI ein)] : List Value).toArray below meth c H locs 0 0 (MQ below (oQi D cA B0 ad (fun r d1 => r = aNext S (nI pin) (nI an) (nI bn) (nI ein) ∧ PI (nNext S (nI pin) (nI an) (nI bn) (nI ein)) (rNext S sr (nI pin) (nI an) (nI bn) (nI ein)) d0 d1)) ([.ref (ad.1 40 0), .int (nI pin), .int (nI an), .int (nI bn), .int (nI ein)] : List Value).toArray s 0 0 (oA B0)) (F0 m 71 ls []) := by
              intro n
              induction n with
              | zero => intro be le dy  d H locs ls hmu; exact absurd hmu (Nat.not_lt_zero _)
              | succ n ih_lp71 =>
                intro be le dy  d H locs ls hmu hd1 hd2 hI hbe hle hW hS hl
                have hnl := nxL_le S pin (sKept S pin (S 19 0)) ein an (dy - an)
                refine lv_iload hx hb dX10_next_71 (lv_at hl 8 rfl) ?_
                refine lv_iload_n hx hb dX10_next_73 rfl (lv_at hl 3 rfl) ?_
                refine n_icmp_gt (tgt := 114) hx hb (by omega) (by omega) dX10_next_74 (by decide) (fun c_21 => ?_) (fun c_21 => ?_)
                · have hdy : dy = bn + 1 := by omega
                  have hP := hI.pub hR
                  refine lv_aload_n hx hb dX10_next_114 rfl (lv_at hl 0 rfl) ?_
                  refine n_iconst (v := 0) hx hb dX10_next_115 (by decide) ?_
                  refine mo_pi hx hb hu hown hK hal hW hS 32 (by decide +kernel) uF_X10_123 dX10_next_116 (fun H locs hW hS => ?_)
                  have hP := hP.row0 (fun _ => 0)
                  refine lv_aload_n hx hb dX10_next_119 rfl (lv_at hl 0 rfl) ?_
                  refine lv_iload hx hb dX10_next_120 (lv_at hl 7 rfl) ?_
                  refine o_callv (o_runV (As := [.int (nI le)]) (rest := []) ⟨hx, hb, hml, hown, hu⟩ (c_X10_tell l D cA B0 ad hal (upS S 32 0 0) (uI d 40 0 32 (nI 0)) hP.1.1 hP.1.2.1 (nI le) (show 0 < 64 from by omega)) (gV_X10_211 (fun _ h => h)) (n0 := 1) rfl (by decide +kernel) rfl ⟨Nat.le_of_ble_eq_true rfl, Nat.le_of_ble_eq_true rfl⟩ (o_recv hK hW hal.1 (kC_M _ _ _) rfl) hK hW hB hS hl.1 rfl (lv_room (Nat.le_of_ble_eq_true rfl)) ⟨Nat.zero_le _, Nat.zero_le _⟩ dX10_next_122) hS (fun d_22 q_24 H locs hW hS => ?_)
                  subst q_24
                  have hP := hP.tell (show 0 < 64 from by omega) (nI le)
                  refine lv_iload hx hb dX10_next_125 (lv_at hl 6 rfl) ?_
                  exact o_iret hx hb hr hlocks hW hS (⟨by simp only [aNext, ix_nI hpin (by omega), nx_nI (j := pin) (by omega), ix_nI han (by omega), nx_nI (j := an) (by omega), rx_nI hbna hbn (by omega), nx_nI (j := bn) (by omega), ix_nI hein (by omega), nx_nI (j := ein) (by omega), hz, eq_self, ↓reduceIte, Bool.false_eq_true]; rw [hbe, hdy]; rfl, by simp only [nNext, rNext, ix_nI hpin (by omega), nx_nI (j := pin) (by omega), ix_nI han (by omega), nx_nI (j := an) (by omega), rx_nI hbna hbn (by omega), nx_nI (j := bn) (by omega), ix_nI hein (by omega), nx_nI (j := ein) (by omega), hz, eq_self, ↓reduceIte, Bool.false_eq_true]; rw [show (nxA S pin an bn ein).1 = le by rw [hle, hdy]; rfl]; exact hP⟩) dX10_next_127
                · refine lv_aload_n hx hb dX10_next_77 rfl (lv_at hl 0 rfl) ?_
                  refine lv_iload_n hx hb dX10_next_78 rfl (lv_at hl 1 rfl) ?_
                  refine lv_lload hx hb dX10_next_79 (lv_at hl 5 rfl) ?_
                  refine lv_iload hx hb dX10_next_81 (lv_at hl 8 rfl) ?_
                  refine lv_iload hx hb dX10_next_83 (lv_at hl 4 rfl) ?_
                  refine o_calli (o_runV (As := [.int (nI pin), .long (sKept S pin (S 19 0)), .int (nI dy), .int (nI ein)]) (rest := []) ⟨hx, hb, hml, hown, hu⟩ (c_X10_worstOf l D cA B0 ad hal S d hI.1 pin (sKept S pin (S 19 0)) dy ein (by omega) (by omega) (by omega)) (gV_X10_240 (fun _ h => h)) (n0 := 4) rfl (by decide +kernel) rfl ⟨Nat.le_of_ble_eq_true rfl, Nat.le_of_ble_eq_true rfl⟩ (o_recv hK hW hal.1 (kC_M _ _ _) rfl) hK hW hB hS hl.1 rfl (lv_room (Nat.le_of_ble_eq_true rfl)) ⟨Nat.zero_le _, Nat.zero_le _⟩ dX10_next_85) hS (fun r_26 d_25 q_27 H locs hW hS => ?_)
                  obtain ⟨rfl, hq⟩ := q_27
                  have hI := hI.trans hq
                  have hwl := sWorst_le S pin (sKept S pin (S 19 0)) dy ein
                  refine lv_istore (lv' := [(10, .int (nI (sWorst S pin (sKept S pin (S 19 0)) dy ein))), (0, .ref (ad.1 40 0)), (1, .int (nI pin)), (2, .int (nI an)), (3, .int (nI bn)), (4, .int (nI ein)), (5, .long (sKept S pin (S 19 0))), (7, .int be), (8, .int (nI le)), (9, .int (nI dy))]) hx hb dX10_next_88 hl (by decide) rfl (fun ls hl => ?_)
                  refine lv_iload hx hb dX10_next_90 (lv_at hl 0 rfl) ?_
                  refine lv_iload hx hb dX10_next_92 (lv_at hl 8 rfl) ?_
                  refine n_icmp_lt (tgt := 100) hx hb (by omega) (by omega) dX10_next_94 (by decide) (fun c_w => ?_) (fun c_w => ?_)
                  · have hst : nxL S pin (sKept S pin (S 19 0)) ein an (dy + 1 - an) = (sWorst S pin (sKept S pin (S 19 0)) dy ein, nI dy) := by rw [show dy + 1 - an = (dy - an) + 1 by omega, nxL, show an + (dy - an) = dy by omega, if_pos (by rw [← hle]; exact c_w)]
                    refine lv_iload hx hb dX10_next_100 (lv_at hl 0 rfl) ?_
                    refine lv_istore (lv' := [(8, .int (nI (sWorst S pin (sKept S pin (S 19 0)) dy ein))), (10, .int (nI (sWorst S pin (sKept S pin (S 19 0)) dy ein))), (0, .ref (ad.1 40 0)), (1, .int (nI pin)), (2, .int (nI an)), (3, .int (nI bn)), (4, .int (nI ein)), (5, .long (sKept S pin (S 19 0))), (7, .int be), (9, .int (nI dy))]) hx hb dX10_next_102 hl (by decide) rfl (fun ls hl => ?_)
                    refine lv_iload hx hb dX10_next_104 (lv_at hl 9 rfl) ?_
                    refine lv_istore (lv' := [(7, .int (nI dy)), (8, .int (nI (sWorst S pin (sKept S pin (S 19 0)) dy ein))), (10, .int (nI (sWorst S pin (sKept S pin (S 19 0)) dy ein))), (0, .ref (ad.1 40 0)), (1, .int (nI pin)), (2, .int (nI an)), (3, .int (nI bn)), (4, .int (nI ein)), (5, .long (sKept S pin (S 19 0))), (9, .int (nI dy))]) hx hb dX10_next_106 hl (by decide) rfl (fun ls hl => ?_)
                    refine n_iinc (q := 1) (lv' := [(9, .int (nI (dy + 1))), (7, .int (nI dy)), (8, .int (nI (sWorst S pin (sKept S pin (S 19 0)) dy ein))), (10, .int (nI (sWorst S pin (sKept S pin (S 19 0)) dy ein))), (0, .ref (ad.1 40 0)), (1, .int (nI pin)), (2, .int (nI an)), (3, .int (nI bn)), (4, .int (nI ein)), (5, .long (sKept S pin (S 19 0)))]) hx hb dX10_next_108 hl (k := 9) rfl (by decide) (by decide) rfl (fun ls hl => ?_)
                    refine lv_goto (tgt := 71) hx hb dX10_next_111 (by decide) ?_
                    exact ih_lp71 (nI dy) (sWorst S pin (sKept S pin (S 19 0)) dy ein) (dy + 1) d_25 _ _ ls (by omega) (by omega) (by omega) hI (by first | (rw [hst]; done) | (rw [hst]; exact hbe)) (by first | (rw [hst]; done) | (rw [hst]; exact hle)) hW hS (lv_sub hl [4, 5, 6, 7, 8, 9, 1, 2, 0] rfl)
                  · have hst : nxL S pin (sKept S pin (S 19 0)) ein an (dy + 1 - an) = nxL S pin (sKept S pin (S 19 0)) ein an (dy - an) := by rw [show dy + 1 - an = (dy - an) + 1 by omega, nxL, show an + (dy - an) = dy by omega, if_neg (by rw [← hle]; exact c_w)]
                    refine lv_goto (tgt := 108) hx hb dX10_next_97 (by decide) ?_
                    refine n_iinc (q := 1) (lv' := [(9, .int (nI (dy + 1))), (10, .int (nI (sWorst S pin (sKept S pin (S 19 0)) dy ein))), (0, .ref (ad.1 40 0)), (1, .int (nI pin)), (2, .int (nI an)), (3, .int (nI bn)), (4, .int (nI ein)), (5, .long (sKept S pin (S 19 0))), (7, .int be), (8, .int (nI le))]) hx hb dX10_next_108 hl (k := 9) rfl (by decide) (by decide) rfl (fun ls hl => ?_)
                    refine lv_goto (tgt := 71) hx hb dX10_next_111 (by decide) ?_
                    exact ih_lp71 be le (dy + 1) d_25 _ _ ls (by omega) (by omega) (by omega) hI (by first | (rw [hst]; done) | (rw [hst]; exact hbe)) (by first | (rw [hst]; done) | (rw [hst]; exact hle)) hW hS (lv_sub hl [2, 3, 4, 5, 6, 7, 8, 9, 0] rfl)
            exact lp71 (bn + 2) (-1) 65 an d_18 _ _ ls (by omega) (by omega) (by omega) hI (by rw [Nat.sub_self]; rfl) (by rw [Nat.sub_self]; rfl) hW hS (lv_sub hl [4, 5, 6, 7, 8, 3, 2, 1, 0] rfl)
          · have hz : sKept S pin (S 19 0) = 0 := lg0 c_z
            refine lv_iconst (v := -1) hx hb dX10_next_59 (by decide) ?_
            exact o_iret hx hb hr hlocks hW hS (⟨by simp only [aNext, ix_nI hpin (by omega), nx_nI (j := pin) (by omega), ix_nI han (by omega), nx_nI (j := an) (by omega), rx_nI hbna hbn (by omega), nx_nI (j := bn) (by omega), ix_nI hein (by omega), nx_nI (j := ein) (by omega), hz, eq_self, ↓reduceIte, Bool.false_eq_true], by simp only [nNext, rNext, ix_nI hpin (by omega), nx_nI (j := pin) (by omega), ix_nI han (by omega), nx_nI (j := an) (by omega), rx_nI hbna hbn (by omega), nx_nI (j := bn) (by omega), ix_nI hein (by omega), nx_nI (j := ein) (by omega), hz, eq_self, ↓reduceIte, Bool.false_eq_true]; exact hI.pub hR⟩) dX10_next_60
        · refine lv_iconst (v := -1) hx hb dX10_next_39 (by decide) ?_
          exact o_iret hx hb hr hlocks hW hS (⟨by simp only [aNext, ix_nI hpin (by omega), nx_nI (j := pin) (by omega), ix_nI han (by omega), nx_nI (j := an) (by omega), rx_nI hbna hbn (by omega), nx_nI (j := bn) (by omega), bI_z c_16, eq_self, ↓reduceIte, Bool.false_eq_true], by simp only [nNext, rNext, ix_nI hpin (by omega), nx_nI (j := pin) (by omega), ix_nI han (by omega), nx_nI (j := an) (by omega), rx_nI hbna hbn (by omega), nx_nI (j := bn) (by omega), bI_z c_16, eq_self, ↓reduceIte, Bool.false_eq_true]; exact hI.pub hR⟩) dX10_next_40
