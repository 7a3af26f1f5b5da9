set_option maxHeartbeats 400000 in
set_option maxRecDepth 100000 in
theorem c_X10_deepest (l : Launch) (D : va_G) (cA : Nat → ClassId) (B0 : Nat) (ad : kA) (hal : mAl ad) (S : sS) (d0 : kD) (hM : InvM S d0) (pp : Nat) (dd : Nat) (hp : pp < S 7 0) (hd : dd < 400) : oM l yX10_deepest wX10_deepest 9 0 0 D cA B0 ad d0 ([.ref (ad.1 40 0), .int (nI pp), .int (nI dd)] : List Value) (oQi D cA B0 ad (fun r d1 => r = sDeep S pp dd ∧ MI S d0 d1)) := by
  refine o_ofW (cc := cX10_deepest) (maxL := 7) (ret := some .int) (by decide) rfl (Nat.le_of_ble_eq_true rfl) ?_
  intro p e s m below meth c hx hb hr hml hts hown hlocks hnm hK hW hB hS ls hl
  have hu : ∀ w ∈ UW, w.before _ s = true := fun w h => hts w (uw_c w h)
  have hl : lv_has ls 7 [(0, .ref (ad.1 40 0)), (1, .int (nI pp)), (2, .int (nI dd))] := hl
  have hI : MI S d0 d0 := MI.start hM
  have hG : sG S := hM.2.1
  have hb7 : S 7 0 ≤ 8 := hG.f 7 (mx := 8) (by decide)
  have hb18 : S 18 0 ≤ 40 := hG.f 18 (mx := 40) (by decide)
  have hb19 : S 19 0 ≤ 399 := hG.f 19 (mx := 399) (by decide)
  refine lv_aload_n hx hb dX10_deepest_0 rfl (lv_at hl 0 rfl) ?_
  refine lv_iload_n hx hb dX10_deepest_1 rfl (lv_at hl 1 rfl) ?_
  refine lv_aload_n hx hb dX10_deepest_2 rfl (lv_at hl 0 rfl) ?_
  refine mo_gi hx hb hu hown hK hal hW hI.dS 19 (by decide) uF_X10_55 dX10_deepest_3 ?_
  have b_1 : S 19 0 ≤ 399 := hG.f 19 (mx := 399) (by decide)
  refine o_calll (o_runV (As := [.int (nI pp), .int (nI (S 19 0))]) (rest := []) ⟨hx, hb, hml, hown, hu⟩ (c_X10_keptOn l D cA B0 ad hal S d0 hI.1 pp (S 19 0) (by omega) (by omega)) (gV_X10_207 (fun _ h => h)) (n0 := 2) rfl (by decide +kernel) rfl ⟨Nat.le_of_ble_eq_true rfl, Nat.le_of_ble_eq_true rfl⟩ (o_recv hK hW hal.1 (kC_M _ _ _) rfl) hK hW hB hS hl.1 rfl (lv_room (Nat.le_of_ble_eq_true rfl)) ⟨Nat.zero_le _, Nat.zero_le _⟩ dX10_deepest_6) hS (fun r_3 d_2 q_4 H locs hW hS => ?_)
  obtain ⟨rfl, hq⟩ := q_4
  have hI := hI.trans hq
  refine lv_lstore_n (lv' := [(3, .long (sKept S pp (S 19 0))), (0, .ref (ad.1 40 0)), (1, .int (nI pp)), (2, .int (nI dd))]) hx hb dX10_deepest_9 rfl hl (by decide) rfl (fun ls hl => ?_)
  refine lv_iconst (v := -1) hx hb dX10_deepest_10 (by decide) ?_
  refine lv_istore (lv' := [(5, .int (-1)), (3, .long (sKept S pp (S 19 0))), (0, .ref (ad.1 40 0)), (1, .int (nI pp)), (2, .int (nI dd))]) hx hb dX10_deepest_11 hl (by decide) rfl (fun ls hl => ?_)
  refine n_iconst (v := 0) hx hb dX10_deepest_13 (by decide) ?_
  refine lv_istore (lv' := [(6, .int (nI 0)), (5, .int (-1)), (3, .long (sKept S pp (S 19 0))), (0, .ref (ad.1 40 0)), (1, .int (nI pp)), (2, .int (nI dd))]) hx hb dX10_deepest_14 hl (by decide) rfl (fun ls hl => ?_)
  have lp16 : ∀ (n : Nat) (mo : Int32) (k : Nat)  (d : kD) (H : Heap) (locs : List Loc) (ls : Array Slot), 64 - k < n → (k ≤ 64) → (MI S d0 d) → (mo = dpL S pp dd (sKept S pp (S 19 0)) k) → oW D cA B0 ad d H → va_S (oA B0) s.heap H locs → lv_has ls 7 [(0, .ref (ad.1 40 0)), (1, .int (nI pp)), (2, .int (nI dd)), (3, .long (sKept S pp (S 19 0))), (5, .int mo), (6, .int (nI k))] → W p l e (oR 9 0 0) s m ([.ref (ad.1 40 0), .int (nI pp), .int (nI dd)] : List Value).toArray below meth c H locs 0 0 (MQ below (oQi D cA B0 ad (fun r d1 => r = sDeep S pp dd ∧ MI S d0 d1)) ([.ref (ad.1 40 0), .int (nI pp), .int (nI dd)] : List Value).toArray s 0 0 (oA B0)) (F0 m 16 ls []) := by
    intro n
    induction n with
    | zero => intro mo k  d H locs ls hmu; exact absurd hmu (Nat.not_lt_zero _)
    | succ n ih_lp16 =>
      intro mo k  d H locs ls hmu hk hI hmo hW hS hl
      refine lv_iload hx hb dX10_deepest_16 (lv_at hl 5 rfl) ?_
      refine n_bipush (v := 64) hx hb dX10_deepest_18 (by decide) ?_
      refine n_icmp_ge (tgt := 53) hx hb (by omega) (by omega) dX10_deepest_20 (by decide) (fun c_5 => ?_) (fun c_5 => ?_)
      · refine lv_iload hx hb dX10_deepest_53 (lv_at hl 4 rfl) ?_
        exact o_iret hx hb hr hlocks hW hS (⟨by rw [hmo, show k = 64 by omega]; rfl, hI⟩) dX10_deepest_55
      · refine lv_lload_n hx hb dX10_deepest_23 rfl (lv_at hl 3 rfl) ?_
        refine lv_iload hx hb dX10_deepest_24 (lv_at hl 5 rfl) ?_
        refine o_calli (o_runS (As := [.long (sKept S pp (S 19 0)), .int (nI k)]) (rest := []) ⟨hx, hb, hml, hown, hu⟩ (c_X10_has l D cA B0 ad hal d (sKept S pp (S 19 0)) k ) (gS_X10_179 (fun _ h => h)) (n0 := 2) rfl (by decide +kernel) rfl ⟨Nat.le_of_ble_eq_true rfl, Nat.le_of_ble_eq_true rfl⟩ hK hW hB hS hl.1 rfl (lv_room (Nat.le_of_ble_eq_true rfl)) ⟨Nat.zero_le _, Nat.zero_le _⟩ dX10_deepest_26) hS (fun r_7 d_6 q_8 H locs hW hS => ?_)
        obtain ⟨rfl, rfl⟩ := q_8
        refine lv_if_eq (tgt := 47) hx hb dX10_deepest_29 (by decide) (fun c_h => ?_) (fun c_h => ?_)
        · have hst : dpL S pp dd (sKept S pp (S 19 0)) (k + 1) = dpL S pp dd (sKept S pp (S 19 0)) k := by rw [dpL, if_neg (by rw [bI_z c_h]; decide)]
          refine n_iinc (q := 1) (lv' := [(6, .int (nI (k + 1))), (0, .ref (ad.1 40 0)), (1, .int (nI pp)), (2, .int (nI dd)), (3, .long (sKept S pp (S 19 0))), (5, .int mo)]) hx hb dX10_deepest_47 hl (k := 5) rfl (by decide) (by decide) rfl (fun ls hl => ?_)
          refine lv_goto (tgt := 16) hx hb dX10_deepest_50 (by decide) ?_
          exact ih_lp16 mo (k + 1) d _ _ ls (by omega) (by omega) hI (by rw [hst, ← hmo]) hW hS (lv_sub hl [1, 2, 3, 4, 5, 0] rfl)
        · have hst : dpL S pp dd (sKept S pp (S 19 0)) (k + 1) = (if dpL S pp dd (sKept S pp (S 19 0)) k < nI (sEver S pp k dd) then nI (sEver S pp k dd) else dpL S pp dd (sKept S pp (S 19 0)) k) := by rw [dpL, if_pos (bI_n c_h)]
          refine lv_iload hx hb dX10_deepest_32 (lv_at hl 4 rfl) ?_
          refine lv_aload_n hx hb dX10_deepest_34 rfl (lv_at hl 0 rfl) ?_
          refine lv_iload_n hx hb dX10_deepest_35 rfl (lv_at hl 1 rfl) ?_
          refine lv_iload hx hb dX10_deepest_36 (lv_at hl 5 rfl) ?_
          refine lv_iload_n hx hb dX10_deepest_38 rfl (lv_at hl 2 rfl) ?_
          refine o_calli (o_runV (As := [.int (nI pp), .int (nI k), .int (nI dd)]) (rest := [.int mo]) ⟨hx, hb, hml, hown, hu⟩ (c_X10_everOf l D cA B0 ad hal S d hI.1 pp k dd (by omega) (by omega) (by omega)) (gV_X10_159 (fun _ h => h)) (n0 := 3) rfl (by decide +kernel) rfl ⟨Nat.le_of_ble_eq_true rfl, Nat.le_of_ble_eq_true rfl⟩ (o_recv hK hW hal.1 (kC_M _ _ _) rfl) hK hW hB hS hl.1 rfl (lv_room (Nat.le_of_ble_eq_true rfl)) ⟨Nat.zero_le _, Nat.zero_le _⟩ dX10_deepest_39) hS (fun r_10 d_9 q_11 H locs hW hS => ?_)
          obtain ⟨rfl, hq⟩ := q_11
          have hI := hI.trans hq
          refine va_mmax hx hb (hml.trans hl.1.symm) hown (hu _ uM_X10_139) (hu _ uT_J9_max_7cf53) (hu _ uI_J9) (hu _ uC_J9_max_7cf53) (Nat.le_of_ble_eq_true rfl) (Nat.le_of_ble_eq_true rfl) (Nat.le_of_ble_eq_true rfl) (Nat.le_of_ble_eq_true rfl) dX10_deepest_42 ?_
          refine lv_istore (lv' := [(5, .int (if mo < (nI (sEver S pp k dd)) then (nI (sEver S pp k dd)) else mo)), (0, .ref (ad.1 40 0)), (1, .int (nI pp)), (2, .int (nI dd)), (3, .long (sKept S pp (S 19 0))), (6, .int (nI k))]) hx hb dX10_deepest_45 hl (by decide) rfl (fun ls hl => ?_)
          refine n_iinc (q := 1) (lv' := [(6, .int (nI (k + 1))), (5, .int (if mo < (nI (sEver S pp k dd)) then (nI (sEver S pp k dd)) else mo)), (0, .ref (ad.1 40 0)), (1, .int (nI pp)), (2, .int (nI dd)), (3, .long (sKept S pp (S 19 0)))]) hx hb dX10_deepest_47 hl (k := 5) rfl (by decide) (by decide) rfl (fun ls hl => ?_)
          refine lv_goto (tgt := 16) hx hb dX10_deepest_50 (by decide) ?_
          exact ih_lp16 (if mo < (nI (sEver S pp k dd)) then (nI (sEver S pp k dd)) else mo) (k + 1) d_9 _ _ ls (by omega) (by omega) hI (by rw [hst, ← hmo]) hW hS (lv_sub hl [2, 3, 4, 5, 1, 0] rfl)
  exact lp16 (65) (-1) 0 d_2 _ _ ls (by omega) (by omega) hI rfl hW hS (lv_sub hl [3, 4, 5, 2, 1, 0] rfl)

set_option maxHeartbeats 400000 in
set_option maxRecDepth 100000 in
theorem c_X10_choose (l : Launch) (D : va_G) (cA : Nat → ClassId) (B0 : Nat) (ad : kA) (hal : mAl ad) (S : sS) (sr : Nat → Int32) (d0 : kD) (hM : InvM S d0) (hR : RowM S sr d0) (mo day : Int32) : oM l yX10_choose wX10_choose 10 0 0 D cA B0 ad d0 ([.ref (ad.1 40 0), .int mo, .int day] : List Value) (oQi D cA B0 ad (fun r d1 => r = aChoose S mo day ∧ PI (nChoose S mo day) (rChoose S sr mo day) d0 d1)) := by
  refine o_ofW (cc := cX10_choose) (maxL := 10) (ret := some .int) (by decide) rfl (Nat.le_of_ble_eq_true rfl) ?_
  intro p e s m below meth c hx hb hr hml hts hown hlocks hnm hK hW hB hS ls hl
  have hu : ∀ w ∈ UW, w.before _ s = true := fun w h => hts w (uw_c w h)
  have hl : lv_has ls 10 [(0, .ref (ad.1 40 0)), (1, .int mo), (2, .int day)] := hl
  refine lv_aload_n hx hb dX10_choose_0 rfl (lv_at hl 0 rfl) ?_
  refine n_iconst (v := 0) hx hb dX10_choose_1 (by decide) ?_
  refine mo_pi hx hb hu hown hK hal hW hS 33 (by decide +kernel) uF_X10_113 dX10_choose_2 (fun H locs hW hS => ?_)
  have hI : MI S (uI d0 40 0 33 (nI 0)) (uI d0 40 0 33 (nI 0)) := MI.start (hM.thr 33 _ rfl)
  have hG : sG S := hM.2.1
  have hb1 : S 1 0 ≤ 4 := hG.f 1 (mx := 4) (by decide)
  have hb7 : S 7 0 ≤ 8 := hG.f 7 (mx := 8) (by decide)
  have hb11 : S 11 0 ≤ 20 := hG.f 11 (mx := 20) (by decide)
  have hb18 : S 18 0 ≤ 40 := hG.f 18 (mx := 40) (by decide)
  have hb19 : S 19 0 ≤ 399 := hG.f 19 (mx := 399) (by decide)
  have hb22 : S 22 0 ≤ 64 := hG.f 22 (mx := 64) (by decide)
  have hb25 : S 25 0 ≤ 4 := hG.f 25 (mx := 4) (by decide)
  have hb30 : S 30 0 ≤ 10 := hG.f 30 (mx := 10) (by decide)
  have hb32 : S 32 0 ≤ 64 := hG.f 32 (mx := 64) (by decide)
  have hpw := pow10 hb30
  refine lv_iload_n hx hb dX10_choose_5 rfl (lv_at hl 1 rfl) ?_
  refine n_iconst (v := 0) hx hb dX10_choose_6 (by decide) ?_
  refine n_sipush (v := 9999) hx hb dX10_choose_7 (by decide) ?_
  refine o_calli (o_runS (As := [.int mo, .int (nI 0), .int (nI 9999)]) (rest := []) ⟨hx, hb, hml, hown, hu⟩ (c_X10_in l D cA B0 ad hal (uI d0 40 0 33 (nI 0)) mo (nI 0) (nI 9999)) (gS_X10_119 (fun _ h => h)) (n0 := 3) rfl (by decide +kernel) rfl ⟨Nat.le_of_ble_eq_true rfl, Nat.le_of_ble_eq_true rfl⟩ hK hW hB hS hl.1 rfl (lv_room (Nat.le_of_ble_eq_true rfl)) ⟨Nat.zero_le _, Nat.zero_le _⟩ dX10_choose_10) hS (fun r_2 d_1 q_3 H locs hW hS => ?_)
  obtain ⟨rfl, rfl⟩ := q_3
  refine n_topi (y := bI (ix mo 10000)) (in_ixc 10000 rfl (by decide)) ?_
  refine lv_if_eq (tgt := 23) hx hb dX10_choose_13 (by decide) (fun c_4 => ?_) (fun c_4 => ?_)
  · refine lv_iconst (v := -1) hx hb dX10_choose_23 (by decide) ?_
    exact o_iret hx hb hr hlocks hW hS (⟨by simp only [aChoose, bI_z c_4, eq_self, ↓reduceIte, Bool.false_eq_true], by simp only [nChoose, rChoose, bI_z c_4, eq_self, ↓reduceIte, Bool.false_eq_true]; exact hI.pub hR⟩) dX10_choose_24
  · obtain ⟨mon, hmon, rfl⟩ := ix_t (bI_n c_4) (by omega)
    refine lv_iload_n hx hb dX10_choose_16 rfl (lv_at hl 2 rfl) ?_
    refine o_calli (o_runS (As := [.int day]) (rest := []) ⟨hx, hb, hml, hown, hu⟩ (c_X10_isDay l D cA B0 ad hal (uI d0 40 0 33 (nI 0)) day) (gS_X10_126 (fun _ h => h)) (n0 := 1) rfl (by decide +kernel) rfl ⟨Nat.le_of_ble_eq_true rfl, Nat.le_of_ble_eq_true rfl⟩ hK hW hB hS hl.1 rfl (lv_room (Nat.le_of_ble_eq_true rfl)) ⟨Nat.zero_le _, Nat.zero_le _⟩ dX10_choose_17) hS (fun r_6 d_5 q_7 H locs hW hS => ?_)
    obtain ⟨rfl, rfl⟩ := q_7
    refine lv_if_ne (tgt := 25) hx hb dX10_choose_20 (by decide) (fun c_8 => ?_) (fun c_8 => ?_)
    · obtain ⟨dayn, hdayn, rfl⟩ := ix_t (bI_n c_8) (by omega)
      have hP := hI.pub hR
      refine n_iconst (v := 0) hx hb dX10_choose_25 (by decide) ?_
      refine lv_istore_n (lv' := [(3, .int (nI 0)), (0, .ref (ad.1 40 0)), (1, .int (nI mon)), (2, .int (nI dayn))]) hx hb dX10_choose_26 rfl hl (by decide) rfl (fun ls hl => ?_)
      have lp27 : ∀ (n : Nat) (p1 : Nat)  (d : kD) (H : Heap) (locs : List Loc) (ls : Array Slot), S 7 0 - p1 < n → (p1 ≤ S 7 0) → (PI S sr d0 d) → (DP S dayn p1 d) → oW D cA B0 ad d H → va_S (oA B0) s.heap H locs → lv_has ls 10 [(0, .ref (ad.1 40 0)), (1, .int (nI mon)), (2, .int (nI dayn)), (3, .int (nI p1))] → W p l e (oR 10 0 0) s m ([.ref (ad.1 40 0), .int (nI mon), .int (nI dayn)] : List Value).toArray below meth c H locs 0 0 (MQ below (oQi D cA B0 ad (fun r d1 => r = aChoose S (nI mon) (nI dayn) ∧ PI (nChoose S (nI mon) (nI dayn)) (rChoose S sr (nI mon) (nI dayn)) d0 d1)) ([.ref (ad.1 40 0), .int (nI mon), .int (nI dayn)] : List Value).toArray s 0 0 (oA B0)) (F0 m 27 ls []) := by
        intro n
        induction n with
        | zero => intro p1  d H locs ls hmu; exact absurd hmu (Nat.not_lt_zero _)
        | succ n ih_lp27 =>
          intro p1  d H locs ls hmu hp1 hP hDP hW hS hl
          refine lv_iload_n hx hb dX10_choose_27 rfl (lv_at hl 3 rfl) ?_
          refine lv_aload_n hx hb dX10_choose_28 rfl (lv_at hl 0 rfl) ?_
          refine mo_gi hx hb hu hown hK hal hW hP.1.1 7 (by decide) uF_X10_116 dX10_choose_29 ?_
          have b_9 : S 7 0 ≤ 8 := hG.f 7 (mx := 8) (by decide)
          refine n_icmp_ge (tgt := 53) hx hb (by omega) (by omega) dX10_choose_32 (by decide) (fun c_10 => ?_) (fun c_10 => ?_)
          · have hp7 : p1 = S 7 0 := by omega
            rw [hp7] at hDP
            refine lv_iconst (v := -1) hx hb dX10_choose_53 (by decide) ?_
            refine lv_istore_n (lv' := [(3, .int (-1)), (0, .ref (ad.1 40 0)), (1, .int (nI mon)), (2, .int (nI dayn))]) hx hb dX10_choose_54 rfl hl (by decide) rfl (fun ls hl => ?_)
            refine n_iconst (v := 0) hx hb dX10_choose_55 (by decide) ?_
            refine lv_istore (lv' := [(4, .int (nI 0)), (3, .int (-1)), (0, .ref (ad.1 40 0)), (1, .int (nI mon)), (2, .int (nI dayn))]) hx hb dX10_choose_56 hl (by decide) rfl (fun ls hl => ?_)
            refine n_iconst (v := 0) hx hb dX10_choose_58 (by decide) ?_
            refine lv_istore (lv' := [(5, .int (nI 0)), (4, .int (nI 0)), (3, .int (-1)), (0, .ref (ad.1 40 0)), (1, .int (nI mon)), (2, .int (nI dayn))]) hx hb dX10_choose_59 hl (by decide) rfl (fun ls hl => ?_)
            refine n_iconst (v := 0) hx hb dX10_choose_61 (by decide) ?_
            refine lv_istore (lv' := [(6, .int (nI 0)), (5, .int (nI 0)), (4, .int (nI 0)), (3, .int (-1)), (0, .ref (ad.1 40 0)), (1, .int (nI mon)), (2, .int (nI dayn))]) hx hb dX10_choose_62 hl (by decide) rfl (fun ls hl => ?_)
            have lp64 : ∀ (n : Nat) (be : Int32) (bc : Nat) (bb : Nat) (b1 : Nat)  (d : kD) (H : Heap) (locs : List Loc) (ls : Array Slot), 2 ^ S 30 0 - b1 < n → (b1 ≤ 2 ^ S 30 0) → (PI S sr d0 d) → (DP S dayn (S 7 0) d) → (be = (chL S mon dayn b1).1) → (bc = (chL S mon dayn b1).2.1) → (bb = (chL S mon dayn b1).2.2) → oW D cA B0 ad d H → va_S (oA B0) s.heap H locs → lv_has ls 10 [(0, .ref (ad.1 40 0)), (1, .int (nI mon)), (2, .int (nI dayn)), (3, .int be), (4, .int (nI bc)), (5, .int (nI bb)), (6, .int (nI b1))] → W p l e (oR 10 0 0) s m ([.ref (ad.1 40 0), .int (nI mon), .int (nI dayn)] : List Value).toArray below meth c H locs 0 0 (MQ below (oQi D cA B0 ad (fun r d1 => r = aChoose S (nI mon) (nI dayn) ∧ PI (nChoose S (nI mon) (nI dayn)) (rChoose S sr (nI mon) (nI dayn)) d0 d1)) ([.ref (ad.1 40 0), .int (nI mon), .int (nI dayn)] : List Value).toArray s 0 0 (oA B0)) (F0 m 64 ls []) := by
              intro n
              induction n with
              | zero => intro be bc bb b1  d H locs ls hmu; exact absurd hmu (Nat.not_lt_zero _)
              | succ n ih_lp64 =>
                intro be bc bb b1  d H locs ls hmu hb1 hP hDP hbe hbc hbb hW hS hl
                have hcl := chL_le hG mon dayn b1
                refine lv_iload hx hb dX10_choose_64 (lv_at hl 6 rfl) ?_
                refine n_iconst (v := 1) hx hb dX10_choose_66 (by decide) ?_
                refine lv_aload_n hx hb dX10_choose_67 rfl (lv_at hl 0 rfl) ?_
                refine mo_gi hx hb hu hown hK hal hW hP.1.1 30 (by decide) uF_X10_303 dX10_choose_68 ?_
                have b_11 : S 30 0 ≤ 10 := hG.f 30 (mx := 10) (by decide)
                refine lv_ishl hx hb dX10_choose_71 ?_
                refine n_topi (y := nI (2 ^ S 30 0)) (shl10 (by omega)) ?_
                refine n_icmp_ge (tgt := 283) hx hb (by omega) (by omega) dX10_choose_72 (by decide) (fun c_12 => ?_) (fun c_12 => ?_)
                · have hb2 : b1 = 2 ^ S 30 0 := by omega
                  refine lv_aload_n hx hb dX10_choose_283 rfl (lv_at hl 0 rfl) ?_
                  refine n_iconst (v := 0) hx hb dX10_choose_284 (by decide) ?_
                  refine mo_pi hx hb hu hown hK hal hW hS 32 (by decide +kernel) uF_X10_123 dX10_choose_285 (fun H locs hW hS => ?_)
                  have hP := hP.row0 (fun _ => 0)
                  refine lv_aload_n hx hb dX10_choose_288 rfl (lv_at hl 0 rfl) ?_
                  refine lv_iload hx hb dX10_choose_289 (lv_at hl 5 rfl) ?_
                  refine o_callv (o_runV (As := [.int (nI bb)]) (rest := []) ⟨hx, hb, hml, hown, hu⟩ (c_X10_tell l D cA B0 ad hal (upS S 32 0 0) (uI d 40 0 32 (nI 0)) hP.1.1 hP.1.2.1 (nI bb) (show 0 < 64 from by omega)) (gV_X10_211 (fun _ h => h)) (n0 := 1) rfl (by decide +kernel) rfl ⟨Nat.le_of_ble_eq_true rfl, Nat.le_of_ble_eq_true rfl⟩ (o_recv hK hW hal.1 (kC_M _ _ _) rfl) hK hW hB hS hl.1 rfl (lv_room (Nat.le_of_ble_eq_true rfl)) ⟨Nat.zero_le _, Nat.zero_le _⟩ dX10_choose_291) hS (fun d_13 q_15 H locs hW hS => ?_)
                  subst q_15
                  have hP := hP.tell (show 0 < 64 from by omega) (nI bb)
                  refine lv_aload_n hx hb dX10_choose_294 rfl (lv_at hl 0 rfl) ?_
                  refine lv_iload hx hb dX10_choose_295 (lv_at hl 4 rfl) ?_
                  refine o_callv (o_runV (As := [.int (nI bc)]) (rest := []) ⟨hx, hb, hml, hown, hu⟩ (c_X10_tell l D cA B0 ad hal (upS S 32 0 1) (uI (uI (uI d 40 0 32 (nI 0)) 81 0 0 (nI bb)) 40 0 32 (nI (0 + 1))) hP.1.1 hP.1.2.1 (nI bc) (show 1 < 64 from by omega)) (gV_X10_211 (fun _ h => h)) (n0 := 1) rfl (by decide +kernel) rfl ⟨Nat.le_of_ble_eq_true rfl, Nat.le_of_ble_eq_true rfl⟩ (o_recv hK hW hal.1 (kC_M _ _ _) rfl) hK hW hB hS hl.1 rfl (lv_room (Nat.le_of_ble_eq_true rfl)) ⟨Nat.zero_le _, Nat.zero_le _⟩ dX10_choose_297) hS (fun d_16 q_18 H locs hW hS => ?_)
                  subst q_18
                  have hP := hP.tell (show 1 < 64 from by omega) (nI bc)
                  refine lv_iload_n hx hb dX10_choose_300 rfl (lv_at hl 3 rfl) ?_
                  exact o_iret hx hb hr hlocks hW hS (⟨by simp only [aChoose, ix_nI hmon (by omega), nx_nI (j := mon) (by omega), ix_nI hdayn (by omega), nx_nI (j := dayn) (by omega), eq_self, ↓reduceIte, Bool.false_eq_true]; rw [hbe, hb2], by simp only [nChoose, rChoose, ix_nI hmon (by omega), nx_nI (j := mon) (by omega), ix_nI hdayn (by omega), nx_nI (j := dayn) (by omega), eq_self, ↓reduceIte, Bool.false_eq_true]; rw [show (chL S mon dayn (2 ^ S 30 0)).2.2 = bb by rw [hbb, hb2], show (chL S mon dayn (2 ^ S 30 0)).2.1 = bc by rw [hbc, hb2]]; exact hP⟩) dX10_choose_301
                · refine n_iconst (v := 0) hx hb dX10_choose_75 (by decide) ?_
                  refine lv_istore (lv' := [(7, .int (nI 0)), (0, .ref (ad.1 40 0)), (1, .int (nI mon)), (2, .int (nI dayn)), (3, .int be), (4, .int (nI bc)), (5, .int (nI bb)), (6, .int (nI b1))]) hx hb dX10_choose_76 hl (by decide) rfl (fun ls hl => ?_)
                  refine n_iconst (v := 0) hx hb dX10_choose_78 (by decide) ?_
                  refine lv_istore (lv' := [(8, .int (nI 0)), (7, .int (nI 0)), (0, .ref (ad.1 40 0)), (1, .int (nI mon)), (2, .int (nI dayn)), (3, .int be), (4, .int (nI bc)), (5, .int (nI bb)), (6, .int (nI b1))]) hx hb dX10_choose_79 hl (by decide) rfl (fun ls hl => ?_)
                  have lp81 : ∀ (n : Nat) (k1 : Nat)  (d : kD) (H : Heap) (locs : List Loc) (ls : Array Slot), 8 - k1 < n → (k1 ≤ 8) → (PI S sr d0 d) → (DP S dayn (S 7 0) d) → (AD (fun _ => 0) k1 d) → oW D cA B0 ad d H → va_S (oA B0) s.heap H locs → lv_has ls 10 [(0, .ref (ad.1 40 0)), (1, .int (nI mon)), (2, .int (nI dayn)), (3, .int be), (4, .int (nI bc)), (5, .int (nI bb)), (6, .int (nI b1)), (7, .int (nI 0)), (8, .int (nI k1))] → W p l e (oR 10 0 0) s m ([.ref (ad.1 40 0), .int (nI mon), .int (nI dayn)] : List Value).toArray below meth c H locs 0 0 (MQ below (oQi D cA B0 ad (fun r d1 => r = aChoose S (nI mon) (nI dayn) ∧ PI (nChoose S (nI mon) (nI dayn)) (rChoose S sr (nI mon) (nI dayn)) d0 d1)) ([.ref (ad.1 40 0), .int (nI mon), .int (nI dayn)] : List Value).toArray s 0 0 (oA B0)) (F0 m 81 ls []) := by
                    intro n
                    induction n with
                    | zero => intro k1  d H locs ls hmu; exact absurd hmu (Nat.not_lt_zero _)
                    | succ n ih_lp81 =>
                      intro k1  d H locs ls hmu hk1 hP hDP hAD hW hS hl
                      refine lv_iload hx hb dX10_choose_81 (lv_at hl 8 rfl) ?_
                      refine n_bipush (v := 8) hx hb dX10_choose_83 (by decide) ?_
                      refine n_icmp_ge (tgt := 102) hx hb (by omega) (by omega) dX10_choose_85 (by decide) (fun c_19 => ?_) (fun c_19 => ?_)
                      · have hk8 : k1 = 8 := by omega
                        rw [hk8] at hAD
                        refine n_iconst (v := 0) hx hb dX10_choose_102 (by decide) ?_
                        refine lv_istore (lv' := [(8, .int (nI 0)), (0, .ref (ad.1 40 0)), (1, .int (nI mon)), (2, .int (nI dayn)), (3, .int be), (4, .int (nI bc)), (5, .int (nI bb)), (6, .int (nI b1)), (7, .int (nI 0))]) hx hb dX10_choose_103 hl (by decide) rfl (fun ls hl => ?_)
                        have lp105 : ∀ (n : Nat) (co : Nat) (k2 : Nat)  (d : kD) (H : Heap) (locs : List Loc) (ls : Array Slot), S 30 0 - k2 < n → (k2 ≤ S 30 0) → (PI S sr d0 d) → (DP S dayn (S 7 0) d) → (AD (adL S b1 k2) 8 d) → (co = coL S b1 k2) → oW D cA B0 ad d H → va_S (oA B0) s.heap H locs → lv_has ls 10 [(0, .ref (ad.1 40 0)), (1, .int (nI mon)), (2, .int (nI dayn)), (3, .int be), (4, .int (nI bc)), (5, .int (nI bb)), (6, .int (nI b1)), (7, .int (nI co)), (8, .int (nI k2))] → W p l e (oR 10 0 0) s m ([.ref (ad.1 40 0), .int (nI mon), .int (nI dayn)] : List Value).toArray below meth c H locs 0 0 (MQ below (oQi D cA B0 ad (fun r d1 => r = aChoose S (nI mon) (nI dayn) ∧ PI (nChoose S (nI mon) (nI dayn)) (rChoose S sr (nI mon) (nI dayn)) d0 d1)) ([.ref (ad.1 40 0), .int (nI mon), .int (nI dayn)] : List Value).toArray s 0 0 (oA B0)) (F0 m 105 ls []) := by
                          intro n
                          induction n with
                          | zero => intro co k2  d H locs ls hmu; exact absurd hmu (Nat.not_lt_zero _)
                          | succ n ih_lp105 =>
                            intro co k2  d H locs ls hmu hk2 hP hDP hAD hco hW hS hl
                            have hcl2 := coL_le hG b1 k2 (by omega)
                            have had3 := adL_le hG b1 k2 (by omega)
                            refine lv_iload hx hb dX10_choose_105 (lv_at hl 8 rfl) ?_
                            refine lv_aload_n hx hb dX10_choose_107 rfl (lv_at hl 0 rfl) ?_
                            refine mo_gi hx hb hu hown hK hal hW hP.1.1 30 (by decide) uF_X10_303 dX10_choose_108 ?_
                            have b_20 : S 30 0 ≤ 10 := hG.f 30 (mx := 10) (by decide)
                            refine n_icmp_ge (tgt := 167) hx hb (by omega) (by omega) dX10_choose_111 (by decide) (fun c_21 => ?_) (fun c_21 => ?_)
                            · have hk30 : k2 = S 30 0 := by omega
                              have hco3 : co = coL S b1 (S 30 0) := by rw [hco, hk30]
                              rw [hk30] at hAD
                              have had2 := adL_le hG b1 (S 30 0) hb30
                              refine lv_iload hx hb dX10_choose_167 (lv_at hl 7 rfl) ?_
                              refine lv_iload_n hx hb dX10_choose_169 rfl (lv_at hl 1 rfl) ?_
                              refine n_icmp_le (tgt := 176) hx hb (by omega) (by omega) dX10_choose_170 (by decide) (fun c_m => ?_) (fun c_m => ?_)
                              · refine n_iconst (v := 0) hx hb dX10_choose_176 (by decide) ?_
                                refine lv_istore (lv' := [(8, .int (nI 0)), (0, .ref (ad.1 40 0)), (1, .int (nI mon)), (2, .int (nI dayn)), (3, .int be), (4, .int (nI bc)), (5, .int (nI bb)), (6, .int (nI b1)), (7, .int (nI co))]) hx hb dX10_choose_177 hl (by decide) rfl (fun ls hl => ?_)
                                refine n_iconst (v := 0) hx hb dX10_choose_179 (by decide) ?_
                                refine lv_istore (lv' := [(9, .int (nI 0)), (8, .int (nI 0)), (0, .ref (ad.1 40 0)), (1, .int (nI mon)), (2, .int (nI dayn)), (3, .int be), (4, .int (nI bc)), (5, .int (nI bb)), (6, .int (nI b1)), (7, .int (nI co))]) hx hb dX10_choose_180 hl (by decide) rfl (fun ls hl => ?_)
                                have lp182 : ∀ (n : Nat) (su : Nat) (q1 : Nat)  (H : Heap) (locs : List Loc) (ls : Array Slot), S 7 0 - q1 < n → (q1 ≤ S 7 0) → (su = suL S b1 dayn q1) → oW D cA B0 ad d H → va_S (oA B0) s.heap H locs → lv_has ls 10 [(0, .ref (ad.1 40 0)), (1, .int (nI mon)), (2, .int (nI dayn)), (3, .int be), (4, .int (nI bc)), (5, .int (nI bb)), (6, .int (nI b1)), (7, .int (nI co)), (8, .int (nI su)), (9, .int (nI q1))] → W p l e (oR 10 0 0) s m ([.ref (ad.1 40 0), .int (nI mon), .int (nI dayn)] : List Value).toArray below meth c H locs 0 0 (MQ below (oQi D cA B0 ad (fun r d1 => r = aChoose S (nI mon) (nI dayn) ∧ PI (nChoose S (nI mon) (nI dayn)) (rChoose S sr (nI mon) (nI dayn)) d0 d1)) ([.ref (ad.1 40 0), .int (nI mon), .int (nI dayn)] : List Value).toArray s 0 0 (oA B0)) (F0 m 182 ls []) := by
                                  intro n
                                  induction n with
                                  | zero => intro su q1  H locs ls hmu; exact absurd hmu (Nat.not_lt_zero _)
                                  | succ n ih_lp182 =>
                                    intro su q1  H locs ls hmu hq1 hsu hW hS hl
                                    have hsl := suL_le S b1 dayn q1
                                    have had4 := had2 q1
                                    refine lv_iload hx hb dX10_choose_182 (lv_at hl 9 rfl) ?_
                                    refine lv_aload_n hx hb dX10_choose_184 rfl (lv_at hl 0 rfl) ?_
                                    refine mo_gi hx hb hu hown hK hal hW hP.1.1 7 (by decide) uF_X10_116 dX10_choose_185 ?_
                                    have b_22 : S 7 0 ≤ 8 := hG.f 7 (mx := 8) (by decide)
                                    refine n_icmp_ge (tgt := 244) hx hb (by omega) (by omega) dX10_choose_188 (by decide) (fun c_23 => ?_) (fun c_23 => ?_)
                                    · have hsu3 : su = suL S b1 dayn (S 7 0) := by rw [hsu, show q1 = S 7 0 by omega]
                                      refine lv_iload hx hb dX10_choose_244 (lv_at hl 8 rfl) ?_
                                      refine lv_iload_n hx hb dX10_choose_246 rfl (lv_at hl 3 rfl) ?_
                                      refine lv_icmp_lt (tgt := 277) hx hb dX10_choose_247 (by decide) (fun c_s => ?_) (fun c_s => ?_)
                                      · have hst : chL S mon dayn (b1 + 1) = (chL S mon dayn b1) := by rw [chL, if_neg (fun q => q.2.1 (by rw [← hsu3, ← hbe]; exact c_s))]
                                        refine n_iinc (q := 1) (lv' := [(6, .int (nI (b1 + 1))), (0, .ref (ad.1 40 0)), (1, .int (nI mon)), (2, .int (nI dayn)), (3, .int be), (4, .int (nI bc)), (5, .int (nI bb)), (7, .int (nI co)), (8, .int (nI su)), (9, .int (nI q1))]) hx hb dX10_choose_277 hl (k := 6) rfl (by decide) (by decide) rfl (fun ls hl => ?_)
                                        refine lv_goto (tgt := 64) hx hb dX10_choose_280 (by decide) ?_
                                        exact ih_lp64 be bc bb (b1 + 1) d _ _ ls (by omega) (by omega) hP hDP (by first | (rw [hst]; done) | (rw [hst]; exact hbe)) (by first | (rw [hst]; done) | (rw [hst]; exact hbc)) (by first | (rw [hst]; done) | (rw [hst]; exact hbb)) hW hS (lv_sub hl [1, 2, 3, 4, 5, 6, 0] rfl)
                                      · refine lv_iload hx hb dX10_choose_250 (lv_at hl 8 rfl) ?_
                                        refine lv_iload_n hx hb dX10_choose_252 rfl (lv_at hl 3 rfl) ?_
                                        refine lv_icmp_ne (tgt := 266) hx hb dX10_choose_253 (by decide) (fun c_n => ?_) (fun c_n => ?_)
                                        · have hst : chL S mon dayn (b1 + 1) = (nI su, co, b1) := by rw [chL, if_pos ⟨by rw [← hco3]; omega, by rw [← hsu3, ← hbe]; exact c_s, fun z => c_n (by rw [hsu3, hbe]; exact z.1)⟩, ← hsu3, ← hco3]
                                          refine lv_iload hx hb dX10_choose_266 (lv_at hl 8 rfl) ?_
                                          refine lv_istore_n (lv' := [(3, .int (nI su)), (0, .ref (ad.1 40 0)), (1, .int (nI mon)), (2, .int (nI dayn)), (4, .int (nI bc)), (5, .int (nI bb)), (6, .int (nI b1)), (7, .int (nI co)), (8, .int (nI su)), (9, .int (nI q1))]) hx hb dX10_choose_268 rfl hl (by decide) rfl (fun ls hl => ?_)
                                          refine lv_iload hx hb dX10_choose_269 (lv_at hl 7 rfl) ?_
                                          refine lv_istore (lv' := [(4, .int (nI co)), (3, .int (nI su)), (0, .ref (ad.1 40 0)), (1, .int (nI mon)), (2, .int (nI dayn)), (5, .int (nI bb)), (6, .int (nI b1)), (7, .int (nI co)), (8, .int (nI su)), (9, .int (nI q1))]) hx hb dX10_choose_271 hl (by decide) rfl (fun ls hl => ?_)
                                          refine lv_iload hx hb dX10_choose_273 (lv_at hl 6 rfl) ?_
                                          refine lv_istore (lv' := [(5, .int (nI b1)), (4, .int (nI co)), (3, .int (nI su)), (0, .ref (ad.1 40 0)), (1, .int (nI mon)), (2, .int (nI dayn)), (6, .int (nI b1)), (7, .int (nI co)), (8, .int (nI su)), (9, .int (nI q1))]) hx hb dX10_choose_275 hl (by decide) rfl (fun ls hl => ?_)
                                          refine n_iinc (q := 1) (lv' := [(6, .int (nI (b1 + 1))), (5, .int (nI b1)), (4, .int (nI co)), (3, .int (nI su)), (0, .ref (ad.1 40 0)), (1, .int (nI mon)), (2, .int (nI dayn)), (7, .int (nI co)), (8, .int (nI su)), (9, .int (nI q1))]) hx hb dX10_choose_277 hl (k := 6) rfl (by decide) (by decide) rfl (fun ls hl => ?_)
                                          refine lv_goto (tgt := 64) hx hb dX10_choose_280 (by decide) ?_
                                          exact ih_lp64 (nI su) co b1 (b1 + 1) d _ _ ls (by omega) (by omega) hP hDP (by first | (rw [hst]; done) | (rw [hst]; exact hbe)) (by first | (rw [hst]; done) | (rw [hst]; exact hbc)) (by first | (rw [hst]; done) | (rw [hst]; exact hbb)) hW hS (lv_sub hl [4, 5, 6, 3, 2, 1, 0] rfl)
                                        · refine lv_iload hx hb dX10_choose_256 (lv_at hl 7 rfl) ?_
                                          refine lv_iload hx hb dX10_choose_258 (lv_at hl 4 rfl) ?_
                                          refine n_icmp_lt (tgt := 266) hx hb (by omega) (by omega) dX10_choose_260 (by decide) (fun c_c => ?_) (fun c_c => ?_)
                                          · have hst : chL S mon dayn (b1 + 1) = (nI su, co, b1) := by rw [chL, if_pos ⟨by rw [← hco3]; omega, by rw [← hsu3, ← hbe]; exact c_s, fun z => by have := z.2; rw [← hco3, ← hbc] at this; omega⟩, ← hsu3, ← hco3]
                                            refine lv_iload hx hb dX10_choose_266 (lv_at hl 8 rfl) ?_
                                            refine lv_istore_n (lv' := [(3, .int (nI su)), (0, .ref (ad.1 40 0)), (1, .int (nI mon)), (2, .int (nI dayn)), (4, .int (nI bc)), (5, .int (nI bb)), (6, .int (nI b1)), (7, .int (nI co)), (8, .int (nI su)), (9, .int (nI q1))]) hx hb dX10_choose_268 rfl hl (by decide) rfl (fun ls hl => ?_)
                                            refine lv_iload hx hb dX10_choose_269 (lv_at hl 7 rfl) ?_
                                            refine lv_istore (lv' := [(4, .int (nI co)), (3, .int (nI su)), (0, .ref (ad.1 40 0)), (1, .int (nI mon)), (2, .int (nI dayn)), (5, .int (nI bb)), (6, .int (nI b1)), (7, .int (nI co)), (8, .int (nI su)), (9, .int (nI q1))]) hx hb dX10_choose_271 hl (by decide) rfl (fun ls hl => ?_)
                                            refine lv_iload hx hb dX10_choose_273 (lv_at hl 6 rfl) ?_
                                            refine lv_istore (lv' := [(5, .int (nI b1)), (4, .int (nI co)), (3, .int (nI su)), (0, .ref (ad.1 40 0)), (1, .int (nI mon)), (2, .int (nI dayn)), (6, .int (nI b1)), (7, .int (nI co)), (8, .int (nI su)), (9, .int (nI q1))]) hx hb dX10_choose_275 hl (by decide) rfl (fun ls hl => ?_)
                                            refine n_iinc (q := 1) (lv' := [(6, .int (nI (b1 + 1))), (5, .int (nI b1)), (4, .int (nI co)), (3, .int (nI su)), (0, .ref (ad.1 40 0)), (1, .int (nI mon)), (2, .int (nI dayn)), (7, .int (nI co)), (8, .int (nI su)), (9, .int (nI q1))]) hx hb dX10_choose_277 hl (k := 6) rfl (by decide) (by decide) rfl (fun ls hl => ?_)
                                            refine lv_goto (tgt := 64) hx hb dX10_choose_280 (by decide) ?_
                                            exact ih_lp64 (nI su) co b1 (b1 + 1) d _ _ ls (by omega) (by omega) hP hDP (by first | (rw [hst]; done) | (rw [hst]; exact hbe)) (by first | (rw [hst]; done) | (rw [hst]; exact hbc)) (by first | (rw [hst]; done) | (rw [hst]; exact hbb)) hW hS (lv_sub hl [4, 5, 6, 3, 2, 1, 0] rfl)
                                          · have hst : chL S mon dayn (b1 + 1) = (chL S mon dayn b1) := by rw [chL, if_neg (fun q => q.2.2 ⟨by rw [← hsu3, ← hbe]; exact c_n, by rw [← hco3, ← hbc]; omega⟩)]
                                            refine lv_goto (tgt := 277) hx hb dX10_choose_263 (by decide) ?_
                                            refine n_iinc (q := 1) (lv' := [(6, .int (nI (b1 + 1))), (0, .ref (ad.1 40 0)), (1, .int (nI mon)), (2, .int (nI dayn)), (3, .int be), (4, .int (nI bc)), (5, .int (nI bb)), (7, .int (nI co)), (8, .int (nI su)), (9, .int (nI q1))]) hx hb dX10_choose_277 hl (k := 6) rfl (by decide) (by decide) rfl (fun ls hl => ?_)
                                            refine lv_goto (tgt := 64) hx hb dX10_choose_280 (by decide) ?_
                                            exact ih_lp64 be bc bb (b1 + 1) d _ _ ls (by omega) (by omega) hP hDP (by first | (rw [hst]; done) | (rw [hst]; exact hbe)) (by first | (rw [hst]; done) | (rw [hst]; exact hbc)) (by first | (rw [hst]; done) | (rw [hst]; exact hbb)) hW hS (lv_sub hl [1, 2, 3, 4, 5, 6, 0] rfl)
                                    · refine lv_aload_n hx hb dX10_choose_191 rfl (lv_at hl 0 rfl) ?_
                                      refine mo_ga hx hb hu hown hK hal hW 46 (by decide) uF_X10_107 dX10_choose_192 ?_
                                      refine lv_iload hx hb dX10_choose_195 (lv_at hl 9 rfl) ?_
                                      refine mo_lr hx hb hK hal hW 46 (n := 8) (by decide) (by omega) dX10_choose_197 ?_
                                      refine n_topi (y := sDeep S q1 dayn) (hDP q1 (by omega)) ?_
                                      refine lv_iconst (v := -1) hx hb dX10_choose_198 (by decide) ?_
                                      refine lv_icmp_eq (tgt := 238) hx hb dX10_choose_199 (by decide) (fun c_d => ?_) (fun c_d => ?_)
                                      · have hs2 : suL S b1 dayn (q1 + 1) = suL S b1 dayn q1 := by rw [suL, if_neg (fun z => (of_decide_eq_true z).1 c_d)]
                                        refine n_iinc (q := 1) (lv' := [(9, .int (nI (q1 + 1))), (0, .ref (ad.1 40 0)), (1, .int (nI mon)), (2, .int (nI dayn)), (3, .int be), (4, .int (nI bc)), (5, .int (nI bb)), (6, .int (nI b1)), (7, .int (nI co)), (8, .int (nI su))]) hx hb dX10_choose_238 hl (k := 9) rfl (by decide) (by decide) rfl (fun ls hl => ?_)
                                        refine lv_goto (tgt := 182) hx hb dX10_choose_241 (by decide) ?_
                                        exact ih_lp182 su (q1 + 1) _ _ ls (by omega) (by omega) (by rw [hs2, ← hsu]) hW hS (lv_sub hl [1, 2, 3, 4, 5, 6, 7, 8, 9, 0] rfl)
                                      · refine lv_aload_n hx hb dX10_choose_202 rfl (lv_at hl 0 rfl) ?_
                                        refine mo_ga hx hb hu hown hK hal hW 46 (by decide) uF_X10_107 dX10_choose_203 ?_
                                        refine lv_iload hx hb dX10_choose_206 (lv_at hl 9 rfl) ?_
                                        refine mo_lr hx hb hK hal hW 46 (n := 8) (by decide) (by omega) dX10_choose_208 ?_
                                        refine n_topi (y := sDeep S q1 dayn) (hDP q1 (by omega)) ?_
                                        refine lv_aload_n hx hb dX10_choose_209 rfl (lv_at hl 0 rfl) ?_
                                        refine mo_ga hx hb hu hown hK hal hW 5 (by decide) uF_X10_22 dX10_choose_210 ?_
                                        refine lv_iload hx hb dX10_choose_213 (lv_at hl 9 rfl) ?_
                                        refine mo_ld hx hb hK hal hW hP.1.1 5 (n := 8) (by decide) (by omega) dX10_choose_215 ?_
                                        have b_24 : S 5 q1 ≤ 99 := hG.a 5 q1 (n := 8) (mx := 99) (by decide) (by omega)
                                        refine lv_aload_n hx hb dX10_choose_216 rfl (lv_at hl 0 rfl) ?_
                                        refine mo_ga hx hb hu hown hK hal hW 6 (by decide) uF_X10_25 dX10_choose_217 ?_
                                        refine lv_iload hx hb dX10_choose_220 (lv_at hl 9 rfl) ?_
                                        refine mo_ld hx hb hK hal hW hP.1.1 6 (n := 8) (by decide) (by omega) dX10_choose_222 ?_
                                        have b_25 : S 6 q1 ≤ 99 := hG.a 6 q1 (n := 8) (mx := 99) (by decide) (by omega)
                                        refine n_iadd hx hb dX10_choose_223 ?_
                                        refine lv_aload_n hx hb dX10_choose_224 rfl (lv_at hl 0 rfl) ?_
                                        refine mo_ga hx hb hu hown hK hal hW 47 (by decide) uF_X10_110 dX10_choose_225 ?_
                                        refine lv_iload hx hb dX10_choose_228 (lv_at hl 9 rfl) ?_
                                        refine mo_lr hx hb hK hal hW 47 (n := 8) (by decide) (by omega) dX10_choose_230 ?_
                                        refine n_topi (y := nI (adL S b1 (S 30 0) q1)) (hAD q1 (by omega)) ?_
                                        refine n_iadd hx hb dX10_choose_231 ?_
                                        refine lv_icmp_gt (tgt := 238) hx hb dX10_choose_232 (by decide) (fun c_g => ?_) (fun c_g => ?_)
                                        · have hs2 : suL S b1 dayn (q1 + 1) = suL S b1 dayn q1 := by rw [suL, if_neg (fun z => absurd (of_decide_eq_true z).2 (Int32.not_le.mpr c_g))]
                                          refine n_iinc (q := 1) (lv' := [(9, .int (nI (q1 + 1))), (0, .ref (ad.1 40 0)), (1, .int (nI mon)), (2, .int (nI dayn)), (3, .int be), (4, .int (nI bc)), (5, .int (nI bb)), (6, .int (nI b1)), (7, .int (nI co)), (8, .int (nI su))]) hx hb dX10_choose_238 hl (k := 9) rfl (by decide) (by decide) rfl (fun ls hl => ?_)
                                          refine lv_goto (tgt := 182) hx hb dX10_choose_241 (by decide) ?_
                                          exact ih_lp182 su (q1 + 1) _ _ ls (by omega) (by omega) (by rw [hs2, ← hsu]) hW hS (lv_sub hl [1, 2, 3, 4, 5, 6, 7, 8, 9, 0] rfl)
                                        · have hs2 : suL S b1 dayn (q1 + 1) = suL S b1 dayn q1 + 1 := by rw [suL, if_pos (show suP S b1 dayn q1 = true from decide_eq_true ⟨c_d, Int32.not_lt.mp c_g⟩)]
                                          refine n_iinc (q := 1) (lv' := [(8, .int (nI (su + 1))), (0, .ref (ad.1 40 0)), (1, .int (nI mon)), (2, .int (nI dayn)), (3, .int be), (4, .int (nI bc)), (5, .int (nI bb)), (6, .int (nI b1)), (7, .int (nI co)), (9, .int (nI q1))]) hx hb dX10_choose_235 hl (k := 8) rfl (by decide) (by decide) rfl (fun ls hl => ?_)
                                          refine n_iinc (q := 1) (lv' := [(9, .int (nI (q1 + 1))), (8, .int (nI (su + 1))), (0, .ref (ad.1 40 0)), (1, .int (nI mon)), (2, .int (nI dayn)), (3, .int be), (4, .int (nI bc)), (5, .int (nI bb)), (6, .int (nI b1)), (7, .int (nI co))]) hx hb dX10_choose_238 hl (k := 9) rfl (by decide) (by decide) rfl (fun ls hl => ?_)
                                          refine lv_goto (tgt := 182) hx hb dX10_choose_241 (by decide) ?_
                                          exact ih_lp182 (su + 1) (q1 + 1) _ _ ls (by omega) (by omega) (by rw [hs2, ← hsu]) hW hS (lv_sub hl [2, 3, 4, 5, 6, 7, 8, 9, 1, 0] rfl)
                                exact lp182 (S 7 0 + 1) 0 0 _ _ ls (by omega) (by omega) rfl hW hS (lv_sub hl [2, 3, 4, 5, 6, 7, 8, 9, 1, 0] rfl)
                              · have hst : chL S mon dayn (b1 + 1) = (chL S mon dayn b1) := by rw [chL, if_neg (fun q => c_m (by rw [hco3]; exact q.1))]
                                refine lv_goto (tgt := 277) hx hb dX10_choose_173 (by decide) ?_
                                refine n_iinc (q := 1) (lv' := [(6, .int (nI (b1 + 1))), (0, .ref (ad.1 40 0)), (1, .int (nI mon)), (2, .int (nI dayn)), (3, .int be), (4, .int (nI bc)), (5, .int (nI bb)), (7, .int (nI co)), (8, .int (nI k2))]) hx hb dX10_choose_277 hl (k := 6) rfl (by decide) (by decide) rfl (fun ls hl => ?_)
                                refine lv_goto (tgt := 64) hx hb dX10_choose_280 (by decide) ?_
                                exact ih_lp64 be bc bb (b1 + 1) d _ _ ls (by omega) (by omega) hP hDP (by first | (rw [hst]; done) | (rw [hst]; exact hbe)) (by first | (rw [hst]; done) | (rw [hst]; exact hbc)) (by first | (rw [hst]; done) | (rw [hst]; exact hbb)) hW hS (lv_sub hl [1, 2, 3, 4, 5, 6, 0] rfl)
                            · refine lv_iload hx hb dX10_choose_114 (lv_at hl 6 rfl) ?_
                              refine lv_iload hx hb dX10_choose_116 (lv_at hl 8 rfl) ?_
                              refine lv_ishr hx hb dX10_choose_118 ?_
                              refine n_iconst (v := 1) hx hb dX10_choose_119 (by decide) ?_
                              refine lv_iand hx hb dX10_choose_120 ?_
                              refine lv_if_ne (tgt := 127) hx hb dX10_choose_121 (by decide) (fun c_i => ?_) (fun c_i => ?_)
                              · have hbt := bitI_t c_i
                                have hc2 : coL S b1 (k2 + 1) = coL S b1 k2 + S 29 k2 := by rw [coL, if_pos hbt]
                                have ha2 : adL S b1 (k2 + 1) = va_up (adL S b1 k2) (S 27 k2) (adL S b1 k2 (S 27 k2) + S 28 k2) := by rw [adL, if_pos hbt]
                                refine lv_iload hx hb dX10_choose_127 (lv_at hl 7 rfl) ?_
                                refine lv_aload_n hx hb dX10_choose_129 rfl (lv_at hl 0 rfl) ?_
                                refine mo_ga hx hb hu hown hK hal hW 29 (by decide) uF_X10_80 dX10_choose_130 ?_
                                refine lv_iload hx hb dX10_choose_133 (lv_at hl 8 rfl) ?_
                                refine mo_ld hx hb hK hal hW hP.1.1 29 (n := 10) (by decide) (by omega) dX10_choose_135 ?_
                                have b_26 : S 29 k2 ≤ 999 := hG.a 29 k2 (n := 10) (mx := 999) (by decide) (by omega)
                                refine n_iadd hx hb dX10_choose_136 ?_
                                refine lv_istore (lv' := [(7, .int (nI (co + (S 29 k2)))), (0, .ref (ad.1 40 0)), (1, .int (nI mon)), (2, .int (nI dayn)), (3, .int be), (4, .int (nI bc)), (5, .int (nI bb)), (6, .int (nI b1)), (8, .int (nI k2))]) hx hb dX10_choose_137 hl (by decide) rfl (fun ls hl => ?_)
                                refine lv_aload_n hx hb dX10_choose_139 rfl (lv_at hl 1 rfl) ?_
                                refine mo_ga hx hb hu hown hK hal hW 47 (by decide) uF_X10_110 dX10_choose_140 ?_
                                refine lv_aload_n hx hb dX10_choose_143 rfl (lv_at hl 1 rfl) ?_
                                refine mo_ga hx hb hu hown hK hal hW 27 (by decide) uF_X10_74 dX10_choose_144 ?_
                                refine lv_iload hx hb dX10_choose_147 (lv_at hl 8 rfl) ?_
                                refine mo_ld hx hb hK hal hW hP.1.1 27 (n := 10) (by decide) (by omega) dX10_choose_149 ?_
                                have b_27 : S 27 k2 ≤ 7 := hG.a 27 k2 (n := 10) (mx := 7) (by decide) (by omega)
                                refine lv_dup2_11 hx hb dX10_choose_150 rfl rfl ?_
                                refine mo_lr hx hb hK hal hW 47 (n := 8) (by decide) (by omega) dX10_choose_151 ?_
                                refine n_topi (y := nI (adL S b1 k2 (S 27 k2))) (hAD (S 27 k2) (by omega)) ?_
                                refine lv_aload_n hx hb dX10_choose_152 rfl (lv_at hl 1 rfl) ?_
                                refine mo_ga hx hb hu hown hK hal hW 28 (by decide) uF_X10_77 dX10_choose_153 ?_
                                refine lv_iload hx hb dX10_choose_156 (lv_at hl 8 rfl) ?_
                                refine mo_ld hx hb hK hal hW hP.1.1 28 (n := 10) (by decide) (by omega) dX10_choose_158 ?_
                                have b_28 : S 28 k2 ≤ 99 := hG.a 28 k2 (n := 10) (mx := 99) (by decide) (by omega)
                                refine n_iadd hx hb dX10_choose_159 ?_
                                refine mo_st hx hb hK hal hW hS 47 (n := 8) (by decide) (by omega) dX10_choose_160 (fun H locs hW hS => ?_)
                                have hP := hP.stK 97 (S 27 k2) (nI (adL S b1 k2 (S 27 k2) + S 28 k2)) (by omega)
                                have hAD := hAD.st (S 27 k2) (adL S b1 k2 (S 27 k2) + S 28 k2)
                                have hDP := hDP.k97 (S 27 k2) (nI (adL S b1 k2 (S 27 k2) + S 28 k2))
                                refine n_iinc (q := 1) (lv' := [(8, .int (nI (k2 + 1))), (7, .int (nI (co + (S 29 k2)))), (0, .ref (ad.1 40 0)), (1, .int (nI mon)), (2, .int (nI dayn)), (3, .int be), (4, .int (nI bc)), (5, .int (nI bb)), (6, .int (nI b1))]) hx hb dX10_choose_161 hl (k := 8) rfl (by decide) (by decide) rfl (fun ls hl => ?_)
                                refine lv_goto (tgt := 105) hx hb dX10_choose_164 (by decide) ?_
                                exact ih_lp105 (co + (S 29 k2)) (k2 + 1) (uI d (50 + 47) 0 (S 27 k2) (nI ((adL S b1 k2 (S 27 k2)) + (S 28 k2)))) _ _ ls (by omega) (by omega) hP hDP (by rw [ha2]; exact hAD) (by rw [hc2, ← hco]) hW hS (lv_sub hl [2, 3, 4, 5, 6, 7, 8, 1, 0] rfl)
                              · have hbt := bitI_f c_i
                                have hc2 : coL S b1 (k2 + 1) = coL S b1 k2 := by rw [coL, if_neg (by rw [hbt]; decide)]
                                have ha2 : adL S b1 (k2 + 1) = adL S b1 k2 := by rw [adL, if_neg (by rw [hbt]; decide)]
                                refine lv_goto (tgt := 161) hx hb dX10_choose_124 (by decide) ?_
                                refine n_iinc (q := 1) (lv' := [(8, .int (nI (k2 + 1))), (0, .ref (ad.1 40 0)), (1, .int (nI mon)), (2, .int (nI dayn)), (3, .int be), (4, .int (nI bc)), (5, .int (nI bb)), (6, .int (nI b1)), (7, .int (nI co))]) hx hb dX10_choose_161 hl (k := 8) rfl (by decide) (by decide) rfl (fun ls hl => ?_)
                                refine lv_goto (tgt := 105) hx hb dX10_choose_164 (by decide) ?_
                                exact ih_lp105 co (k2 + 1) d _ _ ls (by omega) (by omega) hP hDP (by rw [ha2]; exact hAD) (by rw [hc2, ← hco]) hW hS (lv_sub hl [1, 2, 3, 4, 5, 6, 7, 8, 0] rfl)
                        exact lp105 (S 30 0 + 1) 0 0 d _ _ ls (by omega) (by omega) hP hDP hAD rfl hW hS (lv_sub hl [1, 2, 3, 4, 5, 6, 7, 8, 0] rfl)
                      · refine lv_aload_n hx hb dX10_choose_88 rfl (lv_at hl 0 rfl) ?_
                        refine mo_ga hx hb hu hown hK hal hW 47 (by decide) uF_X10_110 dX10_choose_89 ?_
                        refine lv_iload hx hb dX10_choose_92 (lv_at hl 8 rfl) ?_
                        refine n_iconst (v := 0) hx hb dX10_choose_94 (by decide) ?_
                        refine mo_st hx hb hK hal hW hS 47 (n := 8) (by decide) (by omega) dX10_choose_95 (fun H locs hW hS => ?_)
                        have hP := hP.stK 97 k1 (nI 0) (by omega)
                        have hAD := hAD.z
                        have hDP := hDP.k97 k1 (nI 0)
                        refine n_iinc (q := 1) (lv' := [(8, .int (nI (k1 + 1))), (0, .ref (ad.1 40 0)), (1, .int (nI mon)), (2, .int (nI dayn)), (3, .int be), (4, .int (nI bc)), (5, .int (nI bb)), (6, .int (nI b1)), (7, .int (nI 0))]) hx hb dX10_choose_96 hl (k := 8) rfl (by decide) (by decide) rfl (fun ls hl => ?_)
                        refine lv_goto (tgt := 81) hx hb dX10_choose_99 (by decide) ?_
                        exact ih_lp81 (k1 + 1) (uI d (50 + 47) 0 k1 (nI 0)) _ _ ls (by omega) (by omega) hP hDP hAD hW hS (lv_sub hl [1, 2, 3, 4, 5, 6, 7, 8, 0] rfl)
                  exact lp81 (9) 0 d _ _ ls (by omega) (by omega) hP hDP (fun _ h => absurd h (Nat.not_lt_zero _)) hW hS (lv_sub hl [2, 3, 4, 5, 6, 7, 8, 1, 0] rfl)
            exact lp64 (2 ^ S 30 0 + 1) (-1) 0 0 0 d _ _ ls (by omega) (by omega) hP hDP rfl rfl rfl hW hS (lv_sub hl [4, 5, 6, 3, 2, 1, 0] rfl)
          · refine lv_aload_n hx hb dX10_choose_35 rfl (lv_at hl 0 rfl) ?_
            refine mo_ga hx hb hu hown hK hal hW 46 (by decide) uF_X10_107 dX10_choose_36 ?_
            refine lv_iload_n hx hb dX10_choose_39 rfl (lv_at hl 3 rfl) ?_
            refine lv_aload_n hx hb dX10_choose_40 rfl (lv_at hl 0 rfl) ?_
            refine lv_iload_n hx hb dX10_choose_41 rfl (lv_at hl 3 rfl) ?_
            refine lv_iload_n hx hb dX10_choose_42 rfl (lv_at hl 2 rfl) ?_
            refine o_calli (o_runV (As := [.int (nI p1), .int (nI dayn)]) (rest := [.int (nI p1), .ref (ad.1 96 0)]) ⟨hx, hb, hml, hown, hu⟩ (c_X10_deepest l D cA B0 ad hal S d hP.1 p1 dayn (by omega) (by omega)) (gV_X10_306 (fun _ h => h)) (n0 := 2) rfl (by decide +kernel) rfl ⟨Nat.le_of_ble_eq_true rfl, Nat.le_of_ble_eq_true rfl⟩ (o_recv hK hW hal.1 (kC_M _ _ _) rfl) hK hW hB hS hl.1 rfl (lv_room (Nat.le_of_ble_eq_true rfl)) ⟨Nat.zero_le _, Nat.zero_le _⟩ dX10_choose_43) hS (fun r_30 d_29 q_31 H locs hW hS => ?_)
            obtain ⟨rfl, hq⟩ := q_31
            have hP := hP.mi hq
            have hDP := hDP.mi hq
            refine mo_st hx hb hK hal hW hS 46 (n := 8) (by decide) (by omega) dX10_choose_46 (fun H locs hW hS => ?_)
            have hP := hP.stK 96 p1 (sDeep S p1 dayn) (by omega)
            have hDP := hDP.st (v := sDeep S p1 dayn) rfl
            refine n_iinc (q := 1) (lv' := [(3, .int (nI (p1 + 1))), (0, .ref (ad.1 40 0)), (1, .int (nI mon)), (2, .int (nI dayn))]) hx hb dX10_choose_47 hl (k := 3) rfl (by decide) (by decide) rfl (fun ls hl => ?_)
            refine lv_goto (tgt := 27) hx hb dX10_choose_50 (by decide) ?_
            exact ih_lp27 (p1 + 1) (uI d_29 (50 + 46) 0 p1 (sDeep S p1 dayn)) _ _ ls (by omega) (by omega) hP hDP hW hS (lv_sub hl [1, 2, 3, 0] rfl)
      exact lp27 (S 7 0 + 1) 0 (uI d0 40 0 33 (nI 0)) _ _ ls (by omega) (by omega) hP (fun _ h => absurd h (Nat.not_lt_zero _)) hW hS (lv_sub hl [1, 2, 3, 0] rfl)
    · refine lv_iconst (v := -1) hx hb dX10_choose_23 (by decide) ?_
      exact o_iret hx hb hr hlocks hW hS (⟨by simp only [aChoose, ix_nI hmon (by omega), nx_nI (j := mon) (by omega), bI_z c_8, eq_self, ↓reduceIte, Bool.false_eq_true], by simp only [nChoose, rChoose, ix_nI hmon (by omega), nx_nI (j := mon) (by omega), bI_z c_8, eq_self, ↓reduceIte, Bool.false_eq_true]; exact hI.pub hR⟩) dX10_choose_24
