set_option maxHeartbeats 400000 in
set_option maxRecDepth 100000 in
theorem c_X10_isShut (l : Launch) (D : va_G) (cA : Nat → ClassId) (B0 : Nat) (ad : kA) (hal : mAl ad) (S : sS) (d0 : kD) (hM : InvM S d0) (bb : Nat) (dd : Nat) (sh : Nat) (hb0 : bb < S 25 0) (hd : dd < 400) (hsh : sh ≤ 1000) : oM l yX10_isShut wX10_isShut 9 0 0 D cA B0 ad d0 ([.ref (ad.1 40 0), .int (nI bb), .int (nI dd), .int (nI sh)] : List Value) (oQi D cA B0 ad (fun r d1 => r = bI (sShut S bb dd sh) ∧ MI S d0 d1)) := by
  refine o_ofW (cc := cX10_isShut) (maxL := 8) (ret := some .boolean) (by decide) rfl (Nat.le_of_ble_eq_true rfl) ?_
  intro p e s m below meth c hx hb hr hml hts hown hlocks hnm hK hW hB hS ls hl
  have hu : ∀ w ∈ UW, w.before _ s = true := fun w h => hts w (uw_c w h)
  have hl : lv_has ls 8 [(0, .ref (ad.1 40 0)), (1, .int (nI bb)), (2, .int (nI dd)), (3, .int (nI sh))] := hl
  have hI : MI S d0 d0 := MI.start hM
  have hG : sG S := hM.2.1
  have hb7 : S 7 0 ≤ 8 := hG.f 7 (mx := 8) (by decide)
  have hb18 : S 18 0 ≤ 40 := hG.f 18 (mx := 40) (by decide)
  have hb25 : S 25 0 ≤ 4 := hG.f 25 (mx := 4) (by decide)
  refine n_iconst (v := 0) hx hb dX10_isShut_0 (by decide) ?_
  refine lv_istore (lv' := [(4, .int (nI 0)), (0, .ref (ad.1 40 0)), (1, .int (nI bb)), (2, .int (nI dd)), (3, .int (nI sh))]) hx hb dX10_isShut_1 hl (by decide) rfl (fun ls hl => ?_)
  have lp3 : ∀ (n : Nat) (k : Nat)  (d : kD) (H : Heap) (locs : List Loc) (ls : Array Slot), S 7 0 - k < n → (k ≤ S 7 0) → (MI S d0 d) → (shL S bb dd sh (S 7 0) 0 = shL S bb dd sh (S 7 0 - k) k) → oW D cA B0 ad d H → va_S (oA B0) s.heap H locs → lv_has ls 8 [(0, .ref (ad.1 40 0)), (1, .int (nI bb)), (2, .int (nI dd)), (3, .int (nI sh)), (4, .int (nI k))] → W p l e (oR 9 0 0) s m ([.ref (ad.1 40 0), .int (nI bb), .int (nI dd), .int (nI sh)] : List Value).toArray below meth c H locs 0 0 (MQ below (oQi D cA B0 ad (fun r d1 => r = bI (sShut S bb dd sh) ∧ MI S d0 d1)) ([.ref (ad.1 40 0), .int (nI bb), .int (nI dd), .int (nI sh)] : List Value).toArray s 0 0 (oA B0)) (F0 m 3 ls []) := by
    intro n
    induction n with
    | zero => intro k  d H locs ls hmu; exact absurd hmu (Nat.not_lt_zero _)
    | succ n ih_lp3 =>
      intro k  d H locs ls hmu hk hI hsh2 hW hS hl
      refine lv_iload hx hb dX10_isShut_3 (lv_at hl 4 rfl) ?_
      refine lv_aload_n hx hb dX10_isShut_5 rfl (lv_at hl 0 rfl) ?_
      refine mo_gi hx hb hu hown hK hal hW hI.dS 7 (by decide) uF_X10_116 dX10_isShut_6 ?_
      have b_1 : S 7 0 ≤ 8 := hG.f 7 (mx := 8) (by decide)
      refine n_icmp_ge (tgt := 85) hx hb (by omega) (by omega) dX10_isShut_9 (by decide) (fun c_2 => ?_) (fun c_2 => ?_)
      · refine n_iconst (v := 0) hx hb dX10_isShut_85 (by decide) ?_
        exact o_zret hx hb hr hlocks (by first | rfl | exact z_bI _ | (split <;> first | rfl | (split <;> rfl))) hW hS (⟨by unfold sShut; rw [hsh2, show S 7 0 - k = 0 by omega]; rfl, hI⟩) dX10_isShut_86
      · refine lv_aload_n hx hb dX10_isShut_12 rfl (lv_at hl 0 rfl) ?_
        refine mo_ga hx hb hu hown hK hal hW 23 (by decide) uF_X10_65 dX10_isShut_13 ?_
        refine lv_iload_n hx hb dX10_isShut_16 rfl (lv_at hl 1 rfl) ?_
        refine mo_ld hx hb hK hal hW hI.dS 23 (n := 4) (by decide) (by omega) dX10_isShut_17 ?_
        have b_3 : S 23 bb ≤ 255 := hG.a 23 bb (n := 4) (mx := 255) (by decide) (by omega)
        refine lv_iload hx hb dX10_isShut_18 (lv_at hl 4 rfl) ?_
        refine lv_ishr hx hb dX10_isShut_20 ?_
        refine n_iconst (v := 1) hx hb dX10_isShut_21 (by decide) ?_
        refine lv_iand hx hb dX10_isShut_22 ?_
        refine lv_if_ne (tgt := 29) hx hb dX10_isShut_23 (by decide) (fun c_a => ?_) (fun c_a => ?_)
        · refine lv_aload_n hx hb dX10_isShut_29 rfl (lv_at hl 0 rfl) ?_
          refine lv_iload hx hb dX10_isShut_30 (lv_at hl 4 rfl) ?_
          refine lv_iload_n hx hb dX10_isShut_32 rfl (lv_at hl 2 rfl) ?_
          refine o_calll (o_runV (As := [.int (nI k), .int (nI dd)]) (rest := []) ⟨hx, hb, hml, hown, hu⟩ (c_X10_keptOn l D cA B0 ad hal S d hI.1 k dd (by omega) (by omega)) (gV_X10_207 (fun _ h => h)) (n0 := 2) rfl (by decide +kernel) rfl ⟨Nat.le_of_ble_eq_true rfl, Nat.le_of_ble_eq_true rfl⟩ (o_recv hK hW hal.1 (kC_M _ _ _) rfl) hK hW hB hS hl.1 rfl (lv_room (Nat.le_of_ble_eq_true rfl)) ⟨Nat.zero_le _, Nat.zero_le _⟩ dX10_isShut_33) hS (fun r_5 d_4 q_6 H locs hW hS => ?_)
          obtain ⟨rfl, hq⟩ := q_6
          have hI := hI.trans hq
          refine lv_lstore (lv' := [(5, .long (sKept S k dd)), (0, .ref (ad.1 40 0)), (1, .int (nI bb)), (2, .int (nI dd)), (3, .int (nI sh)), (4, .int (nI k))]) hx hb dX10_isShut_36 hl (by decide) rfl (fun ls hl => ?_)
          refine lv_lload hx hb dX10_isShut_38 (lv_at hl 0 rfl) ?_
          refine o_calli (o_runS (As := [.long (sKept S k dd)]) (rest := []) ⟨hx, hb, hml, hown, hu⟩ (c_X10_many l D cA B0 ad hal d_4 (sKept S k dd)) (gS_X10_217 (fun _ h => h)) (n0 := 1) rfl (by decide +kernel) rfl ⟨Nat.le_of_ble_eq_true rfl, Nat.le_of_ble_eq_true rfl⟩ hK hW hB hS hl.1 rfl (lv_room (Nat.le_of_ble_eq_true rfl)) ⟨Nat.zero_le _, Nat.zero_le _⟩ dX10_isShut_40) hS (fun r_8 d_7 q_9 H locs hW hS => ?_)
          obtain ⟨rfl, rfl⟩ := q_9
          have b_10 := popN_le (sKept S k dd)
          refine lv_istore (lv' := [(7, .int (nI (popN (sKept S k dd)))), (5, .long (sKept S k dd)), (0, .ref (ad.1 40 0)), (1, .int (nI bb)), (2, .int (nI dd)), (3, .int (nI sh)), (4, .int (nI k))]) hx hb dX10_isShut_43 hl (by decide) rfl (fun ls hl => ?_)
          refine lv_iload hx hb dX10_isShut_45 (lv_at hl 0 rfl) ?_
          refine n_if_eq (tgt := 77) hx hb (by omega) dX10_isShut_47 (by decide) (fun c_b => ?_) (fun c_b => ?_)
          · have hsp : shP S k dd sh = true := decide_eq_true (Or.inl c_b)
            refine n_iconst (v := 1) hx hb dX10_isShut_77 (by decide) ?_
            exact o_zret hx hb hr hlocks (by first | rfl | exact z_bI _ | (split <;> first | rfl | (split <;> rfl))) hW hS (⟨by unfold sShut; rw [hsh2, show S 7 0 - k = (S 7 0 - (k + 1)) + 1 by omega, shL, if_neg c_a, if_pos hsp]; rfl, hI⟩) dX10_isShut_78
          · refine lv_iload hx hb dX10_isShut_50 (lv_at hl 0 rfl) ?_
            refine lv_aload_n hx hb dX10_isShut_52 rfl (lv_at hl 2 rfl) ?_
            refine lv_iload hx hb dX10_isShut_53 (lv_at hl 6 rfl) ?_
            refine lv_lload hx hb dX10_isShut_55 (lv_at hl 1 rfl) ?_
            refine lv_iload_n hx hb dX10_isShut_57 rfl (lv_at hl 4 rfl) ?_
            refine n_iconst (v := 0) hx hb dX10_isShut_58 (by decide) ?_
            refine o_calll (o_runV (As := [.int (nI k), .long (sKept S k dd), .int (nI dd), .int (nI 0)]) (rest := [.int (nI (popN (sKept S k dd)))]) ⟨hx, hb, hml, hown, hu⟩ (c_X10_yes l D cA B0 ad hal S d_4 hI.1 k (sKept S k dd) dd 0 (by omega) (by omega) (by omega)) (gV_X10_226 (fun _ h => h)) (n0 := 4) rfl (by decide +kernel) rfl ⟨Nat.le_of_ble_eq_true rfl, Nat.le_of_ble_eq_true rfl⟩ (o_recv hK hW hal.1 (kC_M _ _ _) rfl) hK hW hB hS hl.1 rfl (lv_room (Nat.le_of_ble_eq_true rfl)) ⟨Nat.zero_le _, Nat.zero_le _⟩ dX10_isShut_59) hS (fun r_12 d_11 q_13 H locs hW hS => ?_)
            obtain ⟨rfl, hq⟩ := q_13
            have hI := hI.trans hq
            refine o_calli (o_runS (As := [.long (sYes S k (sKept S k dd) dd 0)]) (rest := [.int (nI (popN (sKept S k dd)))]) ⟨hx, hb, hml, hown, hu⟩ (c_X10_many l D cA B0 ad hal d_11 (sYes S k (sKept S k dd) dd 0)) (gS_X10_217 (fun _ h => h)) (n0 := 1) rfl (by decide +kernel) rfl ⟨Nat.le_of_ble_eq_true rfl, Nat.le_of_ble_eq_true rfl⟩ hK hW hB hS hl.1 rfl (lv_room (Nat.le_of_ble_eq_true rfl)) ⟨Nat.zero_le _, Nat.zero_le _⟩ dX10_isShut_62) hS (fun r_15 d_14 q_16 H locs hW hS => ?_)
            obtain ⟨rfl, rfl⟩ := q_16
            have b_17 := popN_le (sYes S k (sKept S k dd) dd 0)
            refine lv_isub hx hb dX10_isShut_65 ?_
            refine n_sipush (v := 1000) hx hb dX10_isShut_66 (by decide) ?_
            refine lv_imul hx hb dX10_isShut_69 ?_
            refine lv_iload_n hx hb dX10_isShut_70 rfl (lv_at hl 5 rfl) ?_
            refine lv_iload hx hb dX10_isShut_71 (lv_at hl 0 rfl) ?_
            refine n_imul hx hb dX10_isShut_73 ?_
            refine lv_icmp_le (tgt := 79) hx hb dX10_isShut_74 (by decide) (fun c_c => ?_) (fun c_c => ?_)
            · have hsp : ¬ shP S k dd sh = true := fun q => (of_decide_eq_true q).elim c_b (fun z => z c_c)
              have hst : shL S bb dd sh (S 7 0 - k) k = shL S bb dd sh (S 7 0 - (k + 1)) (k + 1) := by rw [show S 7 0 - k = (S 7 0 - (k + 1)) + 1 by omega, shL, if_neg c_a, if_neg hsp]
              refine n_iinc (q := 1) (lv' := [(4, .int (nI (k + 1))), (7, .int (nI (popN (sKept S k dd)))), (5, .long (sKept S k dd)), (0, .ref (ad.1 40 0)), (1, .int (nI bb)), (2, .int (nI dd)), (3, .int (nI sh))]) hx hb dX10_isShut_79 hl (k := 6) rfl (by decide) (by decide) rfl (fun ls hl => ?_)
              refine lv_goto (tgt := 3) hx hb dX10_isShut_82 (by decide) ?_
              exact ih_lp3 (k + 1) d_11 _ _ ls (by omega) (by omega) hI (by rw [hsh2, hst]) hW hS (lv_sub hl [3, 4, 5, 6, 0] rfl)
            · have hsp : shP S k dd sh = true := decide_eq_true (Or.inr c_c)
              refine n_iconst (v := 1) hx hb dX10_isShut_77 (by decide) ?_
              exact o_zret hx hb hr hlocks (by first | rfl | exact z_bI _ | (split <;> first | rfl | (split <;> rfl))) hW hS (⟨by unfold sShut; rw [hsh2, show S 7 0 - k = (S 7 0 - (k + 1)) + 1 by omega, shL, if_neg c_a, if_pos hsp]; rfl, hI⟩) dX10_isShut_78
        · have hst : shL S bb dd sh (S 7 0 - k) k = shL S bb dd sh (S 7 0 - (k + 1)) (k + 1) := by rw [show S 7 0 - k = (S 7 0 - (k + 1)) + 1 by omega, shL, if_pos c_a]
          refine lv_goto (tgt := 79) hx hb dX10_isShut_26 (by decide) ?_
          refine n_iinc (q := 1) (lv' := [(4, .int (nI (k + 1))), (0, .ref (ad.1 40 0)), (1, .int (nI bb)), (2, .int (nI dd)), (3, .int (nI sh))]) hx hb dX10_isShut_79 hl (k := 4) rfl (by decide) (by decide) rfl (fun ls hl => ?_)
          refine lv_goto (tgt := 3) hx hb dX10_isShut_82 (by decide) ?_
          exact ih_lp3 (k + 1) d _ _ ls (by omega) (by omega) hI (by rw [hsh2, hst]) hW hS (lv_sub hl [1, 2, 3, 4, 0] rfl)
  exact lp3 (S 7 0 + 1) 0 d0 _ _ ls (by omega) (by omega) hI rfl hW hS (lv_sub hl [1, 2, 3, 4, 0] rfl)

set_option maxHeartbeats 400000 in
set_option maxRecDepth 100000 in
theorem c_X10_shut (l : Launch) (D : va_G) (cA : Nat → ClassId) (B0 : Nat) (ad : kA) (hal : mAl ad) (S : sS) (sr : Nat → Int32) (d0 : kD) (hM : InvM S d0) (hR : RowM S sr d0) (bi day si : Int32) : oM l yX10_shut wX10_shut 10 0 0 D cA B0 ad d0 ([.ref (ad.1 40 0), .int bi, .int day, .int si] : List Value) (oQi D cA B0 ad (fun r d1 => r = aShut S bi day si ∧ PI S sr d0 d1)) := by
  refine o_ofW (cc := cX10_shut) (maxL := 4) (ret := some .int) (by decide) rfl (Nat.le_of_ble_eq_true rfl) ?_
  intro p e s m below meth c hx hb hr hml hts hown hlocks hnm hK hW hB hS ls hl
  have hu : ∀ w ∈ UW, w.before _ s = true := fun w h => hts w (uw_c w h)
  have hl : lv_has ls 4 [(0, .ref (ad.1 40 0)), (1, .int bi), (2, .int day), (3, .int si)] := hl
  refine lv_aload_n hx hb dX10_shut_0 rfl (lv_at hl 0 rfl) ?_
  refine n_iconst (v := 0) hx hb dX10_shut_1 (by decide) ?_
  refine mo_pi hx hb hu hown hK hal hW hS 33 (by decide +kernel) uF_X10_113 dX10_shut_2 (fun H locs hW hS => ?_)
  have hI : MI S (uI d0 40 0 33 (nI 0)) (uI d0 40 0 33 (nI 0)) := MI.start (hM.thr 33 _ rfl)
  have hG : sG S := hM.2.1
  have hb1 : S 1 0 ≤ 4 := hG.f 1 (mx := 4) (by decide)
  have hb7 : S 7 0 ≤ 8 := hG.f 7 (mx := 8) (by decide)
  have hb11 : S 11 0 ≤ 20 := hG.f 11 (mx := 20) (by decide)
  have hb18 : S 18 0 ≤ 40 := hG.f 18 (mx := 40) (by decide)
  have hb19 : S 19 0 ≤ 399 := hG.f 19 (mx := 399) (by decide)
  have hb22 : S 22 0 ≤ 64 := hG.f 22 (mx := 64) (by decide)
  have hb25 : S 25 0 ≤ 4 := hG.f 25 (mx := 4) (by decide)
  have hb30 : S 30 0 ≤ 10 := hG.f 30 (mx := 10) (by decide)
  have hb32 : S 32 0 ≤ 64 := hG.f 32 (mx := 64) (by decide)
  refine lv_aload_n hx hb dX10_shut_5 rfl (lv_at hl 0 rfl) ?_
  refine lv_iload_n hx hb dX10_shut_6 rfl (lv_at hl 1 rfl) ?_
  refine o_calli (o_runV (As := [.int bi]) (rest := []) ⟨hx, hb, hml, hown, hu⟩ (c_X10_isBridge l D cA B0 ad hal S (uI d0 40 0 33 (nI 0)) hI.dS hG bi ) (gV_X10_278 (fun _ h => h)) (n0 := 1) rfl (by decide +kernel) rfl ⟨Nat.le_of_ble_eq_true rfl, Nat.le_of_ble_eq_true rfl⟩ (o_recv hK hW hal.1 (kC_M _ _ _) rfl) hK hW hB hS hl.1 rfl (lv_room (Nat.le_of_ble_eq_true rfl)) ⟨Nat.zero_le _, Nat.zero_le _⟩ dX10_shut_7) hS (fun r_2 d_1 q_3 H locs hW hS => ?_)
  obtain ⟨rfl, rfl⟩ := q_3
  refine lv_if_eq (tgt := 45) hx hb dX10_shut_10 (by decide) (fun c_4 => ?_) (fun c_4 => ?_)
  · refine lv_iconst (v := -1) hx hb dX10_shut_45 (by decide) ?_
    exact o_iret hx hb hr hlocks hW hS (⟨by first | (simp only [aShut, bI_z c_4, eq_self, ↓reduceIte, Bool.false_eq_true]; done) | (simp only [aShut, bI_z c_4, eq_self, ↓reduceIte, Bool.false_eq_true]; rfl), hI.pub hR⟩) dX10_shut_46
  · obtain ⟨bin, hbin, rfl⟩ := ix_t (bI_n c_4) (by omega)
    refine lv_iload_n hx hb dX10_shut_13 rfl (lv_at hl 2 rfl) ?_
    refine o_calli (o_runS (As := [.int day]) (rest := []) ⟨hx, hb, hml, hown, hu⟩ (c_X10_isDay l D cA B0 ad hal (uI d0 40 0 33 (nI 0)) day) (gS_X10_126 (fun _ h => h)) (n0 := 1) rfl (by decide +kernel) rfl ⟨Nat.le_of_ble_eq_true rfl, Nat.le_of_ble_eq_true rfl⟩ hK hW hB hS hl.1 rfl (lv_room (Nat.le_of_ble_eq_true rfl)) ⟨Nat.zero_le _, Nat.zero_le _⟩ dX10_shut_14) hS (fun r_6 d_5 q_7 H locs hW hS => ?_)
    obtain ⟨rfl, rfl⟩ := q_7
    refine lv_if_eq (tgt := 45) hx hb dX10_shut_17 (by decide) (fun c_8 => ?_) (fun c_8 => ?_)
    · refine lv_iconst (v := -1) hx hb dX10_shut_45 (by decide) ?_
      exact o_iret hx hb hr hlocks hW hS (⟨by first | (simp only [aShut, ix_nI hbin (by omega), nx_nI (j := bin) (by omega), bI_z c_8, eq_self, ↓reduceIte, Bool.false_eq_true]; done) | (simp only [aShut, ix_nI hbin (by omega), nx_nI (j := bin) (by omega), bI_z c_8, eq_self, ↓reduceIte, Bool.false_eq_true]; rfl), hI.pub hR⟩) dX10_shut_46
    · obtain ⟨dayn, hdayn, rfl⟩ := ix_t (bI_n c_8) (by omega)
      refine lv_iload_n hx hb dX10_shut_20 rfl (lv_at hl 3 rfl) ?_
      refine o_calli (o_runS (As := [.int si]) (rest := []) ⟨hx, hb, hml, hown, hu⟩ (c_X10_isShare l D cA B0 ad hal (uI d0 40 0 33 (nI 0)) si) (gS_X10_281 (fun _ h => h)) (n0 := 1) rfl (by decide +kernel) rfl ⟨Nat.le_of_ble_eq_true rfl, Nat.le_of_ble_eq_true rfl⟩ hK hW hB hS hl.1 rfl (lv_room (Nat.le_of_ble_eq_true rfl)) ⟨Nat.zero_le _, Nat.zero_le _⟩ dX10_shut_21) hS (fun r_10 d_9 q_11 H locs hW hS => ?_)
      obtain ⟨rfl, rfl⟩ := q_11
      refine lv_if_eq (tgt := 45) hx hb dX10_shut_24 (by decide) (fun c_12 => ?_) (fun c_12 => ?_)
      · refine lv_iconst (v := -1) hx hb dX10_shut_45 (by decide) ?_
        exact o_iret hx hb hr hlocks hW hS (⟨by first | (simp only [aShut, ix_nI hbin (by omega), nx_nI (j := bin) (by omega), ix_nI hdayn (by omega), nx_nI (j := dayn) (by omega), bI_z c_12, eq_self, ↓reduceIte, Bool.false_eq_true]; done) | (simp only [aShut, ix_nI hbin (by omega), nx_nI (j := bin) (by omega), ix_nI hdayn (by omega), nx_nI (j := dayn) (by omega), bI_z c_12, eq_self, ↓reduceIte, Bool.false_eq_true]; rfl), hI.pub hR⟩) dX10_shut_46
      · obtain ⟨sin, hsin, rfl⟩ := ix_t (bI_n c_12) (by omega)
        refine lv_aload_n hx hb dX10_shut_27 rfl (lv_at hl 0 rfl) ?_
        refine lv_iload_n hx hb dX10_shut_28 rfl (lv_at hl 1 rfl) ?_
        refine lv_iload_n hx hb dX10_shut_29 rfl (lv_at hl 2 rfl) ?_
        refine lv_iload_n hx hb dX10_shut_30 rfl (lv_at hl 3 rfl) ?_
        refine o_calli (o_runV (As := [.int (nI bin), .int (nI dayn), .int (nI sin)]) (rest := []) ⟨hx, hb, hml, hown, hu⟩ (c_X10_isShut l D cA B0 ad hal S (uI d0 40 0 33 (nI 0)) hI.1 bin dayn sin (by omega) (by omega) (by omega)) (gV_X10_284 (fun _ h => h)) (n0 := 3) rfl (by decide +kernel) rfl ⟨Nat.le_of_ble_eq_true rfl, Nat.le_of_ble_eq_true rfl⟩ (o_recv hK hW hal.1 (kC_M _ _ _) rfl) hK hW hB hS hl.1 rfl (lv_room (Nat.le_of_ble_eq_true rfl)) ⟨Nat.zero_le _, Nat.zero_le _⟩ dX10_shut_31) hS (fun r_14 d_13 q_15 H locs hW hS => ?_)
        obtain ⟨rfl, hq⟩ := q_15
        have hI := hI.trans hq
        refine lv_if_eq (tgt := 41) hx hb dX10_shut_34 (by decide) (fun c_s => ?_) (fun c_s => ?_)
        · have hss : sShut S bin dayn sin = false := bI_z c_s
          refine n_iconst (v := 0) hx hb dX10_shut_41 (by decide) ?_
          refine lv_goto (tgt := 46) hx hb dX10_shut_42 (by decide) ?_
          exact o_iret hx hb hr hlocks hW hS (⟨by first | (simp only [aShut, ix_nI hbin (by omega), nx_nI (j := bin) (by omega), ix_nI hdayn (by omega), nx_nI (j := dayn) (by omega), ix_nI hsin (by omega), nx_nI (j := sin) (by omega), hss, eq_self, ↓reduceIte, Bool.false_eq_true]; done) | (simp only [aShut, ix_nI hbin (by omega), nx_nI (j := bin) (by omega), ix_nI hdayn (by omega), nx_nI (j := dayn) (by omega), ix_nI hsin (by omega), nx_nI (j := sin) (by omega), hss, eq_self, ↓reduceIte, Bool.false_eq_true]; rfl), hI.pub hR⟩) dX10_shut_46
        · have hss : sShut S bin dayn sin = true := bI_n c_s
          refine n_iconst (v := 1) hx hb dX10_shut_37 (by decide) ?_
          refine lv_goto (tgt := 46) hx hb dX10_shut_38 (by decide) ?_
          exact o_iret hx hb hr hlocks hW hS (⟨by first | (simp only [aShut, ix_nI hbin (by omega), nx_nI (j := bin) (by omega), ix_nI hdayn (by omega), nx_nI (j := dayn) (by omega), ix_nI hsin (by omega), nx_nI (j := sin) (by omega), hss, eq_self, ↓reduceIte, Bool.false_eq_true]; done) | (simp only [aShut, ix_nI hbin (by omega), nx_nI (j := bin) (by omega), ix_nI hdayn (by omega), nx_nI (j := dayn) (by omega), ix_nI hsin (by omega), nx_nI (j := sin) (by omega), hss, eq_self, ↓reduceIte, Bool.false_eq_true]; rfl), hI.pub hR⟩) dX10_shut_46
