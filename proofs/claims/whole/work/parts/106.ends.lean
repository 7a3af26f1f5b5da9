set_option maxHeartbeats 400000 in
set_option maxRecDepth 100000 in
theorem c_X10_ends (l : Launch) (D : va_G) (cA : Nat → ClassId) (B0 : Nat) (ad : kA) (hal : mAl ad) (S : sS) (sr : Nat → Int32) (d0 : kD) (hM : InvM S d0) (hR : RowM S sr d0) (pi day : Int32) : oM l yX10_ends wX10_ends 9 0 0 D cA B0 ad d0 ([.ref (ad.1 40 0), .int pi, .int day] : List Value) (oQi D cA B0 ad (fun r d1 => r = aEnds S pi day ∧ PI (nEnds S pi day) (rEnds S sr pi day) d0 d1)) := by
  refine o_ofW (cc := cX10_ends) (maxL := 6) (ret := some .int) (by decide) rfl (Nat.le_of_ble_eq_true rfl) ?_
  intro p e s m below meth c hx hb hr hml hts hown hlocks hnm hK hW hB hS ls hl
  have hu : ∀ w ∈ UW, w.before _ s = true := fun w h => hts w (uw_c w h)
  have hl : lv_has ls 6 [(0, .ref (ad.1 40 0)), (1, .int pi), (2, .int day)] := hl
  refine lv_aload_n hx hb dX10_ends_0 rfl (lv_at hl 0 rfl) ?_
  refine n_iconst (v := 0) hx hb dX10_ends_1 (by decide) ?_
  refine mo_pi hx hb hu hown hK hal hW hS 33 (by decide +kernel) uF_X10_113 dX10_ends_2 (fun H locs hW hS => ?_)
  have hI : MI S (uI d0 40 0 33 (nI 0)) (uI d0 40 0 33 (nI 0)) := MI.start (hM.thr 33 _ rfl)
  have hG : sG S := hM.2.1
  have hb1 : S 1 0 ≤ 4 := hG.f 1 (mx := 4) (by decide)
  have hb7 : S 7 0 ≤ 8 := hG.f 7 (mx := 8) (by decide)
  have hb11 : S 11 0 ≤ 20 := hG.f 11 (mx := 20) (by decide)
  have hb18 : S 18 0 ≤ 40 := hG.f 18 (mx := 40) (by decide)
  have hb19 : S 19 0 ≤ 399 := hG.f 19 (mx := 399) (by decide)
  have hb22 : S 22 0 ≤ 64 := hG.f 22 (mx := 64) (by decide)
  have hb25 : S 25 0 ≤ 4 := hG.f 25 (mx := 4) (by decide)
  have hb30 : S 30 0 ≤ 10 := hG.f 30 (mx := 10) (by decide)
  have hb32 : S 32 0 ≤ 64 := hG.f 32 (mx := 64) (by decide)
  refine lv_aload_n hx hb dX10_ends_5 rfl (lv_at hl 0 rfl) ?_
  refine lv_iload_n hx hb dX10_ends_6 rfl (lv_at hl 1 rfl) ?_
  refine o_calli (o_runV (As := [.int pi]) (rest := []) ⟨hx, hb, hml, hown, hu⟩ (c_X10_isPier l D cA B0 ad hal S (uI d0 40 0 33 (nI 0)) hI.dS hG pi ) (gV_X10_145 (fun _ h => h)) (n0 := 1) rfl (by decide +kernel) rfl ⟨Nat.le_of_ble_eq_true rfl, Nat.le_of_ble_eq_true rfl⟩ (o_recv hK hW hal.1 (kC_M _ _ _) rfl) hK hW hB hS hl.1 rfl (lv_room (Nat.le_of_ble_eq_true rfl)) ⟨Nat.zero_le _, Nat.zero_le _⟩ dX10_ends_7) hS (fun r_2 d_1 q_3 H locs hW hS => ?_)
  obtain ⟨rfl, rfl⟩ := q_3
  refine lv_if_eq (tgt := 20) hx hb dX10_ends_10 (by decide) (fun c_4 => ?_) (fun c_4 => ?_)
  · refine lv_iconst (v := -1) hx hb dX10_ends_20 (by decide) ?_
    exact o_iret hx hb hr hlocks hW hS (⟨by simp only [aEnds, bI_z c_4, eq_self, ↓reduceIte, Bool.false_eq_true], by simp only [nEnds, rEnds, bI_z c_4, eq_self, ↓reduceIte, Bool.false_eq_true]; exact hI.pub hR⟩) dX10_ends_21
  · obtain ⟨pin, hpin, rfl⟩ := ix_t (bI_n c_4) (by omega)
    refine lv_iload_n hx hb dX10_ends_13 rfl (lv_at hl 2 rfl) ?_
    refine o_calli (o_runS (As := [.int day]) (rest := []) ⟨hx, hb, hml, hown, hu⟩ (c_X10_isDay l D cA B0 ad hal (uI d0 40 0 33 (nI 0)) day) (gS_X10_126 (fun _ h => h)) (n0 := 1) rfl (by decide +kernel) rfl ⟨Nat.le_of_ble_eq_true rfl, Nat.le_of_ble_eq_true rfl⟩ hK hW hB hS hl.1 rfl (lv_room (Nat.le_of_ble_eq_true rfl)) ⟨Nat.zero_le _, Nat.zero_le _⟩ dX10_ends_14) hS (fun r_6 d_5 q_7 H locs hW hS => ?_)
    obtain ⟨rfl, rfl⟩ := q_7
    refine lv_if_ne (tgt := 22) hx hb dX10_ends_17 (by decide) (fun c_8 => ?_) (fun c_8 => ?_)
    · obtain ⟨dayn, hdayn, rfl⟩ := ix_t (bI_n c_8) (by omega)
      refine lv_aload_n hx hb dX10_ends_22 rfl (lv_at hl 0 rfl) ?_
      refine lv_iload_n hx hb dX10_ends_23 rfl (lv_at hl 1 rfl) ?_
      refine lv_aload_n hx hb dX10_ends_24 rfl (lv_at hl 0 rfl) ?_
      refine mo_gi hx hb hu hown hK hal hW hI.dS 19 (by decide) uF_X10_55 dX10_ends_25 ?_
      have b_9 : S 19 0 ≤ 399 := hG.f 19 (mx := 399) (by decide)
      refine o_calll (o_runV (As := [.int (nI pin), .int (nI (S 19 0))]) (rest := []) ⟨hx, hb, hml, hown, hu⟩ (c_X10_keptOn l D cA B0 ad hal S (uI d0 40 0 33 (nI 0)) hI.1 pin (S 19 0) (by omega) (by omega)) (gV_X10_207 (fun _ h => h)) (n0 := 2) rfl (by decide +kernel) rfl ⟨Nat.le_of_ble_eq_true rfl, Nat.le_of_ble_eq_true rfl⟩ (o_recv hK hW hal.1 (kC_M _ _ _) rfl) hK hW hB hS hl.1 rfl (lv_room (Nat.le_of_ble_eq_true rfl)) ⟨Nat.zero_le _, Nat.zero_le _⟩ dX10_ends_28) hS (fun r_11 d_10 q_12 H locs hW hS => ?_)
      obtain ⟨rfl, hq⟩ := q_12
      have hI := hI.trans hq
      refine lv_lstore_n (lv' := [(3, .long (sKept S pin (S 19 0))), (0, .ref (ad.1 40 0)), (1, .int (nI pin)), (2, .int (nI dayn))]) hx hb dX10_ends_31 rfl hl (by decide) rfl (fun ls hl => ?_)
      refine lv_lload_n hx hb dX10_ends_32 rfl (lv_at hl 0 rfl) ?_
      refine lv_lconst (v := 0) hx hb dX10_ends_33 (by decide) ?_
      refine W.lcmp hx hb dX10_ends_34 ?_
      refine lv_if_ne (tgt := 40) hx hb dX10_ends_35 (by decide) (fun c_z => ?_) (fun c_z => ?_)
      · have hz : ¬ sKept S pin (S 19 0) = 0 := lg0n c_z
        refine lv_aload_n hx hb dX10_ends_40 rfl (lv_at hl 1 rfl) ?_
        refine mo_ga hx hb hu hown hK hal hW 31 (by decide) uF_X10_83 dX10_ends_41 ?_
        refine n_iconst (v := 0) hx hb dX10_ends_44 (by decide) ?_
        refine n_sipush (v := 200) hx hb dX10_ends_45 (by decide) ?_
        refine mo_st hx hb hK hal hW hS 31 (n := 64) (by decide) (by omega) dX10_ends_48 (fun H locs hW hS => ?_)
        refine lv_aload_n hx hb dX10_ends_49 rfl (lv_at hl 1 rfl) ?_
        refine mo_ga hx hb hu hown hK hal hW 31 (by decide) uF_X10_83 dX10_ends_50 ?_
        refine n_iconst (v := 1) hx hb dX10_ends_53 (by decide) ?_
        refine n_iconst (v := 0) hx hb dX10_ends_54 (by decide) ?_
        refine mo_st hx hb hK hal hW hS 31 (n := 64) (by decide) (by omega) dX10_ends_55 (fun H locs hW hS => ?_)
        refine lv_aload_n hx hb dX10_ends_56 rfl (lv_at hl 1 rfl) ?_
        refine mo_ga hx hb hu hown hK hal hW 31 (by decide) uF_X10_83 dX10_ends_57 ?_
        refine n_iconst (v := 2) hx hb dX10_ends_60 (by decide) ?_
        refine n_sipush (v := 200) hx hb dX10_ends_61 (by decide) ?_
        refine mo_st hx hb hK hal hW hS 31 (n := 64) (by decide) (by omega) dX10_ends_64 (fun H locs hW hS => ?_)
        refine lv_aload_n hx hb dX10_ends_65 rfl (lv_at hl 1 rfl) ?_
        refine mo_ga hx hb hu hown hK hal hW 31 (by decide) uF_X10_83 dX10_ends_66 ?_
        refine n_iconst (v := 3) hx hb dX10_ends_69 (by decide) ?_
        refine n_iconst (v := 0) hx hb dX10_ends_70 (by decide) ?_
        refine mo_st hx hb hK hal hW hS 31 (n := 64) (by decide) (by omega) dX10_ends_71 (fun H locs hW hS => ?_)
        have hEN := EN.start (hI.pub hR).1 (hI.pub hR).2.2 200 0 200 0
        refine n_iconst (v := 0) hx hb dX10_ends_72 (by decide) ?_
        refine lv_istore (lv' := [(5, .int (nI 0)), (3, .long (sKept S pin (S 19 0))), (0, .ref (ad.1 40 0)), (1, .int (nI pin)), (2, .int (nI dayn))]) hx hb dX10_ends_73 hl (by decide) rfl (fun ls hl => ?_)
        have lp75 : ∀ (n : Nat) (k : Nat)  (d : kD) (H : Heap) (locs : List Loc) (ls : Array Slot), 64 - k < n → (k ≤ 64) → (EN S d0 d (enL S pin dayn (sKept S pin (S 19 0)) k).1 (enL S pin dayn (sKept S pin (S 19 0)) k).2.1 (enL S pin dayn (sKept S pin (S 19 0)) k).2.2.1 (enL S pin dayn (sKept S pin (S 19 0)) k).2.2.2) → oW D cA B0 ad d H → va_S (oA B0) s.heap H locs → lv_has ls 6 [(0, .ref (ad.1 40 0)), (1, .int (nI pin)), (2, .int (nI dayn)), (3, .long (sKept S pin (S 19 0))), (5, .int (nI k))] → W p l e (oR 9 0 0) s m ([.ref (ad.1 40 0), .int (nI pin), .int (nI dayn)] : List Value).toArray below meth c H locs 0 0 (MQ below (oQi D cA B0 ad (fun r d1 => r = aEnds S (nI pin) (nI dayn) ∧ PI (nEnds S (nI pin) (nI dayn)) (rEnds S sr (nI pin) (nI dayn)) d0 d1)) ([.ref (ad.1 40 0), .int (nI pin), .int (nI dayn)] : List Value).toArray s 0 0 (oA B0)) (F0 m 75 ls []) := by
          intro n
          induction n with
          | zero => intro k  d H locs ls hmu; exact absurd hmu (Nat.not_lt_zero _)
          | succ n ih_lp75 =>
            intro k  d H locs ls hmu hk hEN hW hS hl
            have hel := enL_le hG (p := pin) (by omega) dayn (sKept S pin (S 19 0)) k
            refine lv_iload hx hb dX10_ends_75 (lv_at hl 4 rfl) ?_
            refine n_bipush (v := 64) hx hb dX10_ends_77 (by decide) ?_
            refine n_icmp_ge (tgt := 192) hx hb (by omega) (by omega) dX10_ends_79 (by decide) (fun c_13 => ?_) (fun c_13 => ?_)
            · have hk64 : k = 64 := by omega
              refine lv_aload_n hx hb dX10_ends_192 rfl (lv_at hl 0 rfl) ?_
              refine n_iconst (v := 4) hx hb dX10_ends_193 (by decide) ?_
              refine mo_pi hx hb hu hown hK hal hW hS 32 (by decide +kernel) uF_X10_123 dX10_ends_194 (fun H locs hW hS => ?_)
              have hP := EN.end (q := (enL S pin dayn (sKept S pin (S 19 0)) k)) hEN
              refine lv_lload_n hx hb dX10_ends_197 rfl (lv_at hl 3 rfl) ?_
              refine o_calli (o_runS (As := [.long (sKept S pin (S 19 0))]) (rest := []) ⟨hx, hb, hml, hown, hu⟩ (c_X10_many l D cA B0 ad hal (uI d 40 0 32 (nI 4)) (sKept S pin (S 19 0))) (gS_X10_217 (fun _ h => h)) (n0 := 1) rfl (by decide +kernel) rfl ⟨Nat.le_of_ble_eq_true rfl, Nat.le_of_ble_eq_true rfl⟩ hK hW hB hS hl.1 rfl (lv_room (Nat.le_of_ble_eq_true rfl)) ⟨Nat.zero_le _, Nat.zero_le _⟩ dX10_ends_198) hS (fun r_15 d_14 q_16 H locs hW hS => ?_)
              obtain ⟨rfl, rfl⟩ := q_16
              have b_17 := popN_le (sKept S pin (S 19 0))
              exact o_iret hx hb hr hlocks hW hS (⟨by simp only [aEnds, ix_nI hpin (by omega), nx_nI (j := pin) (by omega), ix_nI hdayn (by omega), nx_nI (j := dayn) (by omega), hz, eq_self, ↓reduceIte, Bool.false_eq_true], by simp only [nEnds, rEnds, ix_nI hpin (by omega), nx_nI (j := pin) (by omega), ix_nI hdayn (by omega), nx_nI (j := dayn) (by omega), hz, eq_self, ↓reduceIte, Bool.false_eq_true]; unfold enA; rw [← hk64]; exact hP⟩) dX10_ends_201
            · refine lv_lload_n hx hb dX10_ends_82 rfl (lv_at hl 3 rfl) ?_
              refine lv_iload hx hb dX10_ends_83 (lv_at hl 4 rfl) ?_
              refine o_calli (o_runS (As := [.long (sKept S pin (S 19 0)), .int (nI k)]) (rest := []) ⟨hx, hb, hml, hown, hu⟩ (c_X10_has l D cA B0 ad hal d (sKept S pin (S 19 0)) k ) (gS_X10_179 (fun _ h => h)) (n0 := 2) rfl (by decide +kernel) rfl ⟨Nat.le_of_ble_eq_true rfl, Nat.le_of_ble_eq_true rfl⟩ hK hW hB hS hl.1 rfl (lv_room (Nat.le_of_ble_eq_true rfl)) ⟨Nat.zero_le _, Nat.zero_le _⟩ dX10_ends_85) hS (fun r_19 d_18 q_20 H locs hW hS => ?_)
              obtain ⟨rfl, rfl⟩ := q_20
              refine lv_if_ne (tgt := 94) hx hb dX10_ends_88 (by decide) (fun c_h => ?_) (fun c_h => ?_)
              · have hst : enL S pin dayn (sKept S pin (S 19 0)) (k + 1) = (min (enL S pin dayn (sKept S pin (S 19 0)) k).1 (sHole S pin k dayn), max (enL S pin dayn (sKept S pin (S 19 0)) k).2.1 (sHole S pin k dayn), min (enL S pin dayn (sKept S pin (S 19 0)) k).2.2.1 (sEver S pin k dayn), max (enL S pin dayn (sKept S pin (S 19 0)) k).2.2.2 (sEver S pin k dayn)) := by rw [enL, if_pos (bI_n c_h)]
                have hho : sHole S pin k dayn ≤ 200 := (sHE_le hG (by omega) _).1
                have hev : sEver S pin k dayn ≤ 200 := (sHE_le hG (by omega) _).2
                refine lv_aload_n hx hb dX10_ends_94 rfl (lv_at hl 0 rfl) ?_
                refine mo_ga hx hb hu hown hK hal hW 31 (by decide) uF_X10_83 dX10_ends_95 ?_
                refine n_iconst (v := 0) hx hb dX10_ends_98 (by decide) ?_
                refine lv_aload_n hx hb dX10_ends_99 rfl (lv_at hl 0 rfl) ?_
                refine mo_ga hx hb hu hown hK hal hW 31 (by decide) uF_X10_83 dX10_ends_100 ?_
                refine n_iconst (v := 0) hx hb dX10_ends_103 (by decide) ?_
                refine mo_lr hx hb hK hal hW 31 (n := 64) (by decide) (by omega) dX10_ends_104 ?_
                refine n_topi (y := nI ((enL S pin dayn (sKept S pin (S 19 0)) k).1)) (hEN.2.2.1) ?_
                refine lv_aload_n hx hb dX10_ends_105 rfl (lv_at hl 0 rfl) ?_
                refine lv_iload_n hx hb dX10_ends_106 rfl (lv_at hl 1 rfl) ?_
                refine lv_iload hx hb dX10_ends_107 (lv_at hl 4 rfl) ?_
                refine lv_iload_n hx hb dX10_ends_109 rfl (lv_at hl 2 rfl) ?_
                refine o_calli (o_runV (As := [.int (nI pin), .int (nI k), .int (nI dayn)]) (rest := [.int (nI ((enL S pin dayn (sKept S pin (S 19 0)) k).1)), .int (nI 0), .ref (ad.1 81 0)]) ⟨hx, hb, hml, hown, hu⟩ (c_X10_holeOf l D cA B0 ad hal S d hEN.1 pin k dayn (by omega) (by omega) (by omega)) (gV_X10_165 (fun _ h => h)) (n0 := 3) rfl (by decide +kernel) rfl ⟨Nat.le_of_ble_eq_true rfl, Nat.le_of_ble_eq_true rfl⟩ (o_recv hK hW hal.1 (kC_M _ _ _) rfl) hK hW hB hS hl.1 rfl (lv_room (Nat.le_of_ble_eq_true rfl)) ⟨Nat.zero_le _, Nat.zero_le _⟩ dX10_ends_110) hS (fun r_22 d_21 q_23 H locs hW hS => ?_)
                obtain ⟨rfl, hq⟩ := q_23
                have hEN := hEN.mi hq
                refine va_mmin hx hb (hml.trans hl.1.symm) hown (hu _ uM_X10_133) (hu _ uT_J9_min_7cf53) (hu _ uI_J9) (hu _ uC_J9_min_7cf53) (Nat.le_of_ble_eq_true rfl) (Nat.le_of_ble_eq_true rfl) (Nat.le_of_ble_eq_true rfl) (Nat.le_of_ble_eq_true rfl) dX10_ends_113 ?_
                refine n_topi (y := nI (min ((enL S pin dayn (sKept S pin (S 19 0)) k).1) (sHole S pin k dayn))) (n_min (by omega) (by omega)) ?_
                refine mo_st hx hb hK hal hW hS 31 (n := 64) (by decide) (by omega) dX10_ends_116 (fun H locs hW hS => ?_)
                have hEN := hEN.p0 (min ((enL S pin dayn (sKept S pin (S 19 0)) k).1) (sHole S pin k dayn))
                refine lv_aload_n hx hb dX10_ends_117 rfl (lv_at hl 0 rfl) ?_
                refine mo_ga hx hb hu hown hK hal hW 31 (by decide) uF_X10_83 dX10_ends_118 ?_
                refine n_iconst (v := 1) hx hb dX10_ends_121 (by decide) ?_
                refine lv_aload_n hx hb dX10_ends_122 rfl (lv_at hl 0 rfl) ?_
                refine mo_ga hx hb hu hown hK hal hW 31 (by decide) uF_X10_83 dX10_ends_123 ?_
                refine n_iconst (v := 1) hx hb dX10_ends_126 (by decide) ?_
                refine mo_lr hx hb hK hal hW 31 (n := 64) (by decide) (by omega) dX10_ends_127 ?_
                refine n_topi (y := nI ((enL S pin dayn (sKept S pin (S 19 0)) k).2.1)) (hEN.2.2.2.1) ?_
                refine lv_aload_n hx hb dX10_ends_128 rfl (lv_at hl 0 rfl) ?_
                refine lv_iload_n hx hb dX10_ends_129 rfl (lv_at hl 1 rfl) ?_
                refine lv_iload hx hb dX10_ends_130 (lv_at hl 4 rfl) ?_
                refine lv_iload_n hx hb dX10_ends_132 rfl (lv_at hl 2 rfl) ?_
                refine o_calli (o_runV (As := [.int (nI pin), .int (nI k), .int (nI dayn)]) (rest := [.int (nI ((enL S pin dayn (sKept S pin (S 19 0)) k).2.1)), .int (nI 1), .ref (ad.1 81 0)]) ⟨hx, hb, hml, hown, hu⟩ (c_X10_holeOf l D cA B0 ad hal S (uI d_21 (50 + 31) 0 0 (nI (min ((enL S pin dayn (sKept S pin (S 19 0)) k).1) (sHole S pin k dayn)))) hEN.1 pin k dayn (by omega) (by omega) (by omega)) (gV_X10_165 (fun _ h => h)) (n0 := 3) rfl (by decide +kernel) rfl ⟨Nat.le_of_ble_eq_true rfl, Nat.le_of_ble_eq_true rfl⟩ (o_recv hK hW hal.1 (kC_M _ _ _) rfl) hK hW hB hS hl.1 rfl (lv_room (Nat.le_of_ble_eq_true rfl)) ⟨Nat.zero_le _, Nat.zero_le _⟩ dX10_ends_133) hS (fun r_25 d_24 q_26 H locs hW hS => ?_)
                obtain ⟨rfl, hq⟩ := q_26
                have hEN := hEN.mi hq
                refine va_mmax hx hb (hml.trans hl.1.symm) hown (hu _ uM_X10_139) (hu _ uT_J9_max_7cf53) (hu _ uI_J9) (hu _ uC_J9_max_7cf53) (Nat.le_of_ble_eq_true rfl) (Nat.le_of_ble_eq_true rfl) (Nat.le_of_ble_eq_true rfl) (Nat.le_of_ble_eq_true rfl) dX10_ends_136 ?_
                refine n_topi (y := nI (max ((enL S pin dayn (sKept S pin (S 19 0)) k).2.1) (sHole S pin k dayn))) (n_max (by omega) (by omega)) ?_
                refine mo_st hx hb hK hal hW hS 31 (n := 64) (by decide) (by omega) dX10_ends_139 (fun H locs hW hS => ?_)
                have hEN := hEN.p1 (max ((enL S pin dayn (sKept S pin (S 19 0)) k).2.1) (sHole S pin k dayn))
                refine lv_aload_n hx hb dX10_ends_140 rfl (lv_at hl 0 rfl) ?_
                refine mo_ga hx hb hu hown hK hal hW 31 (by decide) uF_X10_83 dX10_ends_141 ?_
                refine n_iconst (v := 2) hx hb dX10_ends_144 (by decide) ?_
                refine lv_aload_n hx hb dX10_ends_145 rfl (lv_at hl 0 rfl) ?_
                refine mo_ga hx hb hu hown hK hal hW 31 (by decide) uF_X10_83 dX10_ends_146 ?_
                refine n_iconst (v := 2) hx hb dX10_ends_149 (by decide) ?_
                refine mo_lr hx hb hK hal hW 31 (n := 64) (by decide) (by omega) dX10_ends_150 ?_
                refine n_topi (y := nI ((enL S pin dayn (sKept S pin (S 19 0)) k).2.2.1)) (hEN.2.2.2.2.1) ?_
                refine lv_aload_n hx hb dX10_ends_151 rfl (lv_at hl 0 rfl) ?_
                refine lv_iload_n hx hb dX10_ends_152 rfl (lv_at hl 1 rfl) ?_
                refine lv_iload hx hb dX10_ends_153 (lv_at hl 4 rfl) ?_
                refine lv_iload_n hx hb dX10_ends_155 rfl (lv_at hl 2 rfl) ?_
                refine o_calli (o_runV (As := [.int (nI pin), .int (nI k), .int (nI dayn)]) (rest := [.int (nI ((enL S pin dayn (sKept S pin (S 19 0)) k).2.2.1)), .int (nI 2), .ref (ad.1 81 0)]) ⟨hx, hb, hml, hown, hu⟩ (c_X10_everOf l D cA B0 ad hal S (uI d_24 (50 + 31) 0 1 (nI (max ((enL S pin dayn (sKept S pin (S 19 0)) k).2.1) (sHole S pin k dayn)))) hEN.1 pin k dayn (by omega) (by omega) (by omega)) (gV_X10_159 (fun _ h => h)) (n0 := 3) rfl (by decide +kernel) rfl ⟨Nat.le_of_ble_eq_true rfl, Nat.le_of_ble_eq_true rfl⟩ (o_recv hK hW hal.1 (kC_M _ _ _) rfl) hK hW hB hS hl.1 rfl (lv_room (Nat.le_of_ble_eq_true rfl)) ⟨Nat.zero_le _, Nat.zero_le _⟩ dX10_ends_156) hS (fun r_28 d_27 q_29 H locs hW hS => ?_)
                obtain ⟨rfl, hq⟩ := q_29
                have hEN := hEN.mi hq
                refine va_mmin hx hb (hml.trans hl.1.symm) hown (hu _ uM_X10_133) (hu _ uT_J9_min_7cf53) (hu _ uI_J9) (hu _ uC_J9_min_7cf53) (Nat.le_of_ble_eq_true rfl) (Nat.le_of_ble_eq_true rfl) (Nat.le_of_ble_eq_true rfl) (Nat.le_of_ble_eq_true rfl) dX10_ends_159 ?_
                refine n_topi (y := nI (min ((enL S pin dayn (sKept S pin (S 19 0)) k).2.2.1) (sEver S pin k dayn))) (n_min (by omega) (by omega)) ?_
                refine mo_st hx hb hK hal hW hS 31 (n := 64) (by decide) (by omega) dX10_ends_162 (fun H locs hW hS => ?_)
                have hEN := hEN.p2 (min ((enL S pin dayn (sKept S pin (S 19 0)) k).2.2.1) (sEver S pin k dayn))
                refine lv_aload_n hx hb dX10_ends_163 rfl (lv_at hl 0 rfl) ?_
                refine mo_ga hx hb hu hown hK hal hW 31 (by decide) uF_X10_83 dX10_ends_164 ?_
                refine n_iconst (v := 3) hx hb dX10_ends_167 (by decide) ?_
                refine lv_aload_n hx hb dX10_ends_168 rfl (lv_at hl 0 rfl) ?_
                refine mo_ga hx hb hu hown hK hal hW 31 (by decide) uF_X10_83 dX10_ends_169 ?_
                refine n_iconst (v := 3) hx hb dX10_ends_172 (by decide) ?_
                refine mo_lr hx hb hK hal hW 31 (n := 64) (by decide) (by omega) dX10_ends_173 ?_
                refine n_topi (y := nI ((enL S pin dayn (sKept S pin (S 19 0)) k).2.2.2)) (hEN.2.2.2.2.2) ?_
                refine lv_aload_n hx hb dX10_ends_174 rfl (lv_at hl 0 rfl) ?_
                refine lv_iload_n hx hb dX10_ends_175 rfl (lv_at hl 1 rfl) ?_
                refine lv_iload hx hb dX10_ends_176 (lv_at hl 4 rfl) ?_
                refine lv_iload_n hx hb dX10_ends_178 rfl (lv_at hl 2 rfl) ?_
                refine o_calli (o_runV (As := [.int (nI pin), .int (nI k), .int (nI dayn)]) (rest := [.int (nI ((enL S pin dayn (sKept S pin (S 19 0)) k).2.2.2)), .int (nI 3), .ref (ad.1 81 0)]) ⟨hx, hb, hml, hown, hu⟩ (c_X10_everOf l D cA B0 ad hal S (uI d_27 (50 + 31) 0 2 (nI (min ((enL S pin dayn (sKept S pin (S 19 0)) k).2.2.1) (sEver S pin k dayn)))) hEN.1 pin k dayn (by omega) (by omega) (by omega)) (gV_X10_159 (fun _ h => h)) (n0 := 3) rfl (by decide +kernel) rfl ⟨Nat.le_of_ble_eq_true rfl, Nat.le_of_ble_eq_true rfl⟩ (o_recv hK hW hal.1 (kC_M _ _ _) rfl) hK hW hB hS hl.1 rfl (lv_room (Nat.le_of_ble_eq_true rfl)) ⟨Nat.zero_le _, Nat.zero_le _⟩ dX10_ends_179) hS (fun r_31 d_30 q_32 H locs hW hS => ?_)
                obtain ⟨rfl, hq⟩ := q_32
                have hEN := hEN.mi hq
                refine va_mmax hx hb (hml.trans hl.1.symm) hown (hu _ uM_X10_139) (hu _ uT_J9_max_7cf53) (hu _ uI_J9) (hu _ uC_J9_max_7cf53) (Nat.le_of_ble_eq_true rfl) (Nat.le_of_ble_eq_true rfl) (Nat.le_of_ble_eq_true rfl) (Nat.le_of_ble_eq_true rfl) dX10_ends_182 ?_
                refine n_topi (y := nI (max ((enL S pin dayn (sKept S pin (S 19 0)) k).2.2.2) (sEver S pin k dayn))) (n_max (by omega) (by omega)) ?_
                refine mo_st hx hb hK hal hW hS 31 (n := 64) (by decide) (by omega) dX10_ends_185 (fun H locs hW hS => ?_)
                have hEN := hEN.p3 (max ((enL S pin dayn (sKept S pin (S 19 0)) k).2.2.2) (sEver S pin k dayn))
                refine n_iinc (q := 1) (lv' := [(5, .int (nI (k + 1))), (0, .ref (ad.1 40 0)), (1, .int (nI pin)), (2, .int (nI dayn)), (3, .long (sKept S pin (S 19 0)))]) hx hb dX10_ends_186 hl (k := 4) rfl (by decide) (by decide) rfl (fun ls hl => ?_)
                refine lv_goto (tgt := 75) hx hb dX10_ends_189 (by decide) ?_
                exact ih_lp75 (k + 1) (uI d_30 (50 + 31) 0 3 (nI (max ((enL S pin dayn (sKept S pin (S 19 0)) k).2.2.2) (sEver S pin k dayn)))) _ _ ls (by omega) (by omega) (by rw [hst]; exact hEN) hW hS (lv_sub hl [1, 2, 3, 4, 0] rfl)
              · have hst : enL S pin dayn (sKept S pin (S 19 0)) (k + 1) = (enL S pin dayn (sKept S pin (S 19 0)) k) := by rw [enL, if_neg (by rw [bI_z c_h]; decide)]
                refine lv_goto (tgt := 186) hx hb dX10_ends_91 (by decide) ?_
                refine n_iinc (q := 1) (lv' := [(5, .int (nI (k + 1))), (0, .ref (ad.1 40 0)), (1, .int (nI pin)), (2, .int (nI dayn)), (3, .long (sKept S pin (S 19 0)))]) hx hb dX10_ends_186 hl (k := 4) rfl (by decide) (by decide) rfl (fun ls hl => ?_)
                refine lv_goto (tgt := 75) hx hb dX10_ends_189 (by decide) ?_
                exact ih_lp75 (k + 1) d _ _ ls (by omega) (by omega) (by rw [hst]; exact hEN) hW hS (lv_sub hl [1, 2, 3, 4, 0] rfl)
        exact lp75 (65) 0 (uI (uI (uI (uI d_10 (50 + 31) 0 0 (nI 200)) (50 + 31) 0 1 (nI 0)) (50 + 31) 0 2 (nI 200)) (50 + 31) 0 3 (nI 0)) _ _ ls (by omega) (by omega) hEN hW hS (lv_sub hl [2, 3, 4, 1, 0] rfl)
      · have hz : sKept S pin (S 19 0) = 0 := lg0 c_z
        refine lv_iconst (v := -1) hx hb dX10_ends_38 (by decide) ?_
        exact o_iret hx hb hr hlocks hW hS (⟨by simp only [aEnds, ix_nI hpin (by omega), nx_nI (j := pin) (by omega), ix_nI hdayn (by omega), nx_nI (j := dayn) (by omega), hz, eq_self, ↓reduceIte, Bool.false_eq_true], by simp only [nEnds, rEnds, ix_nI hpin (by omega), nx_nI (j := pin) (by omega), ix_nI hdayn (by omega), nx_nI (j := dayn) (by omega), hz, eq_self, ↓reduceIte, Bool.false_eq_true]; exact hI.pub hR⟩) dX10_ends_39
    · refine lv_iconst (v := -1) hx hb dX10_ends_20 (by decide) ?_
      exact o_iret hx hb hr hlocks hW hS (⟨by simp only [aEnds, ix_nI hpin (by omega), nx_nI (j := pin) (by omega), bI_z c_8, eq_self, ↓reduceIte, Bool.false_eq_true], by simp only [nEnds, rEnds, ix_nI hpin (by omega), nx_nI (j := pin) (by omega), bI_z c_8, eq_self, ↓reduceIte, Bool.false_eq_true]; exact hI.pub hR⟩) dX10_ends_21
