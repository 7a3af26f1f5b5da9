set_option maxHeartbeats 400000 in
set_option maxRecDepth 100000 in
theorem c_X10_check (l : Launch) (D : va_G) (cA : Nat → ClassId) (B0 : Nat) (ad : kA) (hal : mAl ad) (S0 : sS) (sr : Nat → Int32) (d0 : kD) (hM0 : InvM S0 d0) (hR0 : RowM S0 sr d0) (pi : Int32) : oM l yX10_check wX10_check 8 0 0 D cA B0 ad d0 ([.ref (ad.1 40 0), .int pi] : List Value) (oQi D cA B0 ad (fun r d1 => r = aCheck S0 pi ∧ PI (upS S0 22 0 0) sr d0 d1)) := by
  refine o_ofW (cc := cX10_check) (maxL := 8) (ret := some .int) (by decide) rfl (Nat.le_of_ble_eq_true rfl) ?_
  intro p e s m below meth c hx hb hr hml hts hown hlocks hnm hK hW hB hS ls hl
  have hu : ∀ w ∈ UW, w.before _ s = true := fun w h => hts w (uw_c w h)
  have hl : lv_has ls 8 [(0, .ref (ad.1 40 0)), (1, .int pi)] := hl
  refine lv_aload_n hx hb dX10_check_0 rfl (lv_at hl 0 rfl) ?_
  refine n_iconst (v := 0) hx hb dX10_check_1 (by decide) ?_
  refine mo_pi hx hb hu hown hK hal hW hS 33 (by decide +kernel) uF_X10_113 dX10_check_2 (fun H locs hW hS => ?_)
  refine lv_aload_n hx hb dX10_check_5 rfl (lv_at hl 0 rfl) ?_
  refine mo_gr hx hb hu hown hK hal hW 22 (by decide) uF_X10_272 dX10_check_6 ?_
  refine n_topi (y := nI (S0 22 0)) ((hM0.thr 33 (nI 0) rfl).1.2 22 rfl) ?_
  refine lv_istore_n (lv' := [(2, .int (nI (S0 22 0))), (0, .ref (ad.1 40 0)), (1, .int pi)]) hx hb dX10_check_9 rfl hl (by decide) rfl (fun ls hl => ?_)
  refine lv_aload_n hx hb dX10_check_10 rfl (lv_at hl 1 rfl) ?_
  refine n_iconst (v := 0) hx hb dX10_check_11 (by decide) ?_
  refine mo_pi hx hb hu hown hK hal hW hS 22 (by decide +kernel) uF_X10_272 dX10_check_12 (fun H locs hW hS => ?_)
  have hM1 := (hM0.thr 33 (nI 0) rfl).st22 (v := 0) (by omega)
  obtain ⟨S, hSe⟩ : ∃ S, S = upS S0 22 0 0 := ⟨_, rfl⟩
  rw [← hSe] at hM1
  have hI : MI S (uI (uI d0 40 0 33 (nI 0)) 40 0 22 (nI 0)) (uI (uI d0 40 0 33 (nI 0)) 40 0 22 (nI 0)) := MI.start hM1
  have hG : sG S := hM1.2.1
  have hn64 : S0 22 0 ≤ 64 := hM0.2.1.f 22 (mx := 64) (by decide)
  have h7e : S0 7 0 = S 7 0 := by rw [hSe]; rfl
  have hb7 : S 7 0 ≤ 8 := hG.f 7 (mx := 8) (by decide)
  have hb18 : S 18 0 ≤ 40 := hG.f 18 (mx := 40) (by decide)
  have hb19 : S 19 0 ≤ 399 := hG.f 19 (mx := 399) (by decide)
  refine lv_aload_n hx hb dX10_check_15 rfl (lv_at hl 1 rfl) ?_
  refine lv_iload_n hx hb dX10_check_16 rfl (lv_at hl 2 rfl) ?_
  refine o_calli (o_runV (As := [.int pi]) (rest := []) ⟨hx, hb, hml, hown, hu⟩ (c_X10_isPier l D cA B0 ad hal S (uI (uI d0 40 0 33 (nI 0)) 40 0 22 (nI 0)) hI.dS hG pi ) (gV_X10_145 (fun _ h => h)) (n0 := 1) rfl (by decide +kernel) rfl ⟨Nat.le_of_ble_eq_true rfl, Nat.le_of_ble_eq_true rfl⟩ (o_recv hK hW hal.1 (kC_M _ _ _) rfl) hK hW hB hS hl.1 rfl (lv_room (Nat.le_of_ble_eq_true rfl)) ⟨Nat.zero_le _, Nat.zero_le _⟩ dX10_check_17) hS (fun r_2 d_1 q_3 H locs hW hS => ?_)
  obtain ⟨rfl, rfl⟩ := q_3
  refine lv_if_ne (tgt := 26) hx hb dX10_check_20 (by decide) (fun c_4 => ?_) (fun c_4 => ?_)
  · obtain ⟨pin, hpin, rfl⟩ := ix_t (bI_n c_4) (by omega)
    refine lv_lconst (v := 0) hx hb dX10_check_26 (by decide) ?_
    refine lv_lstore_n (lv' := [(3, .long 0), (2, .int (nI (S0 22 0))), (0, .ref (ad.1 40 0)), (1, .int (nI pin))]) hx hb dX10_check_27 rfl hl (by decide) rfl (fun ls hl => ?_)
    refine n_iconst (v := 0) hx hb dX10_check_28 (by decide) ?_
    refine lv_istore (lv' := [(5, .int (nI 0)), (3, .long 0), (2, .int (nI (S0 22 0))), (0, .ref (ad.1 40 0)), (1, .int (nI pin))]) hx hb dX10_check_29 hl (by decide) rfl (fun ls hl => ?_)
    have lp31 : ∀ (n : Nat) (st0 : Int64) (i1 : Nat)  (d : kD) (H : Heap) (locs : List Loc) (ls : Array Slot), S0 22 0 - i1 < n → (i1 ≤ S0 22 0) → (MI S (uI (uI d0 40 0 33 (nI 0)) 40 0 22 (nI 0)) d) → (ckL S pin (S0 22 0) 0 0 = ckL S pin (S0 22 0 - i1) i1 st0) → oW D cA B0 ad d H → va_S (oA B0) s.heap H locs → lv_has ls 8 [(0, .ref (ad.1 40 0)), (1, .int (nI pin)), (2, .int (nI (S0 22 0))), (3, .long st0), (5, .int (nI i1))] → W p l e (oR 8 0 0) s m ([.ref (ad.1 40 0), .int (nI pin)] : List Value).toArray below meth c H locs 0 0 (MQ below (oQi D cA B0 ad (fun r d1 => r = aCheck S0 (nI pin) ∧ PI (upS S0 22 0 0) sr d0 d1)) ([.ref (ad.1 40 0), .int (nI pin)] : List Value).toArray s 0 0 (oA B0)) (F0 m 31 ls []) := by
      intro n
      induction n with
      | zero => intro st0 i1  d H locs ls hmu; exact absurd hmu (Nat.not_lt_zero _)
      | succ n ih_lp31 =>
        intro st0 i1  d H locs ls hmu hi1 hI hck hW hS hl
        refine lv_iload hx hb dX10_check_31 (lv_at hl 4 rfl) ?_
        refine lv_iload_n hx hb dX10_check_33 rfl (lv_at hl 2 rfl) ?_
        refine n_icmp_ge (tgt := 126) hx hb (by omega) (by omega) dX10_check_34 (by decide) (fun c_5 => ?_) (fun c_5 => ?_)
        · refine lv_lload_n hx hb dX10_check_126 rfl (lv_at hl 3 rfl) ?_
          refine lv_aload_n hx hb dX10_check_127 rfl (lv_at hl 0 rfl) ?_
          refine lv_iload_n hx hb dX10_check_128 rfl (lv_at hl 1 rfl) ?_
          refine lv_aload_n hx hb dX10_check_129 rfl (lv_at hl 0 rfl) ?_
          refine mo_gi hx hb hu hown hK hal hW hI.dS 19 (by decide) uF_X10_55 dX10_check_130 ?_
          have b_6 : S 19 0 ≤ 399 := hG.f 19 (mx := 399) (by decide)
          refine lv_iconst (v := -1) hx hb dX10_check_133 (by decide) ?_
          refine o_calll (o_runV (As := [.int (nI pin), .int (nI (S 19 0)), .int (-1)]) (rest := [.long st0]) ⟨hx, hb, hml, hown, hu⟩ (c_X10_free l D cA B0 ad hal S d hI.1 pin (S 19 0) (-1) (by omega) (by omega)) (gV_X10_192 (fun _ h => h)) (n0 := 3) rfl (by decide +kernel) rfl ⟨Nat.le_of_ble_eq_true rfl, Nat.le_of_ble_eq_true rfl⟩ (o_recv hK hW hal.1 (kC_M _ _ _) rfl) hK hW hB hS hl.1 rfl (lv_room (Nat.le_of_ble_eq_true rfl)) ⟨Nat.zero_le _, Nat.zero_le _⟩ dX10_check_134) hS (fun r_8 d_7 q_9 H locs hW hS => ?_)
          obtain ⟨rfl, hq⟩ := q_9
          have hI := hI.trans hq
          refine lv_ldc2 (v := (-1)) hx hb hown (hu _ uK_X10_183) dX10_check_137 ?_
          refine lv_lxor hx hb dX10_check_140 ?_
          refine W.lcmp hx hb dX10_check_141 ?_
          refine lv_if_ne (tgt := 149) hx hb dX10_check_142 (by decide) (fun c_f => ?_) (fun c_f => ?_)
          · refine n_iconst (v := 1) hx hb dX10_check_149 (by decide) ?_
            exact o_iret hx hb hr hlocks hW hS (⟨by simp only [aCheck, h7e, ← hSe, ix_nI hpin (by omega), nx_nI (j := pin) (by omega), eq_self, ↓reduceIte, Bool.false_eq_true]; rw [hck, show S0 22 0 - i1 = 0 by omega, ckL]; first | (rw [if_pos (lgc c_f)]; done) | (rw [if_neg (lgcn c_f)]; done), chk_pi hSe hR0 hI⟩) dX10_check_150
          · refine n_iconst (v := 0) hx hb dX10_check_145 (by decide) ?_
            refine lv_goto (tgt := 150) hx hb dX10_check_146 (by decide) ?_
            exact o_iret hx hb hr hlocks hW hS (⟨by simp only [aCheck, h7e, ← hSe, ix_nI hpin (by omega), nx_nI (j := pin) (by omega), eq_self, ↓reduceIte, Bool.false_eq_true]; rw [hck, show S0 22 0 - i1 = 0 by omega, ckL]; first | (rw [if_pos (lgc c_f)]; done) | (rw [if_neg (lgcn c_f)]; done), chk_pi hSe hR0 hI⟩) dX10_check_150
        · refine lv_aload_n hx hb dX10_check_37 rfl (lv_at hl 0 rfl) ?_
          refine mo_ga hx hb hu hown hK hal hW 20 (by decide) uF_X10_59 dX10_check_38 ?_
          refine lv_iload hx hb dX10_check_41 (lv_at hl 4 rfl) ?_
          refine mo_ld hx hb hK hal hW hI.dS 20 (n := 64) (by decide) (by omega) dX10_check_43 ?_
          have b_10 : S 20 i1 ≤ 63 := hG.a 20 i1 (n := 64) (mx := 63) (by decide) (by omega)
          refine lv_istore (lv' := [(6, .int (nI (S 20 i1))), (0, .ref (ad.1 40 0)), (1, .int (nI pin)), (2, .int (nI (S0 22 0))), (3, .long st0), (5, .int (nI i1))]) hx hb dX10_check_44 hl (by decide) rfl (fun ls hl => ?_)
          refine lv_aload_n hx hb dX10_check_46 rfl (lv_at hl 1 rfl) ?_
          refine mo_ga hx hb hu hown hK hal hW 21 (by decide) uF_X10_62 dX10_check_47 ?_
          refine lv_iload hx hb dX10_check_50 (lv_at hl 5 rfl) ?_
          refine mo_ld hx hb hK hal hW hI.dS 21 (n := 64) (by decide) (by omega) dX10_check_52 ?_
          have b_11 : S 21 i1 ≤ 39 := hG.a 21 i1 (n := 64) (mx := 39) (by decide) (by omega)
          refine lv_istore (lv' := [(7, .int (nI (S 21 i1))), (6, .int (nI (S 20 i1))), (0, .ref (ad.1 40 0)), (1, .int (nI pin)), (2, .int (nI (S0 22 0))), (3, .long st0), (5, .int (nI i1))]) hx hb dX10_check_53 hl (by decide) rfl (fun ls hl => ?_)
          refine lv_aload_n hx hb dX10_check_55 rfl (lv_at hl 2 rfl) ?_
          refine lv_iload hx hb dX10_check_56 (lv_at hl 0 rfl) ?_
          refine o_calli (o_runV (As := [.int (nI (S 21 i1))]) (rest := []) ⟨hx, hb, hml, hown, hu⟩ (c_X10_isLook l D cA B0 ad hal S d hI.dS hG (nI (S 21 i1)) ) (gV_X10_214 (fun _ h => h)) (n0 := 1) rfl (by decide +kernel) rfl ⟨Nat.le_of_ble_eq_true rfl, Nat.le_of_ble_eq_true rfl⟩ (o_recv hK hW hal.1 (kC_M _ _ _) rfl) hK hW hB hS hl.1 rfl (lv_room (Nat.le_of_ble_eq_true rfl)) ⟨Nat.zero_le _, Nat.zero_le _⟩ dX10_check_58) hS (fun r_13 d_12 q_14 H locs hW hS => ?_)
          obtain ⟨rfl, rfl⟩ := q_14
          refine lv_if_eq (tgt := 108) hx hb dX10_check_61 (by decide) (fun c_l => ?_) (fun c_l => ?_)
          · have hno : ckO S pin i1 st0 = false := decide_eq_false (fun q => by have z := bI_z c_l; rw [ix_nI q.1 (by omega)] at z; cases z)
            refine lv_iconst (v := -1) hx hb dX10_check_108 (by decide) ?_
            refine lv_iload hx hb dX10_check_109 (lv_at hl 6 rfl) ?_
            refine lv_isub hx hb dX10_check_111 ?_
            exact o_iret hx hb hr hlocks hW hS (⟨by simp only [aCheck, h7e, ← hSe, ix_nI hpin (by omega), nx_nI (j := pin) (by omega), eq_self, ↓reduceIte, Bool.false_eq_true]; rw [hck, show S0 22 0 - i1 = (S0 22 0 - (i1 + 1)) + 1 by omega, ckL, if_neg (by rw [hno]; decide)], chk_pi hSe hR0 hI⟩) dX10_check_112
          · have hlk : S 21 i1 < S 18 0 := ix_lt (bI_n c_l) (by omega)
            refine lv_aload_n hx hb dX10_check_64 rfl (lv_at hl 2 rfl) ?_
            refine mo_ga hx hb hu hown hK hal hW 12 (by decide) uF_X10_37 dX10_check_65 ?_
            refine lv_iload hx hb dX10_check_68 (lv_at hl 0 rfl) ?_
            refine mo_ld hx hb hK hal hW hI.dS 12 (n := 40) (by decide) (by omega) dX10_check_70 ?_
            have b_15 : S 12 (S 21 i1) ≤ 7 := hG.a 12 (S 21 i1) (n := 40) (mx := 7) (by decide) (by omega)
            refine lv_iload_n hx hb dX10_check_71 rfl (lv_at hl 3 rfl) ?_
            refine n_icmp_ne (tgt := 108) hx hb (by omega) (by omega) dX10_check_72 (by decide) (fun c_a => ?_) (fun c_a => ?_)
            · have hno : ckO S pin i1 st0 = false := decide_eq_false (fun q => c_a q.2.1)
              refine lv_iconst (v := -1) hx hb dX10_check_108 (by decide) ?_
              refine lv_iload hx hb dX10_check_109 (lv_at hl 6 rfl) ?_
              refine lv_isub hx hb dX10_check_111 ?_
              exact o_iret hx hb hr hlocks hW hS (⟨by simp only [aCheck, h7e, ← hSe, ix_nI hpin (by omega), nx_nI (j := pin) (by omega), eq_self, ↓reduceIte, Bool.false_eq_true]; rw [hck, show S0 22 0 - i1 = (S0 22 0 - (i1 + 1)) + 1 by omega, ckL, if_neg (by rw [hno]; decide)], chk_pi hSe hR0 hI⟩) dX10_check_112
            · refine lv_aload_n hx hb dX10_check_75 rfl (lv_at hl 2 rfl) ?_
              refine lv_iload hx hb dX10_check_76 (lv_at hl 0 rfl) ?_
              refine lv_aload_n hx hb dX10_check_78 rfl (lv_at hl 2 rfl) ?_
              refine mo_gi hx hb hu hown hK hal hW hI.dS 19 (by decide) uF_X10_55 dX10_check_79 ?_
              have b_16 : S 19 0 ≤ 399 := hG.f 19 (mx := 399) (by decide)
              refine o_calli (o_runV (As := [.int (nI (S 21 i1)), .int (nI (S 19 0))]) (rest := []) ⟨hx, hb, hml, hown, hu⟩ (c_X10_isKnown l D cA B0 ad hal S d hI.dS hG (S 21 i1) (S 19 0) (by omega) (by omega)) (gV_X10_188 (fun _ h => h)) (n0 := 2) rfl (by decide +kernel) rfl ⟨Nat.le_of_ble_eq_true rfl, Nat.le_of_ble_eq_true rfl⟩ (o_recv hK hW hal.1 (kC_M _ _ _) rfl) hK hW hB hS hl.1 rfl (lv_room (Nat.le_of_ble_eq_true rfl)) ⟨Nat.zero_le _, Nat.zero_le _⟩ dX10_check_82) hS (fun r_18 d_17 q_19 H locs hW hS => ?_)
              obtain ⟨rfl, rfl⟩ := q_19
              refine lv_if_eq (tgt := 108) hx hb dX10_check_85 (by decide) (fun c_b => ?_) (fun c_b => ?_)
              · have hno : ckO S pin i1 st0 = false := decide_eq_false (fun q => by have z := bI_z c_b; rw [q.2.2.1] at z; cases z)
                refine lv_iconst (v := -1) hx hb dX10_check_108 (by decide) ?_
                refine lv_iload hx hb dX10_check_109 (lv_at hl 6 rfl) ?_
                refine lv_isub hx hb dX10_check_111 ?_
                exact o_iret hx hb hr hlocks hW hS (⟨by simp only [aCheck, h7e, ← hSe, ix_nI hpin (by omega), nx_nI (j := pin) (by omega), eq_self, ↓reduceIte, Bool.false_eq_true]; rw [hck, show S0 22 0 - i1 = (S0 22 0 - (i1 + 1)) + 1 by omega, ckL, if_neg (by rw [hno]; decide)], chk_pi hSe hR0 hI⟩) dX10_check_112
              · refine lv_aload_n hx hb dX10_check_88 rfl (lv_at hl 2 rfl) ?_
                refine lv_iload hx hb dX10_check_89 (lv_at hl 0 rfl) ?_
                refine lv_iload hx hb dX10_check_91 (lv_at hl 1 rfl) ?_
                refine o_calli (o_runV (As := [.int (nI (S 21 i1)), .int (nI (S 20 i1))]) (rest := []) ⟨hx, hb, hml, hown, hu⟩ (c_X10_bars l D cA B0 ad hal S d hI.1 (S 21 i1) (S 20 i1) hlk) (gV_X10_220 (fun _ h => h)) (n0 := 2) rfl (by decide +kernel) rfl ⟨Nat.le_of_ble_eq_true rfl, Nat.le_of_ble_eq_true rfl⟩ (o_recv hK hW hal.1 (kC_M _ _ _) rfl) hK hW hB hS hl.1 rfl (lv_room (Nat.le_of_ble_eq_true rfl)) ⟨Nat.zero_le _, Nat.zero_le _⟩ dX10_check_93) hS (fun r_21 d_20 q_22 H locs hW hS => ?_)
                obtain ⟨rfl, hq⟩ := q_22
                have hI := hI.trans hq
                refine lv_if_eq (tgt := 108) hx hb dX10_check_96 (by decide) (fun c_c => ?_) (fun c_c => ?_)
                · have hno : ckO S pin i1 st0 = false := decide_eq_false (fun q => by have z := bI_z c_c; rw [q.2.2.2.1] at z; cases z)
                  refine lv_iconst (v := -1) hx hb dX10_check_108 (by decide) ?_
                  refine lv_iload hx hb dX10_check_109 (lv_at hl 6 rfl) ?_
                  refine lv_isub hx hb dX10_check_111 ?_
                  exact o_iret hx hb hr hlocks hW hS (⟨by simp only [aCheck, h7e, ← hSe, ix_nI hpin (by omega), nx_nI (j := pin) (by omega), eq_self, ↓reduceIte, Bool.false_eq_true]; rw [hck, show S0 22 0 - i1 = (S0 22 0 - (i1 + 1)) + 1 by omega, ckL, if_neg (by rw [hno]; decide)], chk_pi hSe hR0 hI⟩) dX10_check_112
                · refine lv_lload_n hx hb dX10_check_99 rfl (lv_at hl 5 rfl) ?_
                  refine lv_iload hx hb dX10_check_100 (lv_at hl 1 rfl) ?_
                  refine o_calli (o_runS (As := [.long st0, .int (nI (S 20 i1))]) (rest := []) ⟨hx, hb, hml, hown, hu⟩ (c_X10_has l D cA B0 ad hal d_20 st0 (S 20 i1) ) (gS_X10_179 (fun _ h => h)) (n0 := 2) rfl (by decide +kernel) rfl ⟨Nat.le_of_ble_eq_true rfl, Nat.le_of_ble_eq_true rfl⟩ hK hW hB hS hl.1 rfl (lv_room (Nat.le_of_ble_eq_true rfl)) ⟨Nat.zero_le _, Nat.zero_le _⟩ dX10_check_102) hS (fun r_24 d_23 q_25 H locs hW hS => ?_)
                  obtain ⟨rfl, rfl⟩ := q_25
                  refine lv_if_eq (tgt := 113) hx hb dX10_check_105 (by decide) (fun c_e => ?_) (fun c_e => ?_)
                  · have hok : ckO S pin i1 st0 = true := decide_eq_true ⟨hlk, c_a, bI_n c_b, bI_n c_c, bI_z c_e⟩
                    have hst : ckL S pin (S0 22 0 - i1) i1 st0 = ckL S pin (S0 22 0 - (i1 + 1)) (i1 + 1) (st0 ||| lsl 1 (S 20 i1)) := by rw [show S0 22 0 - i1 = (S0 22 0 - (i1 + 1)) + 1 by omega, ckL, if_pos hok]
                    refine lv_lload_n hx hb dX10_check_113 rfl (lv_at hl 5 rfl) ?_
                    refine lv_lconst (v := 1) hx hb dX10_check_114 (by decide) ?_
                    refine lv_iload hx hb dX10_check_115 (lv_at hl 1 rfl) ?_
                    refine lv_lshl (v := lsl 1 (S 20 i1)) hx hb dX10_check_117 rfl ?_
                    refine lv_lor hx hb dX10_check_118 ?_
                    refine lv_lstore_n (lv' := [(3, .long (st0 ||| (lsl 1 (S 20 i1)))), (7, .int (nI (S 21 i1))), (6, .int (nI (S 20 i1))), (0, .ref (ad.1 40 0)), (1, .int (nI pin)), (2, .int (nI (S0 22 0))), (5, .int (nI i1))]) hx hb dX10_check_119 rfl hl (by decide) rfl (fun ls hl => ?_)
                    refine n_iinc (q := 1) (lv' := [(5, .int (nI (i1 + 1))), (3, .long (st0 ||| (lsl 1 (S 20 i1)))), (7, .int (nI (S 21 i1))), (6, .int (nI (S 20 i1))), (0, .ref (ad.1 40 0)), (1, .int (nI pin)), (2, .int (nI (S0 22 0)))]) hx hb dX10_check_120 hl (k := 6) rfl (by decide) (by decide) rfl (fun ls hl => ?_)
                    refine lv_goto (tgt := 31) hx hb dX10_check_123 (by decide) ?_
                    exact ih_lp31 (st0 ||| (lsl 1 (S 20 i1))) (i1 + 1) d_20 _ _ ls (by omega) (by omega) hI (by rw [hck, hst]) hW hS (lv_sub hl [4, 5, 6, 1, 0] rfl)
                  · have hno : ckO S pin i1 st0 = false := decide_eq_false (fun q => by have z := bI_n c_e; rw [q.2.2.2.2] at z; cases z)
                    refine lv_iconst (v := -1) hx hb dX10_check_108 (by decide) ?_
                    refine lv_iload hx hb dX10_check_109 (lv_at hl 6 rfl) ?_
                    refine lv_isub hx hb dX10_check_111 ?_
                    exact o_iret hx hb hr hlocks hW hS (⟨by simp only [aCheck, h7e, ← hSe, ix_nI hpin (by omega), nx_nI (j := pin) (by omega), eq_self, ↓reduceIte, Bool.false_eq_true]; rw [hck, show S0 22 0 - i1 = (S0 22 0 - (i1 + 1)) + 1 by omega, ckL, if_neg (by rw [hno]; decide)], chk_pi hSe hR0 hI⟩) dX10_check_112
    exact lp31 (S0 22 0 + 1) 0 0 (uI (uI d0 40 0 33 (nI 0)) 40 0 22 (nI 0)) _ _ ls (by omega) (by omega) hI rfl hW hS (lv_sub hl [3, 4, 2, 1, 0] rfl)
  · refine lv_bipush (v := -100) hx hb dX10_check_23 (by decide) ?_
    exact o_iret hx hb hr hlocks hW hS (⟨by simp only [aCheck, h7e, ← hSe, bI_z c_4, eq_self, ↓reduceIte, Bool.false_eq_true], chk_pi hSe hR0 hI⟩) dX10_check_25
