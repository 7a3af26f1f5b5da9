set_option maxHeartbeats 400000 in
set_option maxRecDepth 100000 in
theorem c_X10_make (l : Launch) (D : va_G) (cA : Nat → ClassId) (B0 : Nat) (ad : kA) (hal : mAl ad) (S : sS) (d0 : kD) (hM : InvM S d0) (pp : Nat) (hp : pp < S 7 0) : oM l yX10_make wX10_make 3 0 0 D cA B0 ad d0 ([.ref (ad.1 40 0), .int (nI pp)] : List Value) (oQv D cA B0 ad (fun d1 => MI S d0 d1 ∧ d1.1 86 0 pp ≠ 0)) := by
  refine o_ofW (cc := cX10_make) (maxL := 8) (ret := none) (by decide) rfl (Nat.le_of_ble_eq_true rfl) ?_
  intro p e s m below meth c hx hb hr hml hts hown hlocks hnm hK hW hB hS ls hl
  have hu : ∀ w ∈ UW, w.before _ s = true := fun w h => hts w (uw_c w h)
  have hl : lv_has ls 8 [(0, .ref (ad.1 40 0)), (1, .int (nI pp))] := hl
  have hI : MI S d0 d0 := MI.start hM
  have hG : sG S := hM.2.1
  have hb7 : S 7 0 ≤ 8 := hG.f 7 (mx := 8) (by decide)
  have hb18 : S 18 0 ≤ 40 := hG.f 18 (mx := 40) (by decide)
  refine lv_aload_n hx hb dX10_make_0 rfl (lv_at hl 0 rfl) ?_
  refine mo_ga hx hb hu hown hK hal hW 36 (by decide) uF_X10_93 dX10_make_1 ?_
  refine lv_iload_n hx hb dX10_make_4 rfl (lv_at hl 1 rfl) ?_
  refine mo_zl hx hb hK hal hW 36 (n := 8) (by decide) (by omega) dX10_make_5 ?_
  refine lv_if_eq (tgt := 10) hx hb dX10_make_6 (by decide) (fun c_1 => ?_) (fun c_1 => ?_)
  · refine lv_aload_n hx hb dX10_make_10 rfl (lv_at hl 0 rfl) ?_
    refine mo_ga hx hb hu hown hK hal hW 36 (by decide) uF_X10_93 dX10_make_11 ?_
    refine lv_iload_n hx hb dX10_make_14 rfl (lv_at hl 1 rfl) ?_
    refine n_iconst (v := 1) hx hb dX10_make_15 (by decide) ?_
    refine mo_zs hx hb hK hal hW hS 36 (n := 8) (by decide) (by omega) (by decide) dX10_make_16 (fun H locs hW hS => ?_)
    refine n_iconst (v := 0) hx hb dX10_make_17 (by decide) ?_
    refine lv_istore_n (lv' := [(2, .int (nI 0)), (0, .ref (ad.1 40 0)), (1, .int (nI pp))]) hx hb dX10_make_18 rfl hl (by decide) rfl (fun ls hl => ?_)
    have lp19 : ∀ (n : Nat) (mm : Nat)  (d : kD) (H : Heap) (locs : List Loc) (ls : Array Slot), 64 - mm < n → (mm ≤ 64) → (MK S d0 pp mm 0 d) → (d.1 86 0 pp ≠ 0) → oW D cA B0 ad d H → va_S (oA B0) s.heap H locs → lv_has ls 8 [(0, .ref (ad.1 40 0)), (1, .int (nI pp)), (2, .int (nI mm))] → W p l e (oR 3 0 0) s m ([.ref (ad.1 40 0), .int (nI pp)] : List Value).toArray below meth c H locs 0 0 (MQ below (oQv D cA B0 ad (fun d1 => MI S d0 d1 ∧ d1.1 86 0 pp ≠ 0)) ([.ref (ad.1 40 0), .int (nI pp)] : List Value).toArray s 0 0 (oA B0)) (F0 m 19 ls []) := by
      intro n
      induction n with
      | zero => intro mm  d H locs ls hmu; exact absurd hmu (Nat.not_lt_zero _)
      | succ n ih_lp19 =>
        intro mm  d H locs ls hmu hmm hK1 hmd hW hS hl
        refine lv_iload_n hx hb dX10_make_19 rfl (lv_at hl 2 rfl) ?_
        refine n_bipush (v := 64) hx hb dX10_make_20 (by decide) ?_
        refine n_icmp_ge (tgt := 141) hx hb (by omega) (by omega) dX10_make_22 (by decide) (fun c_1 => ?_) (fun c_1 => ?_)
        · exact o_vret hx hb hr hlocks hW hS (⟨(show mm = 64 by omega) ▸ hK1 |>.end hM (by omega) hp, hmd⟩) dX10_make_141
        · refine n_iconst (v := 0) hx hb dX10_make_25 (by decide) ?_
          refine lv_istore_n (lv' := [(3, .int (nI 0)), (0, .ref (ad.1 40 0)), (1, .int (nI pp)), (2, .int (nI mm))]) hx hb dX10_make_26 rfl hl (by decide) rfl (fun ls hl => ?_)
          refine n_iconst (v := 0) hx hb dX10_make_27 (by decide) ?_
          refine lv_istore (lv' := [(4, .int (nI 0)), (3, .int (nI 0)), (0, .ref (ad.1 40 0)), (1, .int (nI pp)), (2, .int (nI mm))]) hx hb dX10_make_28 hl (by decide) rfl (fun ls hl => ?_)
          refine n_bipush (v := 64) hx hb dX10_make_30 (by decide) ?_
          refine lv_iload_n hx hb dX10_make_32 rfl (lv_at hl 3 rfl) ?_
          refine n_imul hx hb dX10_make_33 ?_
          refine lv_iload_n hx hb dX10_make_34 rfl (lv_at hl 4 rfl) ?_
          refine n_iadd hx hb dX10_make_35 ?_
          refine n_sipush (v := 400) hx hb dX10_make_36 (by decide) ?_
          refine n_imul hx hb dX10_make_39 ?_
          refine lv_istore (lv' := [(5, .int (nI (((64 * pp) + mm) * 400))), (4, .int (nI 0)), (3, .int (nI 0)), (0, .ref (ad.1 40 0)), (1, .int (nI pp)), (2, .int (nI mm))]) hx hb dX10_make_40 hl (by decide) rfl (fun ls hl => ?_)
          refine n_iconst (v := 0) hx hb dX10_make_42 (by decide) ?_
          refine lv_istore (lv' := [(6, .int (nI 0)), (5, .int (nI (((64 * pp) + mm) * 400))), (4, .int (nI 0)), (3, .int (nI 0)), (0, .ref (ad.1 40 0)), (1, .int (nI pp)), (2, .int (nI mm))]) hx hb dX10_make_43 hl (by decide) rfl (fun ls hl => ?_)
          have lp45 : ∀ (n : Nat) (hh : Nat) (ev : Nat) (dd : Nat)  (d : kD) (H : Heap) (locs : List Loc) (ls : Array Slot), 400 - dd < n → (dd ≤ 400) → (hh = (sHE S pp mm dd).1) → (ev = (sHE S pp mm dd).2) → (MK S d0 pp mm dd d) → (d.1 86 0 pp ≠ 0) → oW D cA B0 ad d H → va_S (oA B0) s.heap H locs → lv_has ls 8 [(0, .ref (ad.1 40 0)), (1, .int (nI pp)), (2, .int (nI mm)), (3, .int (nI hh)), (4, .int (nI ev)), (5, .int (nI (((64 * pp) + mm) * 400))), (6, .int (nI dd))] → W p l e (oR 3 0 0) s m ([.ref (ad.1 40 0), .int (nI pp)] : List Value).toArray below meth c H locs 0 0 (MQ below (oQv D cA B0 ad (fun d1 => MI S d0 d1 ∧ d1.1 86 0 pp ≠ 0)) ([.ref (ad.1 40 0), .int (nI pp)] : List Value).toArray s 0 0 (oA B0)) (F0 m 45 ls []) := by
            intro n
            induction n with
            | zero => intro hh ev dd  d H locs ls hmu; exact absurd hmu (Nat.not_lt_zero _)
            | succ n ih_lp45 =>
              intro hh ev dd  d H locs ls hmu hdd h_h h_e hK1 hmd hW hS hl
              refine lv_iload hx hb dX10_make_45 (lv_at hl 6 rfl) ?_
              refine n_sipush (v := 400) hx hb dX10_make_47 (by decide) ?_
              refine n_icmp_ge (tgt := 135) hx hb (by omega) (by omega) dX10_make_50 (by decide) (fun c_2 => ?_) (fun c_2 => ?_)
              · refine n_iinc (q := 1) (lv' := [(2, .int (nI (mm + 1))), (0, .ref (ad.1 40 0)), (1, .int (nI pp)), (3, .int (nI hh)), (4, .int (nI ev)), (5, .int (nI (((64 * pp) + mm) * 400))), (6, .int (nI dd))]) hx hb dX10_make_135 hl (k := 2) rfl (by decide) (by decide) rfl (fun ls hl => ?_)
                refine lv_goto (tgt := 19) hx hb dX10_make_138 (by decide) ?_
                exact ih_lp19 (mm + 1) d _ _ ls (by omega) (by omega) ((show dd = 400 by omega) ▸ hK1 |>.next) hmd hW hS (lv_sub hl [1, 2, 0] rfl)
              · refine lv_aload_n hx hb dX10_make_53 rfl (lv_at hl 0 rfl) ?_
                refine lv_iload_n hx hb dX10_make_54 rfl (lv_at hl 1 rfl) ?_
                refine lv_iload_n hx hb dX10_make_55 rfl (lv_at hl 2 rfl) ?_
                refine lv_iload hx hb dX10_make_56 (lv_at hl 6 rfl) ?_
                refine o_calli (o_runV (As := [.int (nI pp), .int (nI mm), .int (nI dd)]) (rest := []) ⟨hx, hb, hml, hown, hu⟩ (c_X10_goal l D cA B0 ad hal S d hK1.1 hG pp mm dd (by omega) (by omega) (by omega)) (gV_X10_151 (fun _ h => h)) (n0 := 3) rfl (by decide +kernel) rfl ⟨Nat.le_of_ble_eq_true rfl, Nat.le_of_ble_eq_true rfl⟩ (o_recv hK hW hal.1 (kC_M _ _ _) rfl) hK hW hB hS hl.1 rfl (lv_room (Nat.le_of_ble_eq_true rfl)) ⟨Nat.zero_le _, Nat.zero_le _⟩ dX10_make_58) hS (fun r_4 d_3 q_5 H locs hW hS => ?_)
                obtain ⟨rfl, rfl⟩ := q_5
                have hg1 : sGoal S pp mm dd ≤ 200 := Nat.le_trans (Nat.min_le_left _ _) (hG.a 4 pp (n := 8) (mx := 200) (by decide) (by omega))
                have hle := sHE_le hG (m := mm) (p := pp) (by omega) dd
                have e1 : hh = (sHE S pp mm dd).1 := h_h
                have e2 : ev = (sHE S pp mm dd).2 := h_e
                refine lv_istore (lv' := [(7, .int (nI (sGoal S pp mm dd))), (0, .ref (ad.1 40 0)), (1, .int (nI pp)), (2, .int (nI mm)), (3, .int (nI hh)), (4, .int (nI ev)), (5, .int (nI (((64 * pp) + mm) * 400))), (6, .int (nI dd))]) hx hb dX10_make_61 hl (by decide) rfl (fun ls hl => ?_)
                refine lv_iload hx hb dX10_make_63 (lv_at hl 0 rfl) ?_
                refine lv_iload_n hx hb dX10_make_65 rfl (lv_at hl 4 rfl) ?_
                have j98 : ∀ (h2 : Nat)  (H : Heap) (locs : List Loc) (ls : Array Slot), (h2 = sStep hh (sGoal S pp mm dd) (mm % 8)) → oW D cA B0 ad d H → va_S (oA B0) s.heap H locs → lv_has ls 8 [(0, .ref (ad.1 40 0)), (1, .int (nI pp)), (2, .int (nI mm)), (3, .int (nI h2)), (4, .int (nI ev)), (5, .int (nI (((64 * pp) + mm) * 400))), (6, .int (nI dd)), (7, .int (nI (sGoal S pp mm dd)))] → W p l e (oR 3 0 0) s m ([.ref (ad.1 40 0), .int (nI pp)] : List Value).toArray below meth c H locs 0 0 (MQ below (oQv D cA B0 ad (fun d1 => MI S d0 d1 ∧ d1.1 86 0 pp ≠ 0)) ([.ref (ad.1 40 0), .int (nI pp)] : List Value).toArray s 0 0 (oA B0)) (F0 m 98 ls []) := by
                  intro h2  H locs ls hh2 hW hS hl
                  have hb2 : h2 ≤ 200 := by rw [hh2]; exact sStep_le (by omega) hg1 (by omega)
                  have hn1 : h2 = (sHE S pp mm (dd + 1)).1 := by rw [hh2, h_h]; rfl
                  have hn2 : max ev h2 = (sHE S pp mm (dd + 1)).2 := by rw [hh2, h_h, h_e]; rfl
                  refine lv_iload hx hb dX10_make_98 (lv_at hl 4 rfl) ?_
                  refine lv_iload_n hx hb dX10_make_100 rfl (lv_at hl 3 rfl) ?_
                  refine va_mmax hx hb (hml.trans hl.1.symm) hown (hu _ uM_X10_139) (hu _ uT_J9_max_7cf53) (hu _ uI_J9) (hu _ uC_J9_max_7cf53) (Nat.le_of_ble_eq_true rfl) (Nat.le_of_ble_eq_true rfl) (Nat.le_of_ble_eq_true rfl) (Nat.le_of_ble_eq_true rfl) dX10_make_101 ?_
                  refine n_topi (y := nI (max ev h2)) (n_max (by omega) (by omega)) ?_
                  refine lv_istore (lv' := [(4, .int (nI (max ev h2))), (0, .ref (ad.1 40 0)), (1, .int (nI pp)), (2, .int (nI mm)), (3, .int (nI h2)), (5, .int (nI (((64 * pp) + mm) * 400))), (6, .int (nI dd)), (7, .int (nI (sGoal S pp mm dd)))]) hx hb dX10_make_104 hl (by decide) rfl (fun ls hl => ?_)
                  refine lv_aload_n hx hb dX10_make_106 rfl (lv_at hl 1 rfl) ?_
                  refine mo_ga hx hb hu hown hK hal hW 34 (by decide) uF_X10_87 dX10_make_107 ?_
                  refine lv_iload hx hb dX10_make_110 (lv_at hl 5 rfl) ?_
                  refine lv_iload hx hb dX10_make_112 (lv_at hl 6 rfl) ?_
                  refine n_iadd hx hb dX10_make_114 ?_
                  refine lv_iload_n hx hb dX10_make_115 rfl (lv_at hl 4 rfl) ?_
                  refine mo_st hx hb hK hal hW hS 34 (n := 204800) (by decide) (by omega) dX10_make_116 (fun H locs hW hS => ?_)
                  refine lv_aload_n hx hb dX10_make_117 rfl (lv_at hl 1 rfl) ?_
                  refine mo_ga hx hb hu hown hK hal hW 35 (by decide) uF_X10_90 dX10_make_118 ?_
                  refine lv_iload hx hb dX10_make_121 (lv_at hl 5 rfl) ?_
                  refine lv_iload hx hb dX10_make_123 (lv_at hl 6 rfl) ?_
                  refine n_iadd hx hb dX10_make_125 ?_
                  refine lv_iload hx hb dX10_make_126 (lv_at hl 0 rfl) ?_
                  refine mo_st hx hb hK hal hW hS 35 (n := 204800) (by decide) (by omega) dX10_make_128 (fun H locs hW hS => ?_)
                  refine n_iinc (q := 1) (lv' := [(6, .int (nI (dd + 1))), (4, .int (nI (max ev h2))), (0, .ref (ad.1 40 0)), (1, .int (nI pp)), (2, .int (nI mm)), (3, .int (nI h2)), (5, .int (nI (((64 * pp) + mm) * 400))), (7, .int (nI (sGoal S pp mm dd)))]) hx hb dX10_make_129 hl (k := 6) rfl (by decide) (by decide) rfl (fun ls hl => ?_)
                  refine lv_goto (tgt := 45) hx hb dX10_make_132 (by decide) ?_
                  exact ih_lp45 h2 (max ev h2) (dd + 1) (uI (uI d (50 + 34) 0 ((((64 * pp) + mm) * 400) + dd) (nI h2)) (50 + 35) 0 ((((64 * pp) + mm) * 400) + dd) (nI (max ev h2))) _ _ ls (by omega) (by omega) hn1 hn2 (hK1.step (by omega) (by omega) (by omega) hn1 hn2) (by rw [uI_k _ _ _ _ (by omega), uI_k _ _ _ _ (by omega)]; exact hmd) hW hS (lv_sub hl [2, 3, 4, 5, 1, 6, 0] rfl)
                refine n_icmp_le (tgt := 83) hx hb (by omega) (by omega) dX10_make_66 (by decide) (fun c_6 => ?_) (fun c_6 => ?_)
                · refine lv_iload_n hx hb dX10_make_83 rfl (lv_at hl 4 rfl) ?_
                  refine lv_iload_n hx hb dX10_make_84 rfl (lv_at hl 4 rfl) ?_
                  refine lv_iload hx hb dX10_make_85 (lv_at hl 0 rfl) ?_
                  refine n_isub hx hb (by omega) dX10_make_87 ?_
                  refine lv_iload_n hx hb dX10_make_88 rfl (lv_at hl 3 rfl) ?_
                  refine n_bipush (v := 8) hx hb dX10_make_89 (by decide) ?_
                  refine n_irem hx hb (by omega) (by omega) (by omega) dX10_make_91 ?_
                  refine n_imul hx hb dX10_make_92 ?_
                  refine n_bipush (v := 8) hx hb dX10_make_93 (by decide) ?_
                  refine n_idiv hx hb (make_prod (by omega) (by omega)) (by omega) (by omega) dX10_make_95 ?_
                  refine n_isub hx hb (make_sub (by omega)) dX10_make_96 ?_
                  refine lv_istore_n (lv' := [(3, .int (nI (hh - (((hh - (sGoal S pp mm dd)) * (mm % 8)) / 8)))), (7, .int (nI (sGoal S pp mm dd))), (0, .ref (ad.1 40 0)), (1, .int (nI pp)), (2, .int (nI mm)), (4, .int (nI ev)), (5, .int (nI (((64 * pp) + mm) * 400))), (6, .int (nI dd))]) hx hb dX10_make_97 rfl hl (by decide) rfl (fun ls hl => ?_)
                  exact j98 (hh - (((hh - (sGoal S pp mm dd)) * (mm % 8)) / 8)) _ _ ls (by unfold sStep; split <;> first | omega | rfl) hW hS (lv_sub hl [2, 3, 4, 0, 5, 6, 7, 1] rfl)
                · refine lv_iload_n hx hb dX10_make_69 rfl (lv_at hl 4 rfl) ?_
                  refine lv_iload hx hb dX10_make_70 (lv_at hl 0 rfl) ?_
                  refine lv_iload_n hx hb dX10_make_72 rfl (lv_at hl 4 rfl) ?_
                  refine n_isub hx hb (by omega) dX10_make_73 ?_
                  refine n_iconst (v := 1) hx hb dX10_make_74 (by decide) ?_
                  refine n_iadd hx hb dX10_make_75 ?_
                  refine n_iconst (v := 2) hx hb dX10_make_76 (by decide) ?_
                  refine n_idiv hx hb (by omega) (by omega) (by omega) dX10_make_77 ?_
                  refine n_iadd hx hb dX10_make_78 ?_
                  refine lv_istore_n (lv' := [(3, .int (nI (hh + ((((sGoal S pp mm dd) - hh) + 1) / 2)))), (7, .int (nI (sGoal S pp mm dd))), (0, .ref (ad.1 40 0)), (1, .int (nI pp)), (2, .int (nI mm)), (4, .int (nI ev)), (5, .int (nI (((64 * pp) + mm) * 400))), (6, .int (nI dd))]) hx hb dX10_make_79 rfl hl (by decide) rfl (fun ls hl => ?_)
                  refine lv_goto (tgt := 98) hx hb dX10_make_80 (by decide) ?_
                  exact j98 (hh + ((((sGoal S pp mm dd) - hh) + 1) / 2)) _ _ ls (by unfold sStep; split <;> first | omega | rfl) hW hS (lv_sub hl [2, 3, 4, 0, 5, 6, 7, 1] rfl)
          exact lp45 (401) 0 0 0 d _ _ ls (by omega) (by omega) rfl rfl hK1 hmd hW hS (lv_sub hl [4, 5, 6, 3, 2, 1, 0] rfl)
    exact lp19 (65) 0 (uI d0 (50 + 36) 0 pp (nI 1)) _ _ ls (by omega) (by omega) (MK.start hM.1 pp _) (by rw [uI_s]; decide) hW hS (lv_sub hl [1, 2, 0] rfl)
  · exact o_vret hx hb hr hlocks hW hS (⟨hI, c_1⟩) dX10_make_9

set_option maxHeartbeats 400000 in
set_option maxRecDepth 100000 in
theorem c_X10_holeOf (l : Launch) (D : va_G) (cA : Nat → ClassId) (B0 : Nat) (ad : kA) (hal : mAl ad) (S : sS) (d0 : kD) (hM : InvM S d0) (pp : Nat) (mm : Nat) (dd : Nat) (hp : pp < S 7 0) (hm : mm < 64) (hd : dd < 400) : oM l yX10_holeOf wX10_holeOf 4 0 0 D cA B0 ad d0 ([.ref (ad.1 40 0), .int (nI pp), .int (nI mm), .int (nI dd)] : List Value) (oQi D cA B0 ad (fun r d1 => r = nI (sHole S pp mm dd) ∧ MI S d0 d1)) := by
  refine o_ofW (cc := cX10_holeOf) (maxL := 4) (ret := some .int) (by decide) rfl (Nat.le_of_ble_eq_true rfl) ?_
  intro p e s m below meth c hx hb hr hml hts hown hlocks hnm hK hW hB hS ls hl
  have hu : ∀ w ∈ UW, w.before _ s = true := fun w h => hts w (uw_c w h)
  have hl : lv_has ls 4 [(0, .ref (ad.1 40 0)), (1, .int (nI pp)), (2, .int (nI mm)), (3, .int (nI dd))] := hl
  have hI : MI S d0 d0 := MI.start hM
  have hG : sG S := hM.2.1
  have hb7 : S 7 0 ≤ 8 := hG.f 7 (mx := 8) (by decide)
  have hb18 : S 18 0 ≤ 40 := hG.f 18 (mx := 40) (by decide)
  refine lv_aload_n hx hb dX10_holeOf_0 rfl (lv_at hl 0 rfl) ?_
  refine lv_iload_n hx hb dX10_holeOf_1 rfl (lv_at hl 1 rfl) ?_
  refine o_callv (o_runV (As := [.int (nI pp)]) (rest := []) ⟨hx, hb, hml, hown, hu⟩ (c_X10_make l D cA B0 ad hal S d0 hI.1 pp (by omega)) (gV_X10_155 (fun _ h => h)) (n0 := 1) rfl (by decide +kernel) rfl ⟨Nat.le_of_ble_eq_true rfl, Nat.le_of_ble_eq_true rfl⟩ (o_recv hK hW hal.1 (kC_M _ _ _) rfl) hK hW hB hS hl.1 rfl (lv_room (Nat.le_of_ble_eq_true rfl)) ⟨Nat.zero_le _, Nat.zero_le _⟩ dX10_holeOf_2) hS (fun d_1 q_3 H locs hW hS => ?_)
  obtain ⟨hq, hmk⟩ := q_3
  have hI := hI.trans hq
  refine lv_aload_n hx hb dX10_holeOf_5 rfl (lv_at hl 0 rfl) ?_
  refine mo_ga hx hb hu hown hK hal hW 34 (by decide) uF_X10_87 dX10_holeOf_6 ?_
  refine n_bipush (v := 64) hx hb dX10_holeOf_9 (by decide) ?_
  refine lv_iload_n hx hb dX10_holeOf_11 rfl (lv_at hl 1 rfl) ?_
  refine n_imul hx hb dX10_holeOf_12 ?_
  refine lv_iload_n hx hb dX10_holeOf_13 rfl (lv_at hl 2 rfl) ?_
  refine n_iadd hx hb dX10_holeOf_14 ?_
  refine n_sipush (v := 400) hx hb dX10_holeOf_15 (by decide) ?_
  refine n_imul hx hb dX10_holeOf_18 ?_
  refine lv_iload_n hx hb dX10_holeOf_19 rfl (lv_at hl 3 rfl) ?_
  refine n_iadd hx hb dX10_holeOf_20 ?_
  refine mo_lr hx hb hK hal hW 34 (n := 204800) (by decide) (by omega) dX10_holeOf_21 ?_
  refine n_topi (y := nI (sHole S pp mm dd)) (((hI.1.2.2.1 pp (by omega) hmk).2 mm hm dd hd).1) ?_
  exact o_iret hx hb hr hlocks hW hS (⟨rfl, hI⟩) dX10_holeOf_22

set_option maxHeartbeats 400000 in
set_option maxRecDepth 100000 in
theorem c_X10_everOf (l : Launch) (D : va_G) (cA : Nat → ClassId) (B0 : Nat) (ad : kA) (hal : mAl ad) (S : sS) (d0 : kD) (hM : InvM S d0) (pp : Nat) (mm : Nat) (dd : Nat) (hp : pp < S 7 0) (hm : mm < 64) (hd : dd < 400) : oM l yX10_everOf wX10_everOf 4 0 0 D cA B0 ad d0 ([.ref (ad.1 40 0), .int (nI pp), .int (nI mm), .int (nI dd)] : List Value) (oQi D cA B0 ad (fun r d1 => r = nI (sEver S pp mm dd) ∧ MI S d0 d1)) := by
  refine o_ofW (cc := cX10_everOf) (maxL := 4) (ret := some .int) (by decide) rfl (Nat.le_of_ble_eq_true rfl) ?_
  intro p e s m below meth c hx hb hr hml hts hown hlocks hnm hK hW hB hS ls hl
  have hu : ∀ w ∈ UW, w.before _ s = true := fun w h => hts w (uw_c w h)
  have hl : lv_has ls 4 [(0, .ref (ad.1 40 0)), (1, .int (nI pp)), (2, .int (nI mm)), (3, .int (nI dd))] := hl
  have hI : MI S d0 d0 := MI.start hM
  have hG : sG S := hM.2.1
  have hb7 : S 7 0 ≤ 8 := hG.f 7 (mx := 8) (by decide)
  have hb18 : S 18 0 ≤ 40 := hG.f 18 (mx := 40) (by decide)
  refine lv_aload_n hx hb dX10_everOf_0 rfl (lv_at hl 0 rfl) ?_
  refine lv_iload_n hx hb dX10_everOf_1 rfl (lv_at hl 1 rfl) ?_
  refine o_callv (o_runV (As := [.int (nI pp)]) (rest := []) ⟨hx, hb, hml, hown, hu⟩ (c_X10_make l D cA B0 ad hal S d0 hI.1 pp (by omega)) (gV_X10_155 (fun _ h => h)) (n0 := 1) rfl (by decide +kernel) rfl ⟨Nat.le_of_ble_eq_true rfl, Nat.le_of_ble_eq_true rfl⟩ (o_recv hK hW hal.1 (kC_M _ _ _) rfl) hK hW hB hS hl.1 rfl (lv_room (Nat.le_of_ble_eq_true rfl)) ⟨Nat.zero_le _, Nat.zero_le _⟩ dX10_everOf_2) hS (fun d_1 q_3 H locs hW hS => ?_)
  obtain ⟨hq, hmk⟩ := q_3
  have hI := hI.trans hq
  refine lv_aload_n hx hb dX10_everOf_5 rfl (lv_at hl 0 rfl) ?_
  refine mo_ga hx hb hu hown hK hal hW 35 (by decide) uF_X10_90 dX10_everOf_6 ?_
  refine n_bipush (v := 64) hx hb dX10_everOf_9 (by decide) ?_
  refine lv_iload_n hx hb dX10_everOf_11 rfl (lv_at hl 1 rfl) ?_
  refine n_imul hx hb dX10_everOf_12 ?_
  refine lv_iload_n hx hb dX10_everOf_13 rfl (lv_at hl 2 rfl) ?_
  refine n_iadd hx hb dX10_everOf_14 ?_
  refine n_sipush (v := 400) hx hb dX10_everOf_15 (by decide) ?_
  refine n_imul hx hb dX10_everOf_18 ?_
  refine lv_iload_n hx hb dX10_everOf_19 rfl (lv_at hl 3 rfl) ?_
  refine n_iadd hx hb dX10_everOf_20 ?_
  refine mo_lr hx hb hK hal hW 35 (n := 204800) (by decide) (by omega) dX10_everOf_21 ?_
  refine n_topi (y := nI (sEver S pp mm dd)) (((hI.1.2.2.1 pp (by omega) hmk).2 mm hm dd hd).2) ?_
  exact o_iret hx hb hr hlocks hW hS (⟨rfl, hI⟩) dX10_everOf_22

set_option maxHeartbeats 400000 in
set_option maxRecDepth 100000 in
theorem c_X10_stateOf (l : Launch) (D : va_G) (cA : Nat → ClassId) (B0 : Nat) (ad : kA) (hal : mAl ad) (S : sS) (d0 : kD) (hM : InvM S d0) (pp : Nat) (mm : Nat) (dd : Nat) (hp : pp < S 7 0) (hm : mm < 64) (hd : dd < 400) : oM l yX10_stateOf wX10_stateOf 5 0 0 D cA B0 ad d0 ([.ref (ad.1 40 0), .int (nI pp), .int (nI mm), .int (nI dd)] : List Value) (oQi D cA B0 ad (fun r d1 => r = nI (sState S pp mm dd) ∧ MI S d0 d1)) := by
  refine o_ofW (cc := cX10_stateOf) (maxL := 5) (ret := some .int) (by decide) rfl (Nat.le_of_ble_eq_true rfl) ?_
  intro p e s m below meth c hx hb hr hml hts hown hlocks hnm hK hW hB hS ls hl
  have hu : ∀ w ∈ UW, w.before _ s = true := fun w h => hts w (uw_c w h)
  have hl : lv_has ls 5 [(0, .ref (ad.1 40 0)), (1, .int (nI pp)), (2, .int (nI mm)), (3, .int (nI dd))] := hl
  have hI : MI S d0 d0 := MI.start hM
  have hG : sG S := hM.2.1
  have hb7 : S 7 0 ≤ 8 := hG.f 7 (mx := 8) (by decide)
  have hb18 : S 18 0 ≤ 40 := hG.f 18 (mx := 40) (by decide)
  refine lv_aload_n hx hb dX10_stateOf_0 rfl (lv_at hl 0 rfl) ?_
  refine lv_iload_n hx hb dX10_stateOf_1 rfl (lv_at hl 1 rfl) ?_
  refine lv_iload_n hx hb dX10_stateOf_2 rfl (lv_at hl 2 rfl) ?_
  refine lv_iload_n hx hb dX10_stateOf_3 rfl (lv_at hl 3 rfl) ?_
  refine o_calli (o_runV (As := [.int (nI pp), .int (nI mm), .int (nI dd)]) (rest := []) ⟨hx, hb, hml, hown, hu⟩ (c_X10_everOf l D cA B0 ad hal S d0 hI.1 pp mm dd (by omega) (by omega) (by omega)) (gV_X10_159 (fun _ h => h)) (n0 := 3) rfl (by decide +kernel) rfl ⟨Nat.le_of_ble_eq_true rfl, Nat.le_of_ble_eq_true rfl⟩ (o_recv hK hW hal.1 (kC_M _ _ _) rfl) hK hW hB hS hl.1 rfl (lv_room (Nat.le_of_ble_eq_true rfl)) ⟨Nat.zero_le _, Nat.zero_le _⟩ dX10_stateOf_4) hS (fun r_2 d_1 q_3 H locs hW hS => ?_)
  obtain ⟨rfl, hq⟩ := q_3
  have hI := hI.trans hq
  have hev : sEver S pp mm dd ≤ 200 := (sHE_le hG (by omega) (dd + 1)).2
  refine lv_istore (lv' := [(4, .int (nI (sEver S pp mm dd))), (0, .ref (ad.1 40 0)), (1, .int (nI pp)), (2, .int (nI mm)), (3, .int (nI dd))]) hx hb dX10_stateOf_7 hl (by decide) rfl (fun ls hl => ?_)
  refine lv_iload hx hb dX10_stateOf_9 (lv_at hl 0 rfl) ?_
  refine lv_aload_n hx hb dX10_stateOf_11 rfl (lv_at hl 1 rfl) ?_
  refine mo_ga hx hb hu hown hK hal hW 5 (by decide) uF_X10_22 dX10_stateOf_12 ?_
  refine lv_iload_n hx hb dX10_stateOf_15 rfl (lv_at hl 2 rfl) ?_
  refine mo_ld hx hb hK hal hW hI.dS 5 (n := 8) (by decide) (by omega) dX10_stateOf_16 ?_
  have b_4 : S 5 pp ≤ 99 := hG.a 5 pp (n := 8) (mx := 99) (by decide) (by omega)
  refine n_icmp_gt (tgt := 24) hx hb (by omega) (by omega) dX10_stateOf_17 (by decide) (fun c_5 => ?_) (fun c_5 => ?_)
  · refine lv_iload hx hb dX10_stateOf_24 (lv_at hl 0 rfl) ?_
    refine lv_aload_n hx hb dX10_stateOf_26 rfl (lv_at hl 1 rfl) ?_
    refine mo_ga hx hb hu hown hK hal hW 5 (by decide) uF_X10_22 dX10_stateOf_27 ?_
    refine lv_iload_n hx hb dX10_stateOf_30 rfl (lv_at hl 2 rfl) ?_
    refine mo_ld hx hb hK hal hW hI.dS 5 (n := 8) (by decide) (by omega) dX10_stateOf_31 ?_
    have b_6 : S 5 pp ≤ 99 := hG.a 5 pp (n := 8) (mx := 99) (by decide) (by omega)
    refine lv_aload_n hx hb dX10_stateOf_32 rfl (lv_at hl 1 rfl) ?_
    refine mo_ga hx hb hu hown hK hal hW 6 (by decide) uF_X10_25 dX10_stateOf_33 ?_
    refine lv_iload_n hx hb dX10_stateOf_36 rfl (lv_at hl 2 rfl) ?_
    refine mo_ld hx hb hK hal hW hI.dS 6 (n := 8) (by decide) (by omega) dX10_stateOf_37 ?_
    have b_7 : S 6 pp ≤ 99 := hG.a 6 pp (n := 8) (mx := 99) (by decide) (by omega)
    refine n_iadd hx hb dX10_stateOf_38 ?_
    refine n_icmp_gt (tgt := 46) hx hb (by omega) (by omega) dX10_stateOf_39 (by decide) (fun c_8 => ?_) (fun c_8 => ?_)
    · refine n_iconst (v := 2) hx hb dX10_stateOf_46 (by decide) ?_
      exact o_iret hx hb hr hlocks hW hS (⟨by unfold sState; first | (rw [if_pos (by omega)]; done) | (rw [if_neg (by omega), if_pos (by omega)]; done) | (rw [if_neg (by omega), if_neg (by omega)]; done), hI⟩) dX10_stateOf_47
    · refine n_iconst (v := 1) hx hb dX10_stateOf_42 (by decide) ?_
      refine lv_goto (tgt := 47) hx hb dX10_stateOf_43 (by decide) ?_
      exact o_iret hx hb hr hlocks hW hS (⟨by unfold sState; first | (rw [if_pos (by omega)]; done) | (rw [if_neg (by omega), if_pos (by omega)]; done) | (rw [if_neg (by omega), if_neg (by omega)]; done), hI⟩) dX10_stateOf_47
  · refine n_iconst (v := 0) hx hb dX10_stateOf_20 (by decide) ?_
    refine lv_goto (tgt := 47) hx hb dX10_stateOf_21 (by decide) ?_
    exact o_iret hx hb hr hlocks hW hS (⟨by unfold sState; first | (rw [if_pos (by omega)]; done) | (rw [if_neg (by omega), if_pos (by omega)]; done) | (rw [if_neg (by omega), if_neg (by omega)]; done), hI⟩) dX10_stateOf_47
