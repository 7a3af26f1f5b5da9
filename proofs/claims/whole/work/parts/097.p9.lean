set_option maxHeartbeats 400000 in
set_option maxRecDepth 100000 in
theorem c_X10_flows (l : Launch) (D : va_G) (cA : Nat → ClassId) (B0 : Nat) (ad : kA) (hal : mAl ad) (S : sS) (sr : Nat → Int32) (d0 : kD) (hM : InvM S d0) (hR : RowM S sr d0) (day ki ni fi si : Int32) : oM l yX10_flows wX10_flows 3 0 0 D cA B0 ad d0 ([.ref (ad.1 40 0), .int day, .int ki, .int ni, .int fi, .int si] : List Value) (oQi D cA B0 ad (fun r d1 => r = aFlows S day ki ni fi si ∧ PI (nFlows S day ki ni fi si) sr d0 d1)) := by
  refine o_ofW (cc := cX10_flows) (maxL := 9) (ret := some .int) (by decide) rfl (Nat.le_of_ble_eq_true rfl) ?_
  intro p e s m below meth c hx hb hr hml hts hown hlocks hnm hK hW hB hS ls hl
  have hu : ∀ w ∈ UW, w.before _ s = true := fun w h => hts w (uw_c w h)
  have hl : lv_has ls 9 [(0, .ref (ad.1 40 0)), (1, .int day), (2, .int ki), (3, .int ni), (4, .int fi), (5, .int si)] := hl
  refine lv_aload_n hx hb dX10_flows_0 rfl (lv_at hl 0 rfl) ?_
  refine n_iconst (v := 0) hx hb dX10_flows_1 (by decide) ?_
  refine mo_pi hx hb hu hown hK hal hW hS 33 (by decide +kernel) uF_X10_113 dX10_flows_2 (fun H locs hW hS => ?_)
  have hG : sG S := hM.2.1
  refine lv_iload_n hx hb dX10_flows_5 rfl (lv_at hl 1 rfl) ?_
  refine o_calli (o_runS (As := [.int day]) (rest := []) ⟨hx, hb, hml, hown, hu⟩ (c_X10_isDay l D cA B0 ad hal (uI d0 40 0 33 (nI 0)) day) (gS_X10_126 (fun _ h => h)) (n0 := 1) rfl (by decide +kernel) rfl ⟨Nat.le_of_ble_eq_true rfl, Nat.le_of_ble_eq_true rfl⟩ hK hW hB hS hl.1 rfl (lv_room (Nat.le_of_ble_eq_true rfl)) ⟨Nat.zero_le _, Nat.zero_le _⟩ dX10_flows_6) hS (fun r_2 d_1 q_3 H locs hW hS => ?_)
  obtain ⟨rfl, rfl⟩ := q_3
  refine lv_if_eq (tgt := 27) hx hb dX10_flows_9 (by decide) (fun c_4 => ?_) (fun c_4 => ?_)
  · refine lv_iconst (v := -1) hx hb dX10_flows_27 (by decide) ?_
    exact o_iret hx hb hr hlocks hW hS (⟨by simp only [aFlows, bI_z c_4, eq_self, ↓reduceIte, Bool.false_eq_true], by simp only [nFlows, bI_z c_4, eq_self, ↓reduceIte, Bool.false_eq_true]; exact (MI.start (hM.thr 33 _ rfl)).pub hR⟩) dX10_flows_28
  · obtain ⟨dayn, hdayn, rfl⟩ := ix_t (bI_n c_4) (by omega)
    refine lv_iload_n hx hb dX10_flows_12 rfl (lv_at hl 2 rfl) ?_
    refine n_iconst (v := 0) hx hb dX10_flows_13 (by decide) ?_
    refine n_iconst (v := 3) hx hb dX10_flows_14 (by decide) ?_
    refine o_calli (o_runS (As := [.int ki, .int (nI 0), .int (nI 3)]) (rest := []) ⟨hx, hb, hml, hown, hu⟩ (c_X10_in l D cA B0 ad hal (uI d0 40 0 33 (nI 0)) ki (nI 0) (nI 3)) (gS_X10_119 (fun _ h => h)) (n0 := 3) rfl (by decide +kernel) rfl ⟨Nat.le_of_ble_eq_true rfl, Nat.le_of_ble_eq_true rfl⟩ hK hW hB hS hl.1 rfl (lv_room (Nat.le_of_ble_eq_true rfl)) ⟨Nat.zero_le _, Nat.zero_le _⟩ dX10_flows_15) hS (fun r_6 d_5 q_7 H locs hW hS => ?_)
    obtain ⟨rfl, rfl⟩ := q_7
    refine n_topi (y := bI (ix ki 4)) (in_ixc 4 rfl (by decide)) ?_
    refine lv_if_eq (tgt := 27) hx hb dX10_flows_18 (by decide) (fun c_8 => ?_) (fun c_8 => ?_)
    · refine lv_iconst (v := -1) hx hb dX10_flows_27 (by decide) ?_
      exact o_iret hx hb hr hlocks hW hS (⟨by simp only [aFlows, ix_nI hdayn (by omega), nx_nI (j := dayn) (by omega), bI_z c_8, eq_self, ↓reduceIte, Bool.false_eq_true], by simp only [nFlows, ix_nI hdayn (by omega), nx_nI (j := dayn) (by omega), bI_z c_8, eq_self, ↓reduceIte, Bool.false_eq_true]; exact (MI.start (hM.thr 33 _ rfl)).pub hR⟩) dX10_flows_28
    · obtain ⟨kin, hkin, rfl⟩ := ix_t (bI_n c_8) (by omega)
      refine lv_iload_n hx hb dX10_flows_21 rfl (lv_at hl 3 rfl) ?_
      refine n_bipush (v := 60) hx hb dX10_flows_22 (by decide) ?_
      refine lv_icmp_le (tgt := 29) hx hb dX10_flows_24 (by decide) (fun c_n => ?_) (fun c_n => ?_)
      · have hn60 : ¬ nI 60 < ni := Int32.not_lt.mpr c_n
        refine lv_iload_n hx hb dX10_flows_29 rfl (lv_at hl 2 rfl) ?_
        refine n_iconst (v := 3) hx hb dX10_flows_30 (by decide) ?_
        refine n_icmp_ne (tgt := 37) hx hb (by omega) (by omega) dX10_flows_31 (by decide) (fun c_k => ?_) (fun c_k => ?_)
        · refine lv_iload_n hx hb dX10_flows_37 rfl (lv_at hl 3 rfl) ?_
          refine lv_if_ge (tgt := 44) hx hb dX10_flows_38 (by decide) (fun c_g => ?_) (fun c_g => ?_)
          · obtain ⟨nn, hnn, rfl⟩ := n_of60 c_n c_g
            have hneg : ¬ nI nn < 0 := Int32.not_lt.mpr c_g
            refine lv_aload_n hx hb dX10_flows_44 rfl (lv_at hl 0 rfl) ?_
            refine o_callv (o_runV (As := []) (rest := []) ⟨hx, hb, hml, hown, hu⟩ (c_X10_forget l D cA B0 ad hal (uI d0 40 0 33 (nI 0))) (gV_X10_130 (fun _ h => h)) (n0 := 0) rfl (by decide +kernel) rfl ⟨Nat.le_of_ble_eq_true rfl, Nat.le_of_ble_eq_true rfl⟩ (o_recv hK hW hal.1 (kC_M _ _ _) rfl) hK hW hB hS hl.1 rfl (lv_room (Nat.le_of_ble_eq_true rfl)) ⟨Nat.zero_le _, Nat.zero_le _⟩ dX10_flows_45) hS (fun d_9 q_11 H locs hW hS => ?_)
            have hF := q_11
            have hFL : FL d0 d_9 := ⟨hF.1, hF.2.1, hF.2.2.1 81 (by omega) (by omega), hF.fr ((FrP.refl d0).thr _ _)⟩
            have hD := hF.dS (hM.thr 33 (nI 0) rfl).1
            refine lv_iload hx hb dX10_flows_48 (lv_at hl 4 rfl) ?_
            refine lv_istore (lv' := [(6, .int fi), (0, .ref (ad.1 40 0)), (1, .int (nI dayn)), (2, .int (nI kin)), (3, .int (nI nn)), (4, .int fi), (5, .int si)]) hx hb dX10_flows_50 hl (by decide) rfl (fun ls hl => ?_)
            refine n_iconst (v := 0) hx hb dX10_flows_52 (by decide) ?_
            refine lv_istore (lv' := [(7, .int (nI 0)), (6, .int fi), (0, .ref (ad.1 40 0)), (1, .int (nI dayn)), (2, .int (nI kin)), (3, .int (nI nn)), (4, .int fi), (5, .int si)]) hx hb dX10_flows_53 hl (by decide) rfl (fun ls hl => ?_)
            have lp55 : ∀ (n : Nat) (v : Int32) (k : Nat)  (d : kD) (H : Heap) (locs : List Loc) (ls : Array Slot), nn - k < n → (k ≤ nn) → (v = (flw S dayn kin fi si k).2) → (dS (flw S dayn kin fi si k).1 d) → (FL d0 d) → oW D cA B0 ad d H → va_S (oA B0) s.heap H locs → lv_has ls 9 [(0, .ref (ad.1 40 0)), (1, .int (nI dayn)), (2, .int (nI kin)), (3, .int (nI nn)), (4, .int fi), (5, .int si), (6, .int v), (7, .int (nI k))] → W p l e (oR 3 0 0) s m ([.ref (ad.1 40 0), .int (nI dayn), .int (nI kin), .int (nI nn), .int fi, .int si] : List Value).toArray below meth c H locs 0 0 (MQ below (oQi D cA B0 ad (fun r d1 => r = aFlows S (nI dayn) (nI kin) (nI nn) fi si ∧ PI (nFlows S (nI dayn) (nI kin) (nI nn) fi si) sr d0 d1)) ([.ref (ad.1 40 0), .int (nI dayn), .int (nI kin), .int (nI nn), .int fi, .int si] : List Value).toArray s 0 0 (oA B0)) (F0 m 55 ls []) := by
              intro n
              induction n with
              | zero => intro v k  d H locs ls hmu; exact absurd hmu (Nat.not_lt_zero _)
              | succ n ih_lp55 =>
                intro v k  d H locs ls hmu hk hv hD hFL hW hS hl
                refine lv_iload hx hb dX10_flows_55 (lv_at hl 7 rfl) ?_
                refine lv_iload_n hx hb dX10_flows_57 rfl (lv_at hl 3 rfl) ?_
                refine n_icmp_ge (tgt := 129) hx hb (by omega) (by omega) dX10_flows_58 (by decide) (fun c_12 => ?_) (fun c_12 => ?_)
                · refine lv_iload_n hx hb dX10_flows_129 rfl (lv_at hl 3 rfl) ?_
                  exact o_iret hx hb hr hlocks hW hS (⟨by simp only [aFlows, ix_nI hdayn (by omega), nx_nI (j := dayn) (by omega), ix_nI hkin (by omega), nx_nI (j := kin) (by omega), hn60, c_k, hneg, nx_nI (j := nn) (by omega), eq_self, ↓reduceIte, Bool.false_eq_true], by simp only [nFlows, ix_nI hdayn (by omega), nx_nI (j := dayn) (by omega), ix_nI hkin (by omega), nx_nI (j := kin) (by omega), hn60, c_k, hneg, nx_nI (j := nn) (by omega), eq_self, ↓reduceIte, Bool.false_eq_true]; exact (show k = nn by omega) ▸ hFL.end hG hR hD⟩) dX10_flows_130
                · refine lv_iload_n hx hb dX10_flows_61 rfl (lv_at hl 2 rfl) ?_
                  have j84 : ∀ (ee : Int32)  (H : Heap) (locs : List Loc) (ls : Array Slot), (ee = shv kin v) → oW D cA B0 ad d H → va_S (oA B0) s.heap H locs → lv_has ls 9 [(0, .ref (ad.1 40 0)), (1, .int (nI dayn)), (2, .int (nI kin)), (3, .int (nI nn)), (4, .int fi), (5, .int si), (6, .int v), (7, .int (nI k))] → W p l e (oR 3 0 0) s m ([.ref (ad.1 40 0), .int (nI dayn), .int (nI kin), .int (nI nn), .int fi, .int si] : List Value).toArray below meth c H locs 0 0 (MQ below (oQi D cA B0 ad (fun r d1 => r = aFlows S (nI dayn) (nI kin) (nI nn) fi si ∧ PI (nFlows S (nI dayn) (nI kin) (nI nn) fi si) sr d0 d1)) ([.ref (ad.1 40 0), .int (nI dayn), .int (nI kin), .int (nI nn), .int fi, .int si] : List Value).toArray s 0 0 (oA B0)) (F0 m 84 ls [.int ee]) := by
                    intro ee  H locs ls hee hW hS hl
                    refine lv_istore (lv' := [(8, .int ee), (0, .ref (ad.1 40 0)), (1, .int (nI dayn)), (2, .int (nI kin)), (3, .int (nI nn)), (4, .int fi), (5, .int si), (6, .int v), (7, .int (nI k))]) hx hb dX10_flows_84 hl (by decide) rfl (fun ls hl => ?_)
                    refine lv_iload hx hb dX10_flows_86 (lv_at hl 7 rfl) ?_
                    refine lv_iload hx hb dX10_flows_88 (lv_at hl 6 rfl) ?_
                    refine lv_iadd hx hb dX10_flows_90 ?_
                    refine lv_istore (lv' := [(6, .int (v + si)), (8, .int ee), (0, .ref (ad.1 40 0)), (1, .int (nI dayn)), (2, .int (nI kin)), (3, .int (nI nn)), (4, .int fi), (5, .int si), (7, .int (nI k))]) hx hb dX10_flows_91 hl (by decide) rfl (fun ls hl => ?_)
                    refine lv_iload_n hx hb dX10_flows_93 rfl (lv_at hl 3 rfl) ?_
                    refine lv_iload hx hb dX10_flows_94 (lv_at hl 8 rfl) ?_
                    refine n_iadd hx hb dX10_flows_96 ?_
                    refine n_sipush (v := 400) hx hb dX10_flows_97 (by decide) ?_
                    refine n_icmp_ge (tgt := 123) hx hb (by omega) (by omega) dX10_flows_100 (by decide) (fun c_d => ?_) (fun c_d => ?_)
                    · refine n_iinc (q := 1) (lv' := [(7, .int (nI (k + 1))), (6, .int (v + si)), (8, .int ee), (0, .ref (ad.1 40 0)), (1, .int (nI dayn)), (2, .int (nI kin)), (3, .int (nI nn)), (4, .int fi), (5, .int si)]) hx hb dX10_flows_123 hl (k := 8) rfl (by decide) (by decide) rfl (fun ls hl => ?_)
                      refine lv_goto (tgt := 55) hx hb dX10_flows_126 (by decide) ?_
                      exact ih_lp55 (v + si) (k + 1) d _ _ ls (by omega) (by omega) (by rw [hv]; rfl) (by show dS (if dayn + k < 400 then upS (flw S dayn kin fi si k).1 0 (dayn + k) (clip (shv kin (flw S dayn kin fi si k).2)) else (flw S dayn kin fi si k).1) _; first | (rw [if_neg c_d, ← hv, ← hee]; exact hD) | (rw [if_pos (by omega), ← hv, ← hee]; exact hD) | (rw [if_neg (by omega)]; exact hD)) hFL hW hS (lv_sub hl [3, 4, 5, 6, 7, 8, 1, 0] rfl)
                    · refine lv_aload_n hx hb dX10_flows_103 rfl (lv_at hl 2 rfl) ?_
                      refine mo_ga hx hb hu hown hK hal hW 0 (by decide) uF_X10_9 dX10_flows_104 ?_
                      refine lv_iload_n hx hb dX10_flows_107 rfl (lv_at hl 3 rfl) ?_
                      refine lv_iload hx hb dX10_flows_108 (lv_at hl 8 rfl) ?_
                      refine n_iadd hx hb dX10_flows_110 ?_
                      refine n_iconst (v := 0) hx hb dX10_flows_111 (by decide) ?_
                      refine n_bipush (v := 99) hx hb dX10_flows_112 (by decide) ?_
                      refine lv_iload hx hb dX10_flows_114 (lv_at hl 1 rfl) ?_
                      refine va_mmin hx hb (hml.trans hl.1.symm) hown (hu _ uM_X10_133) (hu _ uT_J9_min_7cf53) (hu _ uI_J9) (hu _ uC_J9_min_7cf53) (Nat.le_of_ble_eq_true rfl) (Nat.le_of_ble_eq_true rfl) (Nat.le_of_ble_eq_true rfl) (Nat.le_of_ble_eq_true rfl) dX10_flows_116 ?_
                      refine va_mmax hx hb (hml.trans hl.1.symm) hown (hu _ uM_X10_139) (hu _ uT_J9_max_7cf53) (hu _ uI_J9) (hu _ uC_J9_max_7cf53) (Nat.le_of_ble_eq_true rfl) (Nat.le_of_ble_eq_true rfl) (Nat.le_of_ble_eq_true rfl) (Nat.le_of_ble_eq_true rfl) dX10_flows_119 ?_
                      refine n_topi (y := nI (clip ee)) (clip_eq ee) ?_
                      refine mo_st hx hb hK hal hW hS 0 (n := 400) (by decide) (by omega) dX10_flows_122 (fun H locs hW hS => ?_)
                      have hD := hD.put 0 (dayn + k) (clip ee) (n := 400) rfl (by omega)
                      have hFL := hFL.st (dayn + k) (nI (clip ee))
                      refine n_iinc (q := 1) (lv' := [(7, .int (nI (k + 1))), (6, .int (v + si)), (8, .int ee), (0, .ref (ad.1 40 0)), (1, .int (nI dayn)), (2, .int (nI kin)), (3, .int (nI nn)), (4, .int fi), (5, .int si)]) hx hb dX10_flows_123 hl (k := 8) rfl (by decide) (by decide) rfl (fun ls hl => ?_)
                      refine lv_goto (tgt := 55) hx hb dX10_flows_126 (by decide) ?_
                      exact ih_lp55 (v + si) (k + 1) (uI d (50 + 0) 0 (dayn + k) (nI (clip ee))) _ _ ls (by omega) (by omega) (by rw [hv]; rfl) (by show dS (if dayn + k < 400 then upS (flw S dayn kin fi si k).1 0 (dayn + k) (clip (shv kin (flw S dayn kin fi si k).2)) else (flw S dayn kin fi si k).1) _; first | (rw [if_neg c_d, ← hv, ← hee]; exact hD) | (rw [if_pos (by omega), ← hv, ← hee]; exact hD) | (rw [if_neg (by omega)]; exact hD)) hFL hW hS (lv_sub hl [3, 4, 5, 6, 7, 8, 1, 0] rfl)
                  refine n_if_ne (tgt := 71) hx hb (by omega) dX10_flows_62 (by decide) (fun c_0 => ?_) (fun c_0 => ?_)
                  · refine lv_iload_n hx hb dX10_flows_71 rfl (lv_at hl 2 rfl) ?_
                    refine n_iconst (v := 1) hx hb dX10_flows_72 (by decide) ?_
                    refine n_icmp_ne (tgt := 82) hx hb (by omega) (by omega) dX10_flows_73 (by decide) (fun c_1 => ?_) (fun c_1 => ?_)
                    · refine lv_iload hx hb dX10_flows_82 (lv_at hl 6 rfl) ?_
                      exact j84 v _ _ ls (by unfold shv; first | rw [if_pos c_0] | rw [if_neg c_0, if_pos c_1] | rw [if_neg c_0, if_neg c_1]) hW hS (lv_sub hl [0, 1, 2, 3, 4, 5, 6, 7] rfl)
                    · refine lv_iload hx hb dX10_flows_76 (lv_at hl 6 rfl) ?_
                      refine lv_i2s (v := v.toInt16.toInt32) hx hb dX10_flows_78 rfl ?_
                      refine lv_goto (tgt := 84) hx hb dX10_flows_79 (by decide) ?_
                      exact j84 v.toInt16.toInt32 _ _ ls (by unfold shv; first | rw [if_pos c_0] | rw [if_neg c_0, if_pos c_1] | rw [if_neg c_0, if_neg c_1]) hW hS (lv_sub hl [0, 1, 2, 3, 4, 5, 6, 7] rfl)
                  · refine lv_iload hx hb dX10_flows_65 (lv_at hl 6 rfl) ?_
                    refine lv_i2b (v := v.toInt8.toInt32) hx hb dX10_flows_67 rfl ?_
                    refine lv_goto (tgt := 84) hx hb dX10_flows_68 (by decide) ?_
                    exact j84 v.toInt8.toInt32 _ _ ls (by unfold shv; first | rw [if_pos c_0] | rw [if_neg c_0, if_pos c_1] | rw [if_neg c_0, if_neg c_1]) hW hS (lv_sub hl [0, 1, 2, 3, 4, 5, 6, 7] rfl)
            exact lp55 (nn + 1) fi 0 d_9 _ _ ls (by omega) (by omega) rfl hD hFL hW hS (lv_sub hl [2, 3, 4, 5, 6, 7, 1, 0] rfl)
          · have hneg : ni < 0 := Int32.not_le.mp c_g
            refine lv_bipush (v := -2) hx hb dX10_flows_41 (by decide) ?_
            exact o_iret hx hb hr hlocks hW hS (⟨by simp only [aFlows, ix_nI hdayn (by omega), nx_nI (j := dayn) (by omega), ix_nI hkin (by omega), nx_nI (j := kin) (by omega), hn60, c_k, hneg, eq_self, ↓reduceIte, Bool.false_eq_true], by simp only [nFlows, ix_nI hdayn (by omega), nx_nI (j := dayn) (by omega), ix_nI hkin (by omega), nx_nI (j := kin) (by omega), hn60, c_k, hneg, eq_self, ↓reduceIte, Bool.false_eq_true]; exact (MI.start (hM.thr 33 _ rfl)).pub hR⟩) dX10_flows_43
        · refine lv_bipush (v := -3) hx hb dX10_flows_34 (by decide) ?_
          exact o_iret hx hb hr hlocks hW hS (⟨by simp only [aFlows, ix_nI hdayn (by omega), nx_nI (j := dayn) (by omega), ix_nI hkin (by omega), nx_nI (j := kin) (by omega), hn60, eq_self, ↓reduceIte, Bool.false_eq_true]; rw [if_pos c_k], by simp only [nFlows, ix_nI hdayn (by omega), nx_nI (j := dayn) (by omega), ix_nI hkin (by omega), nx_nI (j := kin) (by omega), hn60, eq_self, ↓reduceIte, Bool.false_eq_true]; rw [if_pos c_k]; exact (MI.start (hM.thr 33 _ rfl)).pub hR⟩) dX10_flows_36
      · have hn60 : nI 60 < ni := Int32.not_le.mp c_n
        refine lv_iconst (v := -1) hx hb dX10_flows_27 (by decide) ?_
        exact o_iret hx hb hr hlocks hW hS (⟨by simp only [aFlows, ix_nI hdayn (by omega), nx_nI (j := dayn) (by omega), ix_nI hkin (by omega), nx_nI (j := kin) (by omega), hn60, eq_self, ↓reduceIte, Bool.false_eq_true], by simp only [nFlows, ix_nI hdayn (by omega), nx_nI (j := dayn) (by omega), ix_nI hkin (by omega), nx_nI (j := kin) (by omega), hn60, eq_self, ↓reduceIte, Bool.false_eq_true]; exact (MI.start (hM.thr 33 _ rfl)).pub hR⟩) dX10_flows_28
