set_option maxHeartbeats 400000 in
set_option maxRecDepth 100000 in
theorem c_X9_flows (l : Launch) (D : va_G) (cA : Nat → ClassId) (B0 : Nat) (ad : kA) (hal : mAl ad) (S : sS) (sr : Nat → Int32) (d0 : kD) (hM : InvX cA ad S d0) (hR : RowX S sr d0) (day ki ni fi si : Int32) : oM l yX9_flows wX9_flows 5 0 0 D cA B0 ad d0 ([.ref (ad.1 0 0), .int day, .int ki, .int ni, .int fi, .int si] : List Value) (oQi D cA B0 ad (fun r d1 => r = aFlows S day ki ni fi si ∧ PX cA ad (nFlows S day ki ni fi si) sr d0 d1)) := by
  refine o_ofW (cc := cX9_flows) (maxL := 8) (ret := some .int) (by decide) rfl (Nat.le_of_ble_eq_true rfl) ?_
  intro p e s m below meth c hx hb hr hml hts hown hlocks hnm hK hW hB hS ls hl
  have hu : ∀ w ∈ UW, w.before _ s = true := fun w h => hts w (uw_c w h)
  have hl : lv_has ls 8 [(0, .ref (ad.1 0 0)), (1, .int day), (2, .int ki), (3, .int ni), (4, .int fi), (5, .int si)] := hl
  have hX := hM.1
  have hA := hX.1
  have hG := hX.2.2
  have hb7 : S 7 0 ≤ 8 := hG.f 7 (mx := 8) (by decide)
  have hb11 : S 11 0 ≤ 20 := hG.f 11 (mx := 20) (by decide)
  have hb18 : S 18 0 ≤ 40 := hG.f 18 (mx := 40) (by decide)
  have hI : XX cA ad S d0 d0 := XX.start hM
  have hb1 : S 1 0 ≤ 4 := hG.f 1 (mx := 4) (by decide)
  have hb19 : S 19 0 ≤ 399 := hG.f 19 (mx := 399) (by decide)
  have hb22 : S 22 0 ≤ 64 := hG.f 22 (mx := 64) (by decide)
  have hb25 : S 25 0 ≤ 4 := hG.f 25 (mx := 4) (by decide)
  have hb30 : S 30 0 ≤ 10 := hG.f 30 (mx := 10) (by decide)
  have hb32 : S 32 0 ≤ 64 := hG.f 32 (mx := 64) (by decide)
  refine lv_iload_n hx hb dX9_flows_0 rfl (lv_at hl 1 rfl) ?_
  refine o_calli (o_runS (As := [.int day]) (rest := []) ⟨hx, hb, hml, hown, hu⟩ (c_X9_isDay l D cA B0 ad hal d0 day) (gS_X9_81 (fun _ h => h)) (n0 := 1) rfl (by decide +kernel) rfl ⟨Nat.le_of_ble_eq_true rfl, Nat.le_of_ble_eq_true rfl⟩ hK hW hB hS hl.1 rfl (lv_room (Nat.le_of_ble_eq_true rfl)) ⟨Nat.zero_le _, Nat.zero_le _⟩ dX9_flows_1) hS (fun r_2 d_1 q_3 H locs hW hS => ?_)
  obtain ⟨rfl, rfl⟩ := q_3
  refine lv_if_eq (tgt := 22) hx hb dX9_flows_4 (by decide) (fun c_4 => ?_) (fun c_4 => ?_)
  · refine lv_iconst (v := -1) hx hb dX9_flows_22 (by decide) ?_
    exact o_iret hx hb hr hlocks hW hS (⟨by simp only [aFlows, bI_z c_4, eq_self, ↓reduceIte, Bool.false_eq_true], by simp only [nFlows, bI_z c_4, eq_self, ↓reduceIte, Bool.false_eq_true]; exact hI.pub hR⟩) dX9_flows_23
  · obtain ⟨dayn, hdayn, rfl⟩ := ix_t (bI_n c_4) (by omega)
    refine lv_iload_n hx hb dX9_flows_7 rfl (lv_at hl 2 rfl) ?_
    refine n_iconst (v := 0) hx hb dX9_flows_8 (by decide) ?_
    refine n_iconst (v := 3) hx hb dX9_flows_9 (by decide) ?_
    refine o_calli (o_runS (As := [.int ki, .int (nI 0), .int (nI 3)]) (rest := []) ⟨hx, hb, hml, hown, hu⟩ (c_X9_within l D cA B0 ad hal d0 ki (nI 0) (nI 3)) (gS_X9_85 (fun _ h => h)) (n0 := 3) rfl (by decide +kernel) rfl ⟨Nat.le_of_ble_eq_true rfl, Nat.le_of_ble_eq_true rfl⟩ hK hW hB hS hl.1 rfl (lv_room (Nat.le_of_ble_eq_true rfl)) ⟨Nat.zero_le _, Nat.zero_le _⟩ dX9_flows_10) hS (fun r_6 d_5 q_7 H locs hW hS => ?_)
    obtain ⟨rfl, rfl⟩ := q_7
    refine n_topi (y := bI (ix ki 4)) (in_ixc 4 rfl (by decide)) ?_
    refine lv_if_eq (tgt := 22) hx hb dX9_flows_13 (by decide) (fun c_8 => ?_) (fun c_8 => ?_)
    · refine lv_iconst (v := -1) hx hb dX9_flows_22 (by decide) ?_
      exact o_iret hx hb hr hlocks hW hS (⟨by simp only [aFlows, ix_nI hdayn (by omega), nx_nI (j := dayn) (by omega), bI_z c_8, eq_self, ↓reduceIte, Bool.false_eq_true], by simp only [nFlows, ix_nI hdayn (by omega), nx_nI (j := dayn) (by omega), bI_z c_8, eq_self, ↓reduceIte, Bool.false_eq_true]; exact hI.pub hR⟩) dX9_flows_23
    · obtain ⟨kin, hkin, rfl⟩ := ix_t (bI_n c_8) (by omega)
      refine lv_iload_n hx hb dX9_flows_16 rfl (lv_at hl 3 rfl) ?_
      refine n_bipush (v := 60) hx hb dX9_flows_17 (by decide) ?_
      refine lv_icmp_le (tgt := 24) hx hb dX9_flows_19 (by decide) (fun c_n => ?_) (fun c_n => ?_)
      · have hn60 : ¬ nI 60 < ni := Int32.not_lt.mpr c_n
        refine lv_iload_n hx hb dX9_flows_24 rfl (lv_at hl 2 rfl) ?_
        refine n_iconst (v := 3) hx hb dX9_flows_25 (by decide) ?_
        refine n_icmp_ne (tgt := 32) hx hb (by omega) (by omega) dX9_flows_26 (by decide) (fun c_k => ?_) (fun c_k => ?_)
        · refine lv_iload_n hx hb dX9_flows_32 rfl (lv_at hl 3 rfl) ?_
          refine lv_if_ge (tgt := 39) hx hb dX9_flows_33 (by decide) (fun c_g => ?_) (fun c_g => ?_)
          · obtain ⟨nn, hnn, rfl⟩ := n_of60 c_n c_g
            have hneg : ¬ nI nn < 0 := Int32.not_lt.mpr c_g
            refine lv_iload hx hb dX9_flows_39 (lv_at hl 4 rfl) ?_
            refine lv_istore (lv' := [(6, .int fi), (0, .ref (ad.1 0 0)), (1, .int (nI dayn)), (2, .int (nI kin)), (3, .int (nI nn)), (4, .int fi), (5, .int si)]) hx hb dX9_flows_41 hl (by decide) rfl (fun ls hl => ?_)
            refine n_iconst (v := 0) hx hb dX9_flows_43 (by decide) ?_
            refine lv_istore (lv' := [(7, .int (nI 0)), (6, .int fi), (0, .ref (ad.1 0 0)), (1, .int (nI dayn)), (2, .int (nI kin)), (3, .int (nI nn)), (4, .int fi), (5, .int si)]) hx hb dX9_flows_44 hl (by decide) rfl (fun ls hl => ?_)
            have lp46 : ∀ (n : Nat) (v : Int32) (k : Nat)  (d : kD) (H : Heap) (locs : List Loc) (ls : Array Slot), nn - k < n → (k ≤ nn) → (v = (flw S dayn kin fi si k).2) → (xD (flw S dayn kin fi si k).1 d) → (FK 1 d0 d) → oW D cA B0 ad d H → va_S (oA B0) s.heap H locs → lv_has ls 8 [(0, .ref (ad.1 0 0)), (1, .int (nI dayn)), (2, .int (nI kin)), (3, .int (nI nn)), (4, .int fi), (5, .int si), (6, .int v), (7, .int (nI k))] → W p l e (oR 5 0 0) s m ([.ref (ad.1 0 0), .int (nI dayn), .int (nI kin), .int (nI nn), .int fi, .int si] : List Value).toArray below meth c H locs 0 0 (MQ below (oQi D cA B0 ad (fun r d1 => r = aFlows S (nI dayn) (nI kin) (nI nn) fi si ∧ PX cA ad (nFlows S (nI dayn) (nI kin) (nI nn) fi si) sr d0 d1)) ([.ref (ad.1 0 0), .int (nI dayn), .int (nI kin), .int (nI nn), .int fi, .int si] : List Value).toArray s 0 0 (oA B0)) (F0 m 46 ls []) := by
              intro n
              induction n with
              | zero => intro v k  d H locs ls hmu; exact absurd hmu (Nat.not_lt_zero _)
              | succ n ih_lp46 =>
                intro v k  d H locs ls hmu hk hv hD hF hW hS hl
                refine lv_iload hx hb dX9_flows_46 (lv_at hl 7 rfl) ?_
                refine lv_iload_n hx hb dX9_flows_48 rfl (lv_at hl 3 rfl) ?_
                refine n_icmp_ge (tgt := 99) hx hb (by omega) (by omega) dX9_flows_49 (by decide) (fun c_e1 => ?_) (fun c_e1 => ?_)
                · have hSe : (flw S dayn kin fi si nn).1 = (flw S dayn kin fi si k).1 := by rw [show k = nn by omega]
                  refine lv_iload_n hx hb dX9_flows_99 rfl (lv_at hl 3 rfl) ?_
                  refine n_if_le (tgt := 108) hx hb (by omega) dX9_flows_100 (by decide) (fun c_p => ?_) (fun c_p => ?_)
                  · have hSe0 : (flw S dayn kin fi si nn).1 = S := by rw [show nn = 0 by omega]; rfl
                    refine lv_iload_n hx hb dX9_flows_108 rfl (lv_at hl 3 rfl) ?_
                    exact o_iret hx hb hr hlocks hW hS (⟨by simp only [aFlows, ix_nI hdayn (by omega), nx_nI (j := dayn) (by omega), ix_nI hkin (by omega), nx_nI (j := kin) (by omega), hn60, c_k, hneg, nx_nI (j := nn) (by omega), eq_self, ↓reduceIte, Bool.false_eq_true], by simp only [nFlows, ix_nI hdayn (by omega), nx_nI (j := dayn) (by omega), ix_nI hkin (by omega), nx_nI (j := kin) (by omega), hn60, c_k, hneg, nx_nI (j := nn) (by omega), eq_self, ↓reduceIte, Bool.false_eq_true]; exact xfl_px (by rw [hSe0]; exact xfl_0 hM hF (by rw [← hSe0, hSe]; exact hD)) hR hF (Fr.refl IF J0 _)⟩) dX9_flows_109
                  · refine lv_aload_n hx hb dX9_flows_103 rfl (lv_at hl 0 rfl) ?_
                    refine lv_iload_n hx hb dX9_flows_104 rfl (lv_at hl 1 rfl) ?_
                    refine o_callv (o_runV (As := [.int (nI dayn)]) (rest := []) ⟨hx, hb, hml, hown, hu⟩ (c_X9_forgetFrom l D cA B0 ad hal ((flw S dayn kin fi si nn).1) d (⟨xfl_al hX.1 dayn kin fi si nn, by rw [hSe]; exact hD, flw_g hG dayn kin fi si nn⟩) dayn (by omega) (xfl_pf hM hF dayn kin fi si nn) (xfl_lf hM hF dayn kin fi si nn) (xfl_z hM hF dayn kin fi si nn)) (gV_X9_101 (fun _ h => h)) (n0 := 1) rfl (by decide +kernel) rfl ⟨Nat.le_of_ble_eq_true rfl, Nat.le_of_ble_eq_true rfl⟩ (o_recv hK hW (hA.o (k := 0) rfl) (kX_0 _ _ _ _) rfl) hK hW hB hS hl.1 rfl (lv_room (Nat.le_of_ble_eq_true rfl)) ⟨Nat.zero_le _, Nat.zero_le _⟩ dX9_flows_105) hS (fun d_9 q_11 H locs hW hS => ?_)
                    obtain ⟨hM2, hFr2⟩ := q_11
                    refine lv_iload_n hx hb dX9_flows_108 rfl (lv_at hl 3 rfl) ?_
                    exact o_iret hx hb hr hlocks hW hS (⟨by simp only [aFlows, ix_nI hdayn (by omega), nx_nI (j := dayn) (by omega), ix_nI hkin (by omega), nx_nI (j := kin) (by omega), hn60, c_k, hneg, nx_nI (j := nn) (by omega), eq_self, ↓reduceIte, Bool.false_eq_true], by simp only [nFlows, ix_nI hdayn (by omega), nx_nI (j := dayn) (by omega), ix_nI hkin (by omega), nx_nI (j := kin) (by omega), hn60, c_k, hneg, nx_nI (j := nn) (by omega), eq_self, ↓reduceIte, Bool.false_eq_true]; exact xfl_px hM2 hR hF hFr2⟩) dX9_flows_109
                · refine lv_iload_n hx hb dX9_flows_52 rfl (lv_at hl 1 rfl) ?_
                  refine lv_iload hx hb dX9_flows_53 (lv_at hl 7 rfl) ?_
                  refine n_iadd hx hb dX9_flows_55 ?_
                  refine n_sipush (v := 400) hx hb dX9_flows_56 (by decide) ?_
                  refine n_icmp_ge (tgt := 99) hx hb (by omega) (by omega) dX9_flows_59 (by decide) (fun c_e2 => ?_) (fun c_e2 => ?_)
                  · have hSe : (flw S dayn kin fi si nn).1 = (flw S dayn kin fi si k).1 := flw_stop (by omega) nn hk
                    refine lv_iload_n hx hb dX9_flows_99 rfl (lv_at hl 3 rfl) ?_
                    refine n_if_le (tgt := 108) hx hb (by omega) dX9_flows_100 (by decide) (fun c_p => ?_) (fun c_p => ?_)
                    · have hSe0 : (flw S dayn kin fi si nn).1 = S := by rw [show nn = 0 by omega]; rfl
                      refine lv_iload_n hx hb dX9_flows_108 rfl (lv_at hl 3 rfl) ?_
                      exact o_iret hx hb hr hlocks hW hS (⟨by simp only [aFlows, ix_nI hdayn (by omega), nx_nI (j := dayn) (by omega), ix_nI hkin (by omega), nx_nI (j := kin) (by omega), hn60, c_k, hneg, nx_nI (j := nn) (by omega), eq_self, ↓reduceIte, Bool.false_eq_true], by simp only [nFlows, ix_nI hdayn (by omega), nx_nI (j := dayn) (by omega), ix_nI hkin (by omega), nx_nI (j := kin) (by omega), hn60, c_k, hneg, nx_nI (j := nn) (by omega), eq_self, ↓reduceIte, Bool.false_eq_true]; exact xfl_px (by rw [hSe0]; exact xfl_0 hM hF (by rw [← hSe0, hSe]; exact hD)) hR hF (Fr.refl IF J0 _)⟩) dX9_flows_109
                    · refine lv_aload_n hx hb dX9_flows_103 rfl (lv_at hl 0 rfl) ?_
                      refine lv_iload_n hx hb dX9_flows_104 rfl (lv_at hl 1 rfl) ?_
                      refine o_callv (o_runV (As := [.int (nI dayn)]) (rest := []) ⟨hx, hb, hml, hown, hu⟩ (c_X9_forgetFrom l D cA B0 ad hal ((flw S dayn kin fi si nn).1) d (⟨xfl_al hX.1 dayn kin fi si nn, by rw [hSe]; exact hD, flw_g hG dayn kin fi si nn⟩) dayn (by omega) (xfl_pf hM hF dayn kin fi si nn) (xfl_lf hM hF dayn kin fi si nn) (xfl_z hM hF dayn kin fi si nn)) (gV_X9_101 (fun _ h => h)) (n0 := 1) rfl (by decide +kernel) rfl ⟨Nat.le_of_ble_eq_true rfl, Nat.le_of_ble_eq_true rfl⟩ (o_recv hK hW (hA.o (k := 0) rfl) (kX_0 _ _ _ _) rfl) hK hW hB hS hl.1 rfl (lv_room (Nat.le_of_ble_eq_true rfl)) ⟨Nat.zero_le _, Nat.zero_le _⟩ dX9_flows_105) hS (fun d_12 q_14 H locs hW hS => ?_)
                      obtain ⟨hM2, hFr2⟩ := q_14
                      refine lv_iload_n hx hb dX9_flows_108 rfl (lv_at hl 3 rfl) ?_
                      exact o_iret hx hb hr hlocks hW hS (⟨by simp only [aFlows, ix_nI hdayn (by omega), nx_nI (j := dayn) (by omega), ix_nI hkin (by omega), nx_nI (j := kin) (by omega), hn60, c_k, hneg, nx_nI (j := nn) (by omega), eq_self, ↓reduceIte, Bool.false_eq_true], by simp only [nFlows, ix_nI hdayn (by omega), nx_nI (j := dayn) (by omega), ix_nI hkin (by omega), nx_nI (j := kin) (by omega), hn60, c_k, hneg, nx_nI (j := nn) (by omega), eq_self, ↓reduceIte, Bool.false_eq_true]; exact xfl_px hM2 hR hF hFr2⟩) dX9_flows_109
                  · refine lv_aload_n hx hb dX9_flows_62 rfl (lv_at hl 0 rfl) ?_
                    refine x_gr hx hb hu in_X9 hown hK hW (hA.o (k := 0) rfl) (kX_0 _ _ _ _) rfl 0 (by decide) uF_X9_9 (hA.f 0 (k := 1) (i := 0) (by decide) (hA.o (k := 1) rfl)) dX9_flows_63 ?_
                    refine lv_iload_n hx hb dX9_flows_66 rfl (lv_at hl 1 rfl) ?_
                    refine lv_iload hx hb dX9_flows_67 (lv_at hl 7 rfl) ?_
                    refine n_iadd hx hb dX9_flows_69 ?_
                    refine n_iconst (v := 0) hx hb dX9_flows_70 (by decide) ?_
                    refine n_bipush (v := 99) hx hb dX9_flows_71 (by decide) ?_
                    refine lv_iload hx hb dX9_flows_73 (lv_at hl 6 rfl) ?_
                    refine lv_iload_n hx hb dX9_flows_75 rfl (lv_at hl 2 rfl) ?_
                    refine o_calli (o_runS (As := [.int v, .int (nI kin)]) (rest := [.int (nI 99), .int (nI 0), .int (nI (dayn + k)), .ref (ad.1 1 0)]) ⟨hx, hb, hml, hown, hu⟩ (c_X9_asSheetHolds l D cA B0 ad hal d v kin (by omega)) (gS_X9_89 (fun _ h => h)) (n0 := 2) rfl (by decide +kernel) rfl ⟨Nat.le_of_ble_eq_true rfl, Nat.le_of_ble_eq_true rfl⟩ hK hW hB hS hl.1 rfl (lv_room (Nat.le_of_ble_eq_true rfl)) ⟨Nat.zero_le _, Nat.zero_le _⟩ dX9_flows_76) hS (fun r_16 d_15 q_17 H locs hW hS => ?_)
                    obtain ⟨rfl, rfl⟩ := q_17
                    refine va_mmin hx hb (hml.trans hl.1.symm) hown (hu _ uM_X9_93) (hu _ uT_J9_min_7cf53) (hu _ uI_J9) (hu _ uC_J9_min_7cf53) (Nat.le_of_ble_eq_true rfl) (Nat.le_of_ble_eq_true rfl) (Nat.le_of_ble_eq_true rfl) (Nat.le_of_ble_eq_true rfl) dX9_flows_79 ?_
                    refine va_mmax hx hb (hml.trans hl.1.symm) hown (hu _ uM_X9_98) (hu _ uT_J9_max_7cf53) (hu _ uI_J9) (hu _ uC_J9_max_7cf53) (Nat.le_of_ble_eq_true rfl) (Nat.le_of_ble_eq_true rfl) (Nat.le_of_ble_eq_true rfl) (Nat.le_of_ble_eq_true rfl) dX9_flows_82 ?_
                    refine n_topi (y := nI (clip (shv kin v))) (clip_eq _) ?_
                    refine x_is hx hb hK hW hS (hA.o (k := 1) rfl) (kI_1 _ _ _ _) (by decide) (by omega) dX9_flows_85 (fun H locs hW hS => ?_)
                    have hD2 := hD.flw (dayn + k) (clip (shv kin v))
                    have hF2 := hF.st (dayn + k) (nI (clip (shv kin v)))
                    refine lv_iload hx hb dX9_flows_86 (lv_at hl 6 rfl) ?_
                    refine lv_iload hx hb dX9_flows_88 (lv_at hl 5 rfl) ?_
                    refine lv_iadd hx hb dX9_flows_90 ?_
                    refine lv_istore (lv' := [(6, .int (v + si)), (0, .ref (ad.1 0 0)), (1, .int (nI dayn)), (2, .int (nI kin)), (3, .int (nI nn)), (4, .int fi), (5, .int si), (7, .int (nI k))]) hx hb dX9_flows_91 hl (by decide) rfl (fun ls hl => ?_)
                    refine n_iinc (q := 1) (lv' := [(7, .int (nI (k + 1))), (6, .int (v + si)), (0, .ref (ad.1 0 0)), (1, .int (nI dayn)), (2, .int (nI kin)), (3, .int (nI nn)), (4, .int fi), (5, .int si)]) hx hb dX9_flows_93 hl (k := 7) rfl (by decide) (by decide) rfl (fun ls hl => ?_)
                    refine lv_goto (tgt := 46) hx hb dX9_flows_96 (by decide) ?_
                    exact ih_lp46 (v + si) (k + 1) (uI d 1 0 (dayn + k) (nI (clip (shv kin v)))) _ _ ls (by omega) (by omega) (by rw [hv]; rfl) (by show xD (if dayn + k < 400 then upS (flw S dayn kin fi si k).1 0 (dayn + k) (clip (shv kin (flw S dayn kin fi si k).2)) else (flw S dayn kin fi si k).1) _; rw [if_pos (by omega), ← hv]; exact hD2) hF2 hW hS (lv_sub hl [2, 3, 4, 5, 6, 7, 1, 0] rfl)
            exact lp46 (nn + 1) fi 0 d0 _ _ ls (by omega) (by omega) rfl hX.2.1 (FK.refl 1 d0) hW hS (lv_sub hl [2, 3, 4, 5, 6, 7, 1, 0] rfl)
          · have hneg : ni < 0 := Int32.not_le.mp c_g
            refine lv_bipush (v := -2) hx hb dX9_flows_36 (by decide) ?_
            exact o_iret hx hb hr hlocks hW hS (⟨by simp only [aFlows, ix_nI hdayn (by omega), nx_nI (j := dayn) (by omega), ix_nI hkin (by omega), nx_nI (j := kin) (by omega), hn60, c_k, hneg, eq_self, ↓reduceIte, Bool.false_eq_true], by simp only [nFlows, ix_nI hdayn (by omega), nx_nI (j := dayn) (by omega), ix_nI hkin (by omega), nx_nI (j := kin) (by omega), hn60, c_k, hneg, eq_self, ↓reduceIte, Bool.false_eq_true]; exact hI.pub hR⟩) dX9_flows_38
        · refine lv_bipush (v := -3) hx hb dX9_flows_29 (by decide) ?_
          exact o_iret hx hb hr hlocks hW hS (⟨by simp only [aFlows, ix_nI hdayn (by omega), nx_nI (j := dayn) (by omega), ix_nI hkin (by omega), nx_nI (j := kin) (by omega), hn60, eq_self, ↓reduceIte, Bool.false_eq_true]; rw [if_pos (by omega)], by simp only [nFlows, ix_nI hdayn (by omega), nx_nI (j := dayn) (by omega), ix_nI hkin (by omega), nx_nI (j := kin) (by omega), hn60, eq_self, ↓reduceIte, Bool.false_eq_true]; rw [if_pos (by omega)]; exact hI.pub hR⟩) dX9_flows_31
      · have hn60 : nI 60 < ni := Int32.not_le.mp c_n
        refine lv_iconst (v := -1) hx hb dX9_flows_22 (by decide) ?_
        exact o_iret hx hb hr hlocks hW hS (⟨by simp only [aFlows, ix_nI hdayn (by omega), nx_nI (j := dayn) (by omega), ix_nI hkin (by omega), nx_nI (j := kin) (by omega), hn60, eq_self, ↓reduceIte, Bool.false_eq_true], by simp only [nFlows, ix_nI hdayn (by omega), nx_nI (j := dayn) (by omega), ix_nI hkin (by omega), nx_nI (j := kin) (by omega), hn60, eq_self, ↓reduceIte, Bool.false_eq_true]; exact hI.pub hR⟩) dX9_flows_23
