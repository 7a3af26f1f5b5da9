set_option maxHeartbeats 400000 in
set_option maxRecDepth 100000 in
theorem c_X10_run (l : Launch) (D : va_G) (cA : Nat → ClassId) (B0 : Nat) (ad : kA) (hal : mAl ad) (S : sS) (sr : Nat → Int32) (d0 : kD) (hM : InvM S d0) (hR : RowM S sr d0) (bi fr to si : Int32) : oM l yX10_run wX10_run 11 0 0 D cA B0 ad d0 ([.ref (ad.1 40 0), .int bi, .int fr, .int to, .int si] : List Value) (oQi D cA B0 ad (fun r d1 => r = aRun S bi fr to si ∧ PI (nRun S bi fr to si) (rRun S sr bi fr to si) d0 d1)) := by
  refine o_ofW (cc := cX10_run) (maxL := 5) (ret := some .int) (by decide) rfl (Nat.le_of_ble_eq_true rfl) ?_
  intro p e s m below meth c hx hb hr hml hts hown hlocks hnm hK hW hB hS ls hl
  have hu : ∀ w ∈ UW, w.before _ s = true := fun w h => hts w (uw_c w h)
  have hl : lv_has ls 5 [(0, .ref (ad.1 40 0)), (1, .int bi), (2, .int fr), (3, .int to), (4, .int si)] := hl
  refine lv_aload_n hx hb dX10_run_0 rfl (lv_at hl 0 rfl) ?_
  refine n_iconst (v := 0) hx hb dX10_run_1 (by decide) ?_
  refine mo_pi hx hb hu hown hK hal hW hS 33 (by decide +kernel) uF_X10_113 dX10_run_2 (fun H locs hW hS => ?_)
  have hI : MI S (uI d0 40 0 33 (nI 0)) (uI d0 40 0 33 (nI 0)) := MI.start (hM.thr 33 _ rfl)
  have hG : sG S := hM.2.1
  have hb1 : S 1 0 ≤ 4 := hG.f 1 (mx := 4) (by decide)
  have hb7 : S 7 0 ≤ 8 := hG.f 7 (mx := 8) (by decide)
  have hb11 : S 11 0 ≤ 20 := hG.f 11 (mx := 20) (by decide)
  have hb18 : S 18 0 ≤ 40 := hG.f 18 (mx := 40) (by decide)
  have hb19 : S 19 0 ≤ 399 := hG.f 19 (mx := 399) (by decide)
  have hb22 : S 22 0 ≤ 64 := hG.f 22 (mx := 64) (by decide)
  have hb25 : S 25 0 ≤ 4 := hG.f 25 (mx := 4) (by decide)
  have hb30 : S 30 0 ≤ 10 := hG.f 30 (mx := 10) (by decide)
  have hb32 : S 32 0 ≤ 64 := hG.f 32 (mx := 64) (by decide)
  refine lv_aload_n hx hb dX10_run_5 rfl (lv_at hl 0 rfl) ?_
  refine lv_iload_n hx hb dX10_run_6 rfl (lv_at hl 1 rfl) ?_
  refine o_calli (o_runV (As := [.int bi]) (rest := []) ⟨hx, hb, hml, hown, hu⟩ (c_X10_isBridge l D cA B0 ad hal S (uI d0 40 0 33 (nI 0)) hI.dS hG bi ) (gV_X10_278 (fun _ h => h)) (n0 := 1) rfl (by decide +kernel) rfl ⟨Nat.le_of_ble_eq_true rfl, Nat.le_of_ble_eq_true rfl⟩ (o_recv hK hW hal.1 (kC_M _ _ _) rfl) hK hW hB hS hl.1 rfl (lv_room (Nat.le_of_ble_eq_true rfl)) ⟨Nat.zero_le _, Nat.zero_le _⟩ dX10_run_7) hS (fun r_2 d_1 q_3 H locs hW hS => ?_)
  obtain ⟨rfl, rfl⟩ := q_3
  refine lv_if_eq (tgt := 30) hx hb dX10_run_10 (by decide) (fun c_4 => ?_) (fun c_4 => ?_)
  · refine lv_iconst (v := -1) hx hb dX10_run_30 (by decide) ?_
    exact o_iret hx hb hr hlocks hW hS (⟨by simp only [aRun, bI_z c_4, eq_self, ↓reduceIte, Bool.false_eq_true], by simp only [nRun, rRun, bI_z c_4, eq_self, ↓reduceIte, Bool.false_eq_true]; exact hI.pub hR⟩) dX10_run_31
  · obtain ⟨bin, hbin, rfl⟩ := ix_t (bI_n c_4) (by omega)
    refine lv_aload_n hx hb dX10_run_13 rfl (lv_at hl 0 rfl) ?_
    refine lv_iload_n hx hb dX10_run_14 rfl (lv_at hl 2 rfl) ?_
    refine lv_iload_n hx hb dX10_run_15 rfl (lv_at hl 3 rfl) ?_
    refine o_calli (o_runV (As := [.int fr, .int to]) (rest := []) ⟨hx, hb, hml, hown, hu⟩ (c_X10_isSpan l D cA B0 ad hal S (uI d0 40 0 33 (nI 0)) hI.dS hG fr to ) (gV_X10_296 (fun _ h => h)) (n0 := 2) rfl (by decide +kernel) rfl ⟨Nat.le_of_ble_eq_true rfl, Nat.le_of_ble_eq_true rfl⟩ (o_recv hK hW hal.1 (kC_M _ _ _) rfl) hK hW hB hS hl.1 rfl (lv_room (Nat.le_of_ble_eq_true rfl)) ⟨Nat.zero_le _, Nat.zero_le _⟩ dX10_run_16) hS (fun r_6 d_5 q_7 H locs hW hS => ?_)
    obtain ⟨rfl, rfl⟩ := q_7
    refine lv_if_eq (tgt := 30) hx hb dX10_run_19 (by decide) (fun c_p => ?_) (fun c_p => ?_)
    · refine lv_iconst (v := -1) hx hb dX10_run_30 (by decide) ?_
      exact o_iret hx hb hr hlocks hW hS (⟨by simp only [aRun, ix_nI hbin (by omega), nx_nI (j := bin) (by omega), bI_z c_p, eq_self, ↓reduceIte, Bool.false_eq_true], by simp only [nRun, rRun, ix_nI hbin (by omega), nx_nI (j := bin) (by omega), bI_z c_p, eq_self, ↓reduceIte, Bool.false_eq_true]; exact hI.pub hR⟩) dX10_run_31
    · have hspn := bI_n c_p
      obtain ⟨frn, ton, hfr, hft, hto, hsp6, rfl, rfl⟩ := spn_t hspn
      refine lv_iload hx hb dX10_run_22 (lv_at hl 4 rfl) ?_
      refine o_calli (o_runS (As := [.int si]) (rest := []) ⟨hx, hb, hml, hown, hu⟩ (c_X10_isShare l D cA B0 ad hal (uI d0 40 0 33 (nI 0)) si) (gS_X10_281 (fun _ h => h)) (n0 := 1) rfl (by decide +kernel) rfl ⟨Nat.le_of_ble_eq_true rfl, Nat.le_of_ble_eq_true rfl⟩ hK hW hB hS hl.1 rfl (lv_room (Nat.le_of_ble_eq_true rfl)) ⟨Nat.zero_le _, Nat.zero_le _⟩ dX10_run_24) hS (fun r_9 d_8 q_10 H locs hW hS => ?_)
      obtain ⟨rfl, rfl⟩ := q_10
      refine lv_if_ne (tgt := 32) hx hb dX10_run_27 (by decide) (fun c_11 => ?_) (fun c_11 => ?_)
      · obtain ⟨sin, hsin, rfl⟩ := ix_t (bI_n c_11) (by omega)
        refine lv_aload_n hx hb dX10_run_32 rfl (lv_at hl 0 rfl) ?_
        refine lv_iload_n hx hb dX10_run_33 rfl (lv_at hl 1 rfl) ?_
        refine lv_iload_n hx hb dX10_run_34 rfl (lv_at hl 2 rfl) ?_
        refine lv_iload_n hx hb dX10_run_35 rfl (lv_at hl 3 rfl) ?_
        refine lv_iload hx hb dX10_run_36 (lv_at hl 4 rfl) ?_
        refine o_callv (o_runV (As := [.int (nI bin), .int (nI frn), .int (nI ton), .int (nI sin)]) (rest := []) ⟨hx, hb, hml, hown, hu⟩ (c_X10_goDays l D cA B0 ad hal S (uI d0 40 0 33 (nI 0)) hI.1 bin frn ton sin (by omega) (by omega) (by omega) (by omega)) (gV_X10_299 (fun _ h => h)) (n0 := 4) rfl (by decide +kernel) rfl ⟨Nat.le_of_ble_eq_true rfl, Nat.le_of_ble_eq_true rfl⟩ (o_recv hK hW hal.1 (kC_M _ _ _) rfl) hK hW hB hS hl.1 rfl (lv_room (Nat.le_of_ble_eq_true rfl)) ⟨Nat.zero_le _, Nat.zero_le _⟩ dX10_run_38) hS (fun d_12 q_14 H locs hW hS => ?_)
        have hGD := q_14
        have hP := hGD.pi hR
        have hgl := gdL_le S bin sin frn (ton + 1 - frn)
        refine lv_aload_n hx hb dX10_run_41 rfl (lv_at hl 0 rfl) ?_
        refine n_iconst (v := 0) hx hb dX10_run_42 (by decide) ?_
        refine mo_pi hx hb hu hown hK hal hW hS 32 (by decide +kernel) uF_X10_123 dX10_run_43 (fun H locs hW hS => ?_)
        have hP := hP.row0 (fun _ => 0)
        refine lv_aload_n hx hb dX10_run_46 rfl (lv_at hl 0 rfl) ?_
        refine lv_aload_n hx hb dX10_run_47 rfl (lv_at hl 0 rfl) ?_
        refine mo_gr hx hb hu hown hK hal hW 44 (by decide) uF_X10_290 dX10_run_48 ?_
        refine n_topi (y := nI ((gdR S bin frn ton sin).2.1)) (hGD.2.2.2.2.1) ?_
        refine o_callv (o_runV (As := [.int (nI ((gdR S bin frn ton sin).2.1))]) (rest := []) ⟨hx, hb, hml, hown, hu⟩ (c_X10_tell l D cA B0 ad hal (upS S 32 0 0) (uI d_12 40 0 32 (nI 0)) hP.1.1 hP.1.2.1 (nI ((gdR S bin frn ton sin).2.1)) (show 0 < 64 from by omega)) (gV_X10_211 (fun _ h => h)) (n0 := 1) rfl (by decide +kernel) rfl ⟨Nat.le_of_ble_eq_true rfl, Nat.le_of_ble_eq_true rfl⟩ (o_recv hK hW hal.1 (kC_M _ _ _) rfl) hK hW hB hS hl.1 rfl (lv_room (Nat.le_of_ble_eq_true rfl)) ⟨Nat.zero_le _, Nat.zero_le _⟩ dX10_run_51) hS (fun d_15 q_17 H locs hW hS => ?_)
        subst q_17
        have hP := hP.tell (show 0 < 64 from by omega) (nI ((gdR S bin frn ton sin).2.1))
        refine lv_aload_n hx hb dX10_run_54 rfl (lv_at hl 0 rfl) ?_
        refine lv_aload_n hx hb dX10_run_55 rfl (lv_at hl 0 rfl) ?_
        refine mo_gr hx hb hu hown hK hal hW 45 (by decide) uF_X10_293 dX10_run_56 ?_
        refine n_topi (y := nI ((gdR S bin frn ton sin).2.2)) (hGD.2.2.2.2.2) ?_
        refine o_callv (o_runV (As := [.int (nI ((gdR S bin frn ton sin).2.2))]) (rest := []) ⟨hx, hb, hml, hown, hu⟩ (c_X10_tell l D cA B0 ad hal (upS S 32 0 1) (uI (uI (uI d_12 40 0 32 (nI 0)) 81 0 0 (nI ((gdR S bin frn ton sin).2.1))) 40 0 32 (nI (0 + 1))) hP.1.1 hP.1.2.1 (nI ((gdR S bin frn ton sin).2.2)) (show 1 < 64 from by omega)) (gV_X10_211 (fun _ h => h)) (n0 := 1) rfl (by decide +kernel) rfl ⟨Nat.le_of_ble_eq_true rfl, Nat.le_of_ble_eq_true rfl⟩ (o_recv hK hW hal.1 (kC_M _ _ _) rfl) hK hW hB hS hl.1 rfl (lv_room (Nat.le_of_ble_eq_true rfl)) ⟨Nat.zero_le _, Nat.zero_le _⟩ dX10_run_59) hS (fun d_18 q_20 H locs hW hS => ?_)
        subst q_20
        have hP := hP.tell (show 1 < 64 from by omega) (nI ((gdR S bin frn ton sin).2.2))
        refine lv_aload_n hx hb dX10_run_62 rfl (lv_at hl 0 rfl) ?_
        refine lv_aload_n hx hb dX10_run_63 rfl (lv_at hl 0 rfl) ?_
        refine mo_ga hx hb hu hown hK hal hW 24 (by decide) uF_X10_68 dX10_run_64 ?_
        refine lv_iload_n hx hb dX10_run_67 rfl (lv_at hl 1 rfl) ?_
        refine mo_ld hx hb hK hal hW hP.1.1 24 (n := 4) (by decide) (by omega) dX10_run_68 ?_
        have b_21 : S 24 bin ≤ 999 := hG.a 24 bin (n := 4) (mx := 999) (by decide) (by omega)
        refine lv_aload_n hx hb dX10_run_69 rfl (lv_at hl 0 rfl) ?_
        refine mo_gr hx hb hu hown hK hal hW 43 (by decide) uF_X10_287 dX10_run_70 ?_
        refine n_topi (y := nI ((gdR S bin frn ton sin).1)) (hGD.2.2.2.1) ?_
        refine n_imul hx hb dX10_run_73 ?_
        refine o_callv (o_runV (As := [.int (nI ((S 24 bin) * ((gdR S bin frn ton sin).1)))]) (rest := []) ⟨hx, hb, hml, hown, hu⟩ (c_X10_tell l D cA B0 ad hal (upS S 32 0 2) (uI (uI (uI (uI (uI d_12 40 0 32 (nI 0)) 81 0 0 (nI ((gdR S bin frn ton sin).2.1))) 40 0 32 (nI (0 + 1))) 81 0 1 (nI ((gdR S bin frn ton sin).2.2))) 40 0 32 (nI (1 + 1))) hP.1.1 hP.1.2.1 (nI ((S 24 bin) * ((gdR S bin frn ton sin).1))) (show 2 < 64 from by omega)) (gV_X10_211 (fun _ h => h)) (n0 := 1) rfl (by decide +kernel) rfl ⟨Nat.le_of_ble_eq_true rfl, Nat.le_of_ble_eq_true rfl⟩ (o_recv hK hW hal.1 (kC_M _ _ _) rfl) hK hW hB hS hl.1 rfl (lv_room (Nat.le_of_ble_eq_true rfl)) ⟨Nat.zero_le _, Nat.zero_le _⟩ dX10_run_74) hS (fun d_22 q_24 H locs hW hS => ?_)
        subst q_24
        have hP := hP.tell (show 2 < 64 from by omega) (nI ((S 24 bin) * ((gdR S bin frn ton sin).1)))
        refine lv_aload_n hx hb dX10_run_77 rfl (lv_at hl 0 rfl) ?_
        refine mo_gr hx hb hu hown hK hal hW 43 (by decide) uF_X10_287 dX10_run_78 ?_
        refine n_topi (y := nI ((gdR S bin frn ton sin).1)) (hGD.2.2.2.1) ?_
        exact o_iret hx hb hr hlocks hW hS (⟨by simp only [aRun, ix_nI hbin (by omega), nx_nI (j := bin) (by omega), hspn, nx_nI (j := frn) (by omega), nx_nI (j := ton) (by omega), ix_nI hsin (by omega), nx_nI (j := sin) (by omega), eq_self, ↓reduceIte, Bool.false_eq_true], by simp only [nRun, rRun, ix_nI hbin (by omega), nx_nI (j := bin) (by omega), hspn, nx_nI (j := frn) (by omega), nx_nI (j := ton) (by omega), ix_nI hsin (by omega), nx_nI (j := sin) (by omega), eq_self, ↓reduceIte, Bool.false_eq_true]; exact hP⟩) dX10_run_81
      · refine lv_iconst (v := -1) hx hb dX10_run_30 (by decide) ?_
        exact o_iret hx hb hr hlocks hW hS (⟨by simp only [aRun, ix_nI hbin (by omega), nx_nI (j := bin) (by omega), hspn, nx_nI (j := frn) (by omega), nx_nI (j := ton) (by omega), bI_z c_11, eq_self, ↓reduceIte, Bool.false_eq_true], by simp only [nRun, rRun, ix_nI hbin (by omega), nx_nI (j := bin) (by omega), hspn, nx_nI (j := frn) (by omega), nx_nI (j := ton) (by omega), bI_z c_11, eq_self, ↓reduceIte, Bool.false_eq_true]; exact hI.pub hR⟩) dX10_run_31
