set_option maxHeartbeats 400000 in
set_option maxRecDepth 100000 in
theorem c_X10_bridge (l : Launch) (D : va_G) (cA : Nat → ClassId) (B0 : Nat) (ad : kA) (hal : mAl ad) (S : sS) (sr : Nat → Int32) (d0 : kD) (hM : InvM S d0) (hR : RowM S sr d0) (bi ti : Int32) : oM l yX10_bridge wX10_bridge 3 0 0 D cA B0 ad d0 ([.ref (ad.1 40 0), .int bi, .int ti] : List Value) (oQi D cA B0 ad (fun r d1 => r = aBridge S bi ti ∧ PI (nBridge S bi ti) sr d0 d1)) := by
  refine o_ofW (cc := cX10_bridge) (maxL := 3) (ret := some .int) (by decide) rfl (Nat.le_of_ble_eq_true rfl) ?_
  intro p e s m below meth c hx hb hr hml hts hown hlocks hnm hK hW hB hS ls hl
  have hu : ∀ w ∈ UW, w.before _ s = true := fun w h => hts w (uw_c w h)
  have hl : lv_has ls 3 [(0, .ref (ad.1 40 0)), (1, .int bi), (2, .int ti)] := hl
  refine lv_aload_n hx hb dX10_bridge_0 rfl (lv_at hl 0 rfl) ?_
  refine n_iconst (v := 0) hx hb dX10_bridge_1 (by decide) ?_
  refine mo_pi hx hb hu hown hK hal hW hS 33 (by decide +kernel) uF_X10_113 dX10_bridge_2 (fun H locs hW hS => ?_)
  have hD : dS S (uI d0 40 0 33 (nI 0)) := (hM.thr 33 _ rfl).1
  have hG : sG S := hM.2.1
  have hb1 : S 1 0 ≤ 4 := hG.f 1 (mx := 4) (by decide)
  have hb7 : S 7 0 ≤ 8 := hG.f 7 (mx := 8) (by decide)
  have hb11 : S 11 0 ≤ 20 := hG.f 11 (mx := 20) (by decide)
  have hb18 : S 18 0 ≤ 40 := hG.f 18 (mx := 40) (by decide)
  have hb19 : S 19 0 ≤ 399 := hG.f 19 (mx := 399) (by decide)
  have hb22 : S 22 0 ≤ 64 := hG.f 22 (mx := 64) (by decide)
  have hb25 : S 25 0 ≤ 4 := hG.f 25 (mx := 4) (by decide)
  have hb30 : S 30 0 ≤ 10 := hG.f 30 (mx := 10) (by decide)
  have hb32 : S 32 0 ≤ 64 := hG.f 32 (mx := 64) (by decide)
  have hpw := pow8 hb7
  refine lv_iload_n hx hb dX10_bridge_5 rfl (lv_at hl 1 rfl) ?_
  refine n_iconst (v := 1) hx hb dX10_bridge_6 (by decide) ?_
  refine n_iconst (v := 1) hx hb dX10_bridge_7 (by decide) ?_
  refine lv_aload_n hx hb dX10_bridge_8 rfl (lv_at hl 0 rfl) ?_
  refine mo_gi hx hb hu hown hK hal hW hD 7 (by decide) uF_X10_116 dX10_bridge_9 ?_
  have b_1 : S 7 0 ≤ 8 := hG.f 7 (mx := 8) (by decide)
  refine lv_ishl hx hb dX10_bridge_12 ?_
  refine n_topi (y := nI (2 ^ S 7 0)) (shl1 hb7) ?_
  refine n_iconst (v := 1) hx hb dX10_bridge_13 (by decide) ?_
  refine n_isub hx hb (by omega) dX10_bridge_14 ?_
  refine o_calli (o_runS (As := [.int bi, .int (nI 1), .int (nI ((2 ^ S 7 0) - 1))]) (rest := []) ⟨hx, hb, hml, hown, hu⟩ (c_X10_in l D cA B0 ad hal (uI d0 40 0 33 (nI 0)) bi (nI 1) (nI ((2 ^ S 7 0) - 1))) (gS_X10_119 (fun _ h => h)) (n0 := 3) rfl (by decide +kernel) rfl ⟨Nat.le_of_ble_eq_true rfl, Nat.le_of_ble_eq_true rfl⟩ hK hW hB hS hl.1 rfl (lv_room (Nat.le_of_ble_eq_true rfl)) ⟨Nat.zero_le _, Nat.zero_le _⟩ dX10_bridge_15) hS (fun r_3 d_2 q_4 H locs hW hS => ?_)
  obtain ⟨rfl, rfl⟩ := q_4
  refine n_topi (y := bI (rx bi 1 ((2 ^ S 7 0) - 1))) (in_rx (by omega) (by omega)) ?_
  refine lv_if_eq (tgt := 40) hx hb dX10_bridge_18 (by decide) (fun c_5 => ?_) (fun c_5 => ?_)
  · refine lv_iconst (v := -1) hx hb dX10_bridge_40 (by decide) ?_
    exact o_iret hx hb hr hlocks hW hS (⟨by first | (simp only [aBridge, bI_z c_5, eq_self, ↓reduceIte, Bool.false_eq_true]; done) | (simp only [aBridge, bI_z c_5, eq_self, ↓reduceIte, Bool.false_eq_true]; rfl), by rw [show nBridge S bi ti = S from by first | (simp only [nBridge, bI_z c_5, eq_self, ↓reduceIte, Bool.false_eq_true]; done) | (simp only [nBridge, bI_z c_5, eq_self, ↓reduceIte, Bool.false_eq_true]; rfl)]; exact (MI.start (hM.thr 33 _ rfl)).pub hR⟩) dX10_bridge_41
  · obtain ⟨bin, hbina, hbin, rfl⟩ := rx_t (bI_n c_5) (by omega)
    refine lv_iload_n hx hb dX10_bridge_21 rfl (lv_at hl 2 rfl) ?_
    refine n_iconst (v := 0) hx hb dX10_bridge_22 (by decide) ?_
    refine n_sipush (v := 999) hx hb dX10_bridge_23 (by decide) ?_
    refine o_calli (o_runS (As := [.int ti, .int (nI 0), .int (nI 999)]) (rest := []) ⟨hx, hb, hml, hown, hu⟩ (c_X10_in l D cA B0 ad hal (uI d0 40 0 33 (nI 0)) ti (nI 0) (nI 999)) (gS_X10_119 (fun _ h => h)) (n0 := 3) rfl (by decide +kernel) rfl ⟨Nat.le_of_ble_eq_true rfl, Nat.le_of_ble_eq_true rfl⟩ hK hW hB hS hl.1 rfl (lv_room (Nat.le_of_ble_eq_true rfl)) ⟨Nat.zero_le _, Nat.zero_le _⟩ dX10_bridge_26) hS (fun r_7 d_6 q_8 H locs hW hS => ?_)
    obtain ⟨rfl, rfl⟩ := q_8
    refine n_topi (y := bI (ix ti 1000)) (in_ixc 1000 rfl (by decide)) ?_
    refine lv_if_eq (tgt := 40) hx hb dX10_bridge_29 (by decide) (fun c_9 => ?_) (fun c_9 => ?_)
    · refine lv_iconst (v := -1) hx hb dX10_bridge_40 (by decide) ?_
      exact o_iret hx hb hr hlocks hW hS (⟨by first | (simp only [aBridge, rx_nI hbina hbin (by omega), nx_nI (j := bin) (by omega), bI_z c_9, eq_self, ↓reduceIte, Bool.false_eq_true]; done) | (simp only [aBridge, rx_nI hbina hbin (by omega), nx_nI (j := bin) (by omega), bI_z c_9, eq_self, ↓reduceIte, Bool.false_eq_true]; rfl), by rw [show nBridge S (nI bin) ti = S from by first | (simp only [nBridge, rx_nI hbina hbin (by omega), nx_nI (j := bin) (by omega), bI_z c_9, eq_self, ↓reduceIte, Bool.false_eq_true]; done) | (simp only [nBridge, rx_nI hbina hbin (by omega), nx_nI (j := bin) (by omega), bI_z c_9, eq_self, ↓reduceIte, Bool.false_eq_true]; rfl)]; exact (MI.start (hM.thr 33 _ rfl)).pub hR⟩) dX10_bridge_41
    · obtain ⟨tin, htin, rfl⟩ := ix_t (bI_n c_9) (by omega)
      refine lv_aload_n hx hb dX10_bridge_32 rfl (lv_at hl 0 rfl) ?_
      refine mo_gi hx hb hu hown hK hal hW hD 25 (by decide) uF_X10_275 dX10_bridge_33 ?_
      have b_10 : S 25 0 ≤ 4 := hG.f 25 (mx := 4) (by decide)
      refine n_iconst (v := 4) hx hb dX10_bridge_36 (by decide) ?_
      refine n_icmp_ne (tgt := 42) hx hb (by omega) (by omega) dX10_bridge_37 (by decide) (fun c_11 => ?_) (fun c_11 => ?_)
      · refine lv_aload_n hx hb dX10_bridge_42 rfl (lv_at hl 0 rfl) ?_
        refine mo_ga hx hb hu hown hK hal hW 23 (by decide) uF_X10_65 dX10_bridge_43 ?_
        refine lv_aload_n hx hb dX10_bridge_46 rfl (lv_at hl 0 rfl) ?_
        refine mo_gi hx hb hu hown hK hal hW hD 25 (by decide) uF_X10_275 dX10_bridge_47 ?_
        have b_12 : S 25 0 ≤ 4 := hG.f 25 (mx := 4) (by decide)
        refine lv_iload_n hx hb dX10_bridge_50 rfl (lv_at hl 1 rfl) ?_
        refine mo_st hx hb hK hal hW hS 23 (n := 4) (by decide) (by omega) dX10_bridge_51 (fun H locs hW hS => ?_)
        have hD := hD.put 23 (S 25 0) bin (n := 4) rfl (by omega)
        refine lv_aload_n hx hb dX10_bridge_52 rfl (lv_at hl 0 rfl) ?_
        refine mo_ga hx hb hu hown hK hal hW 24 (by decide) uF_X10_68 dX10_bridge_53 ?_
        refine lv_aload_n hx hb dX10_bridge_56 rfl (lv_at hl 0 rfl) ?_
        refine mo_gi hx hb hu hown hK hal hW hD 25 (by decide) uF_X10_275 dX10_bridge_57 ?_
        refine n_top (b := S 25 0) rfl ?_
        refine lv_iload_n hx hb dX10_bridge_60 rfl (lv_at hl 2 rfl) ?_
        refine mo_st hx hb hK hal hW hS 24 (n := 4) (by decide) (by omega) dX10_bridge_61 (fun H locs hW hS => ?_)
        have hD := hD.put 24 (S 25 0) tin (n := 4) rfl (by omega)
        refine lv_aload_n hx hb dX10_bridge_62 rfl (lv_at hl 0 rfl) ?_
        refine lv_dup hx hb dX10_bridge_63 rfl ?_
        refine mo_gi hx hb hu hown hK hal hW hD 25 (by decide) uF_X10_275 dX10_bridge_64 ?_
        refine n_top (b := S 25 0) rfl ?_
        refine n_iconst (v := 1) hx hb dX10_bridge_67 (by decide) ?_
        refine n_iadd hx hb dX10_bridge_68 ?_
        refine mo_pi hx hb hu hown hK hal hW hS 25 (by decide +kernel) uF_X10_275 dX10_bridge_69 (fun H locs hW hS => ?_)
        have hD := hD.putF 25 ((S 25 0) + 1) rfl
        refine lv_aload_n hx hb dX10_bridge_72 rfl (lv_at hl 0 rfl) ?_
        refine mo_gi hx hb hu hown hK hal hW hD 25 (by decide) uF_X10_275 dX10_bridge_73 ?_
        refine n_top (b := (S 25 0) + 1) rfl ?_
        refine n_iconst (v := 1) hx hb dX10_bridge_76 (by decide) ?_
        refine n_isub hx hb (by omega) dX10_bridge_77 ?_
        exact o_iret hx hb hr hlocks hW hS (⟨by first | (simp only [aBridge, rx_nI hbina hbin (by omega), nx_nI (j := bin) (by omega), ix_nI htin (by omega), nx_nI (j := tin) (by omega), c_11, eq_self, ↓reduceIte, Bool.false_eq_true]; done) | (simp only [aBridge, rx_nI hbina hbin (by omega), nx_nI (j := bin) (by omega), ix_nI htin (by omega), nx_nI (j := tin) (by omega), c_11, eq_self, ↓reduceIte, Bool.false_eq_true]; rfl), by rw [show nBridge S (nI bin) (nI tin) = upS (upS (upS S 23 (S 25 0) bin) 24 (S 25 0) tin) 25 0 ((S 25 0) + 1) from by first | (simp only [nBridge, rx_nI hbina hbin (by omega), nx_nI (j := bin) (by omega), ix_nI htin (by omega), nx_nI (j := tin) (by omega), c_11, eq_self, ↓reduceIte, Bool.false_eq_true]; done) | (simp only [nBridge, rx_nI hbina hbin (by omega), nx_nI (j := bin) (by omega), ix_nI htin (by omega), nx_nI (j := tin) (by omega), c_11, eq_self, ↓reduceIte, Bool.false_eq_true]; rfl)]; exact ⟨hM.chg hD ((((hG.b.up 23 _ (mx := 255) rfl (by omega)).up 24 _ (mx := 999) rfl (by omega)).up 25 0 (mx := 4) rfl (by omega)).g ⟨hG.2.2.1, hG.2.2.2.1, hG.2.2.2.2.1, hG.2.2.2.2.2.1, fun k hk => up_lt (f := 23) (g := S 23) (m := 2 ^ S 7 0) (by omega) (fun hk => hG.2.2.2.2.2.2 k hk) hk⟩) rfl rfl rfl rfl rfl (fun p hp m n => sHE_cg (S := S) (S' := upS (upS (upS S 23 (S 25 0) bin) 24 (S 25 0) tin) 25 0 ((S 25 0) + 1)) rfl rfl rfl rfl rfl rfl rfl m n) (fun l hl => ⟨rfl, rfl, rfl, rfl⟩) (Nat.le_refl _) (Nat.le_refl _), hR, (((((FrP.refl d0).stI _ _ _ _ (by omega)).stI _ _ _ _ (by omega)).stI _ _ _ _ (by omega)).stI _ _ _ _ (by omega))⟩⟩) dX10_bridge_78
      · refine lv_iconst (v := -1) hx hb dX10_bridge_40 (by decide) ?_
        exact o_iret hx hb hr hlocks hW hS (⟨by first | (simp only [aBridge, rx_nI hbina hbin (by omega), nx_nI (j := bin) (by omega), ix_nI htin (by omega), nx_nI (j := tin) (by omega), c_11, eq_self, ↓reduceIte, Bool.false_eq_true]; done) | (simp only [aBridge, rx_nI hbina hbin (by omega), nx_nI (j := bin) (by omega), ix_nI htin (by omega), nx_nI (j := tin) (by omega), c_11, eq_self, ↓reduceIte, Bool.false_eq_true]; rfl), by rw [show nBridge S (nI bin) (nI tin) = S from by first | (simp only [nBridge, rx_nI hbina hbin (by omega), nx_nI (j := bin) (by omega), ix_nI htin (by omega), nx_nI (j := tin) (by omega), c_11, eq_self, ↓reduceIte, Bool.false_eq_true]; done) | (simp only [nBridge, rx_nI hbina hbin (by omega), nx_nI (j := bin) (by omega), ix_nI htin (by omega), nx_nI (j := tin) (by omega), c_11, eq_self, ↓reduceIte, Bool.false_eq_true]; rfl)]; exact (MI.start (hM.thr 33 _ rfl)).pub hR⟩) dX10_bridge_41

set_option maxHeartbeats 400000 in
set_option maxRecDepth 100000 in
theorem c_X10_pier (l : Launch) (D : va_G) (cA : Nat → ClassId) (B0 : Nat) (ad : kA) (hal : mAl ad) (S : sS) (sr : Nat → Int32) (d0 : kD) (hM : InvM S d0) (hR : RowM S sr d0) (bi wi ri fi qi : Int32) : oM l yX10_pier wX10_pier 3 0 0 D cA B0 ad d0 ([.ref (ad.1 40 0), .int bi, .int wi, .int ri, .int fi, .int qi] : List Value) (oQi D cA B0 ad (fun r d1 => r = aPier S bi wi ri fi qi ∧ PI (nPier S bi wi ri fi qi) sr d0 d1)) := by
  refine o_ofW (cc := cX10_pier) (maxL := 6) (ret := some .int) (by decide) rfl (Nat.le_of_ble_eq_true rfl) ?_
  intro p e s m below meth c hx hb hr hml hts hown hlocks hnm hK hW hB hS ls hl
  have hu : ∀ w ∈ UW, w.before _ s = true := fun w h => hts w (uw_c w h)
  have hl : lv_has ls 6 [(0, .ref (ad.1 40 0)), (1, .int bi), (2, .int wi), (3, .int ri), (4, .int fi), (5, .int qi)] := hl
  refine lv_aload_n hx hb dX10_pier_0 rfl (lv_at hl 0 rfl) ?_
  refine n_iconst (v := 0) hx hb dX10_pier_1 (by decide) ?_
  refine mo_pi hx hb hu hown hK hal hW hS 33 (by decide +kernel) uF_X10_113 dX10_pier_2 (fun H locs hW hS => ?_)
  have hD : dS S (uI d0 40 0 33 (nI 0)) := (hM.thr 33 _ rfl).1
  have hG : sG S := hM.2.1
  have hb1 : S 1 0 ≤ 4 := hG.f 1 (mx := 4) (by decide)
  have hb7 : S 7 0 ≤ 8 := hG.f 7 (mx := 8) (by decide)
  have hb11 : S 11 0 ≤ 20 := hG.f 11 (mx := 20) (by decide)
  have hb18 : S 18 0 ≤ 40 := hG.f 18 (mx := 40) (by decide)
  have hb19 : S 19 0 ≤ 399 := hG.f 19 (mx := 399) (by decide)
  have hb22 : S 22 0 ≤ 64 := hG.f 22 (mx := 64) (by decide)
  have hb25 : S 25 0 ≤ 4 := hG.f 25 (mx := 4) (by decide)
  have hb30 : S 30 0 ≤ 10 := hG.f 30 (mx := 10) (by decide)
  have hb32 : S 32 0 ≤ 64 := hG.f 32 (mx := 64) (by decide)
  refine lv_iload_n hx hb dX10_pier_5 rfl (lv_at hl 1 rfl) ?_
  refine n_iconst (v := 0) hx hb dX10_pier_6 (by decide) ?_
  refine lv_aload_n hx hb dX10_pier_7 rfl (lv_at hl 0 rfl) ?_
  refine mo_gi hx hb hu hown hK hal hW hD 1 (by decide) uF_X10_142 dX10_pier_8 ?_
  have b_1 : S 1 0 ≤ 4 := hG.f 1 (mx := 4) (by decide)
  refine n_iconst (v := 1) hx hb dX10_pier_11 (by decide) ?_
  refine lv_isub hx hb dX10_pier_12 ?_
  refine o_calli (o_runS (As := [.int bi, .int (nI 0), .int ((nI (S 1 0)) - (nI 1))]) (rest := []) ⟨hx, hb, hml, hown, hu⟩ (c_X10_in l D cA B0 ad hal (uI d0 40 0 33 (nI 0)) bi (nI 0) ((nI (S 1 0)) - (nI 1))) (gS_X10_119 (fun _ h => h)) (n0 := 3) rfl (by decide +kernel) rfl ⟨Nat.le_of_ble_eq_true rfl, Nat.le_of_ble_eq_true rfl⟩ hK hW hB hS hl.1 rfl (lv_room (Nat.le_of_ble_eq_true rfl)) ⟨Nat.zero_le _, Nat.zero_le _⟩ dX10_pier_13) hS (fun r_3 d_2 q_4 H locs hW hS => ?_)
  obtain ⟨rfl, rfl⟩ := q_4
  refine n_topi (y := bI (ix bi (S 1 0))) (in_ix (by omega)) ?_
  refine lv_if_eq (tgt := 71) hx hb dX10_pier_16 (by decide) (fun c_5 => ?_) (fun c_5 => ?_)
  · refine lv_iconst (v := -1) hx hb dX10_pier_71 (by decide) ?_
    exact o_iret hx hb hr hlocks hW hS (⟨by first | (simp only [aPier, bI_z c_5, eq_self, ↓reduceIte, Bool.false_eq_true]; done) | (simp only [aPier, bI_z c_5, eq_self, ↓reduceIte, Bool.false_eq_true]; rfl), by rw [show nPier S bi wi ri fi qi = S from by first | (simp only [nPier, bI_z c_5, eq_self, ↓reduceIte, Bool.false_eq_true]; done) | (simp only [nPier, bI_z c_5, eq_self, ↓reduceIte, Bool.false_eq_true]; rfl)]; exact (MI.start (hM.thr 33 _ rfl)).pub hR⟩) dX10_pier_72
  · obtain ⟨bin, hbin, rfl⟩ := ix_t (bI_n c_5) (by omega)
    refine lv_iload_n hx hb dX10_pier_19 rfl (lv_at hl 2 rfl) ?_
    refine n_iconst (v := 1) hx hb dX10_pier_20 (by decide) ?_
    refine n_bipush (v := 20) hx hb dX10_pier_21 (by decide) ?_
    refine o_calli (o_runS (As := [.int wi, .int (nI 1), .int (nI 20)]) (rest := []) ⟨hx, hb, hml, hown, hu⟩ (c_X10_in l D cA B0 ad hal (uI d0 40 0 33 (nI 0)) wi (nI 1) (nI 20)) (gS_X10_119 (fun _ h => h)) (n0 := 3) rfl (by decide +kernel) rfl ⟨Nat.le_of_ble_eq_true rfl, Nat.le_of_ble_eq_true rfl⟩ hK hW hB hS hl.1 rfl (lv_room (Nat.le_of_ble_eq_true rfl)) ⟨Nat.zero_le _, Nat.zero_le _⟩ dX10_pier_23) hS (fun r_7 d_6 q_8 H locs hW hS => ?_)
    obtain ⟨rfl, rfl⟩ := q_8
    refine n_topi (y := bI (rx wi 1 20)) (in_rx (by omega) (by omega)) ?_
    refine lv_if_eq (tgt := 71) hx hb dX10_pier_26 (by decide) (fun c_9 => ?_) (fun c_9 => ?_)
    · refine lv_iconst (v := -1) hx hb dX10_pier_71 (by decide) ?_
      exact o_iret hx hb hr hlocks hW hS (⟨by first | (simp only [aPier, ix_nI hbin (by omega), nx_nI (j := bin) (by omega), bI_z c_9, eq_self, ↓reduceIte, Bool.false_eq_true]; done) | (simp only [aPier, ix_nI hbin (by omega), nx_nI (j := bin) (by omega), bI_z c_9, eq_self, ↓reduceIte, Bool.false_eq_true]; rfl), by rw [show nPier S (nI bin) wi ri fi qi = S from by first | (simp only [nPier, ix_nI hbin (by omega), nx_nI (j := bin) (by omega), bI_z c_9, eq_self, ↓reduceIte, Bool.false_eq_true]; done) | (simp only [nPier, ix_nI hbin (by omega), nx_nI (j := bin) (by omega), bI_z c_9, eq_self, ↓reduceIte, Bool.false_eq_true]; rfl)]; exact (MI.start (hM.thr 33 _ rfl)).pub hR⟩) dX10_pier_72
    · obtain ⟨win, hwina, hwin, rfl⟩ := rx_t (bI_n c_9) (by omega)
      refine lv_iload_n hx hb dX10_pier_29 rfl (lv_at hl 3 rfl) ?_
      refine n_iconst (v := 1) hx hb dX10_pier_30 (by decide) ?_
      refine n_sipush (v := 200) hx hb dX10_pier_31 (by decide) ?_
      refine o_calli (o_runS (As := [.int ri, .int (nI 1), .int (nI 200)]) (rest := []) ⟨hx, hb, hml, hown, hu⟩ (c_X10_in l D cA B0 ad hal (uI d0 40 0 33 (nI 0)) ri (nI 1) (nI 200)) (gS_X10_119 (fun _ h => h)) (n0 := 3) rfl (by decide +kernel) rfl ⟨Nat.le_of_ble_eq_true rfl, Nat.le_of_ble_eq_true rfl⟩ hK hW hB hS hl.1 rfl (lv_room (Nat.le_of_ble_eq_true rfl)) ⟨Nat.zero_le _, Nat.zero_le _⟩ dX10_pier_34) hS (fun r_11 d_10 q_12 H locs hW hS => ?_)
      obtain ⟨rfl, rfl⟩ := q_12
      refine n_topi (y := bI (rx ri 1 200)) (in_rx (by omega) (by omega)) ?_
      refine lv_if_eq (tgt := 71) hx hb dX10_pier_37 (by decide) (fun c_13 => ?_) (fun c_13 => ?_)
      · refine lv_iconst (v := -1) hx hb dX10_pier_71 (by decide) ?_
        exact o_iret hx hb hr hlocks hW hS (⟨by first | (simp only [aPier, ix_nI hbin (by omega), nx_nI (j := bin) (by omega), rx_nI hwina hwin (by omega), nx_nI (j := win) (by omega), bI_z c_13, eq_self, ↓reduceIte, Bool.false_eq_true]; done) | (simp only [aPier, ix_nI hbin (by omega), nx_nI (j := bin) (by omega), rx_nI hwina hwin (by omega), nx_nI (j := win) (by omega), bI_z c_13, eq_self, ↓reduceIte, Bool.false_eq_true]; rfl), by rw [show nPier S (nI bin) (nI win) ri fi qi = S from by first | (simp only [nPier, ix_nI hbin (by omega), nx_nI (j := bin) (by omega), rx_nI hwina hwin (by omega), nx_nI (j := win) (by omega), bI_z c_13, eq_self, ↓reduceIte, Bool.false_eq_true]; done) | (simp only [nPier, ix_nI hbin (by omega), nx_nI (j := bin) (by omega), rx_nI hwina hwin (by omega), nx_nI (j := win) (by omega), bI_z c_13, eq_self, ↓reduceIte, Bool.false_eq_true]; rfl)]; exact (MI.start (hM.thr 33 _ rfl)).pub hR⟩) dX10_pier_72
      · obtain ⟨rin, hrina, hrin, rfl⟩ := rx_t (bI_n c_13) (by omega)
        refine lv_iload hx hb dX10_pier_40 (lv_at hl 4 rfl) ?_
        refine n_iconst (v := 0) hx hb dX10_pier_42 (by decide) ?_
        refine n_bipush (v := 99) hx hb dX10_pier_43 (by decide) ?_
        refine o_calli (o_runS (As := [.int fi, .int (nI 0), .int (nI 99)]) (rest := []) ⟨hx, hb, hml, hown, hu⟩ (c_X10_in l D cA B0 ad hal (uI d0 40 0 33 (nI 0)) fi (nI 0) (nI 99)) (gS_X10_119 (fun _ h => h)) (n0 := 3) rfl (by decide +kernel) rfl ⟨Nat.le_of_ble_eq_true rfl, Nat.le_of_ble_eq_true rfl⟩ hK hW hB hS hl.1 rfl (lv_room (Nat.le_of_ble_eq_true rfl)) ⟨Nat.zero_le _, Nat.zero_le _⟩ dX10_pier_45) hS (fun r_15 d_14 q_16 H locs hW hS => ?_)
        obtain ⟨rfl, rfl⟩ := q_16
        refine n_topi (y := bI (ix fi 100)) (in_ixc 100 rfl (by decide)) ?_
        refine lv_if_eq (tgt := 71) hx hb dX10_pier_48 (by decide) (fun c_17 => ?_) (fun c_17 => ?_)
        · refine lv_iconst (v := -1) hx hb dX10_pier_71 (by decide) ?_
          exact o_iret hx hb hr hlocks hW hS (⟨by first | (simp only [aPier, ix_nI hbin (by omega), nx_nI (j := bin) (by omega), rx_nI hwina hwin (by omega), nx_nI (j := win) (by omega), rx_nI hrina hrin (by omega), nx_nI (j := rin) (by omega), bI_z c_17, eq_self, ↓reduceIte, Bool.false_eq_true]; done) | (simp only [aPier, ix_nI hbin (by omega), nx_nI (j := bin) (by omega), rx_nI hwina hwin (by omega), nx_nI (j := win) (by omega), rx_nI hrina hrin (by omega), nx_nI (j := rin) (by omega), bI_z c_17, eq_self, ↓reduceIte, Bool.false_eq_true]; rfl), by rw [show nPier S (nI bin) (nI win) (nI rin) fi qi = S from by first | (simp only [nPier, ix_nI hbin (by omega), nx_nI (j := bin) (by omega), rx_nI hwina hwin (by omega), nx_nI (j := win) (by omega), rx_nI hrina hrin (by omega), nx_nI (j := rin) (by omega), bI_z c_17, eq_self, ↓reduceIte, Bool.false_eq_true]; done) | (simp only [nPier, ix_nI hbin (by omega), nx_nI (j := bin) (by omega), rx_nI hwina hwin (by omega), nx_nI (j := win) (by omega), rx_nI hrina hrin (by omega), nx_nI (j := rin) (by omega), bI_z c_17, eq_self, ↓reduceIte, Bool.false_eq_true]; rfl)]; exact (MI.start (hM.thr 33 _ rfl)).pub hR⟩) dX10_pier_72
        · obtain ⟨fin, hfin, rfl⟩ := ix_t (bI_n c_17) (by omega)
          refine lv_iload hx hb dX10_pier_51 (lv_at hl 5 rfl) ?_
          refine n_iconst (v := 0) hx hb dX10_pier_53 (by decide) ?_
          refine n_bipush (v := 99) hx hb dX10_pier_54 (by decide) ?_
          refine o_calli (o_runS (As := [.int qi, .int (nI 0), .int (nI 99)]) (rest := []) ⟨hx, hb, hml, hown, hu⟩ (c_X10_in l D cA B0 ad hal (uI d0 40 0 33 (nI 0)) qi (nI 0) (nI 99)) (gS_X10_119 (fun _ h => h)) (n0 := 3) rfl (by decide +kernel) rfl ⟨Nat.le_of_ble_eq_true rfl, Nat.le_of_ble_eq_true rfl⟩ hK hW hB hS hl.1 rfl (lv_room (Nat.le_of_ble_eq_true rfl)) ⟨Nat.zero_le _, Nat.zero_le _⟩ dX10_pier_56) hS (fun r_19 d_18 q_20 H locs hW hS => ?_)
          obtain ⟨rfl, rfl⟩ := q_20
          refine n_topi (y := bI (ix qi 100)) (in_ixc 100 rfl (by decide)) ?_
          refine lv_if_eq (tgt := 71) hx hb dX10_pier_59 (by decide) (fun c_21 => ?_) (fun c_21 => ?_)
          · refine lv_iconst (v := -1) hx hb dX10_pier_71 (by decide) ?_
            exact o_iret hx hb hr hlocks hW hS (⟨by first | (simp only [aPier, ix_nI hbin (by omega), nx_nI (j := bin) (by omega), rx_nI hwina hwin (by omega), nx_nI (j := win) (by omega), rx_nI hrina hrin (by omega), nx_nI (j := rin) (by omega), ix_nI hfin (by omega), nx_nI (j := fin) (by omega), bI_z c_21, eq_self, ↓reduceIte, Bool.false_eq_true]; done) | (simp only [aPier, ix_nI hbin (by omega), nx_nI (j := bin) (by omega), rx_nI hwina hwin (by omega), nx_nI (j := win) (by omega), rx_nI hrina hrin (by omega), nx_nI (j := rin) (by omega), ix_nI hfin (by omega), nx_nI (j := fin) (by omega), bI_z c_21, eq_self, ↓reduceIte, Bool.false_eq_true]; rfl), by rw [show nPier S (nI bin) (nI win) (nI rin) (nI fin) qi = S from by first | (simp only [nPier, ix_nI hbin (by omega), nx_nI (j := bin) (by omega), rx_nI hwina hwin (by omega), nx_nI (j := win) (by omega), rx_nI hrina hrin (by omega), nx_nI (j := rin) (by omega), ix_nI hfin (by omega), nx_nI (j := fin) (by omega), bI_z c_21, eq_self, ↓reduceIte, Bool.false_eq_true]; done) | (simp only [nPier, ix_nI hbin (by omega), nx_nI (j := bin) (by omega), rx_nI hwina hwin (by omega), nx_nI (j := win) (by omega), rx_nI hrina hrin (by omega), nx_nI (j := rin) (by omega), ix_nI hfin (by omega), nx_nI (j := fin) (by omega), bI_z c_21, eq_self, ↓reduceIte, Bool.false_eq_true]; rfl)]; exact (MI.start (hM.thr 33 _ rfl)).pub hR⟩) dX10_pier_72
          · obtain ⟨qin, hqin, rfl⟩ := ix_t (bI_n c_21) (by omega)
            refine lv_aload_n hx hb dX10_pier_62 rfl (lv_at hl 0 rfl) ?_
            refine mo_gi hx hb hu hown hK hal hW hD 7 (by decide) uF_X10_116 dX10_pier_63 ?_
            have b_22 : S 7 0 ≤ 8 := hG.f 7 (mx := 8) (by decide)
            refine n_bipush (v := 8) hx hb dX10_pier_66 (by decide) ?_
            refine n_icmp_ne (tgt := 73) hx hb (by omega) (by omega) dX10_pier_68 (by decide) (fun c_23 => ?_) (fun c_23 => ?_)
            · refine lv_aload_n hx hb dX10_pier_73 rfl (lv_at hl 0 rfl) ?_
              refine mo_ga hx hb hu hown hK hal hW 2 (by decide) uF_X10_13 dX10_pier_74 ?_
              refine lv_aload_n hx hb dX10_pier_77 rfl (lv_at hl 0 rfl) ?_
              refine mo_gi hx hb hu hown hK hal hW hD 7 (by decide) uF_X10_116 dX10_pier_78 ?_
              have b_24 : S 7 0 ≤ 8 := hG.f 7 (mx := 8) (by decide)
              refine lv_iload_n hx hb dX10_pier_81 rfl (lv_at hl 1 rfl) ?_
              refine mo_st hx hb hK hal hW hS 2 (n := 8) (by decide) (by omega) dX10_pier_82 (fun H locs hW hS => ?_)
              have hD := hD.put 2 (S 7 0) bin (n := 8) rfl (by omega)
              refine lv_aload_n hx hb dX10_pier_83 rfl (lv_at hl 0 rfl) ?_
              refine mo_ga hx hb hu hown hK hal hW 3 (by decide) uF_X10_16 dX10_pier_84 ?_
              refine lv_aload_n hx hb dX10_pier_87 rfl (lv_at hl 0 rfl) ?_
              refine mo_gi hx hb hu hown hK hal hW hD 7 (by decide) uF_X10_116 dX10_pier_88 ?_
              refine n_top (b := S 7 0) rfl ?_
              refine lv_iload_n hx hb dX10_pier_91 rfl (lv_at hl 2 rfl) ?_
              refine mo_st hx hb hK hal hW hS 3 (n := 8) (by decide) (by omega) dX10_pier_92 (fun H locs hW hS => ?_)
              have hD := hD.put 3 (S 7 0) win (n := 8) rfl (by omega)
              refine lv_aload_n hx hb dX10_pier_93 rfl (lv_at hl 0 rfl) ?_
              refine mo_ga hx hb hu hown hK hal hW 4 (by decide) uF_X10_19 dX10_pier_94 ?_
              refine lv_aload_n hx hb dX10_pier_97 rfl (lv_at hl 0 rfl) ?_
              refine mo_gi hx hb hu hown hK hal hW hD 7 (by decide) uF_X10_116 dX10_pier_98 ?_
              refine n_top (b := S 7 0) rfl ?_
              refine lv_iload_n hx hb dX10_pier_101 rfl (lv_at hl 3 rfl) ?_
              refine mo_st hx hb hK hal hW hS 4 (n := 8) (by decide) (by omega) dX10_pier_102 (fun H locs hW hS => ?_)
              have hD := hD.put 4 (S 7 0) rin (n := 8) rfl (by omega)
              refine lv_aload_n hx hb dX10_pier_103 rfl (lv_at hl 0 rfl) ?_
              refine mo_ga hx hb hu hown hK hal hW 5 (by decide) uF_X10_22 dX10_pier_104 ?_
              refine lv_aload_n hx hb dX10_pier_107 rfl (lv_at hl 0 rfl) ?_
              refine mo_gi hx hb hu hown hK hal hW hD 7 (by decide) uF_X10_116 dX10_pier_108 ?_
              refine n_top (b := S 7 0) rfl ?_
              refine lv_iload hx hb dX10_pier_111 (lv_at hl 4 rfl) ?_
              refine mo_st hx hb hK hal hW hS 5 (n := 8) (by decide) (by omega) dX10_pier_113 (fun H locs hW hS => ?_)
              have hD := hD.put 5 (S 7 0) fin (n := 8) rfl (by omega)
              refine lv_aload_n hx hb dX10_pier_114 rfl (lv_at hl 0 rfl) ?_
              refine mo_ga hx hb hu hown hK hal hW 6 (by decide) uF_X10_25 dX10_pier_115 ?_
              refine lv_aload_n hx hb dX10_pier_118 rfl (lv_at hl 0 rfl) ?_
              refine mo_gi hx hb hu hown hK hal hW hD 7 (by decide) uF_X10_116 dX10_pier_119 ?_
              refine n_top (b := S 7 0) rfl ?_
              refine lv_iload hx hb dX10_pier_122 (lv_at hl 5 rfl) ?_
              refine mo_st hx hb hK hal hW hS 6 (n := 8) (by decide) (by omega) dX10_pier_124 (fun H locs hW hS => ?_)
              have hD := hD.put 6 (S 7 0) qin (n := 8) rfl (by omega)
              refine lv_aload_n hx hb dX10_pier_125 rfl (lv_at hl 0 rfl) ?_
              refine lv_dup hx hb dX10_pier_126 rfl ?_
              refine mo_gi hx hb hu hown hK hal hW hD 7 (by decide) uF_X10_116 dX10_pier_127 ?_
              refine n_top (b := S 7 0) rfl ?_
              refine n_iconst (v := 1) hx hb dX10_pier_130 (by decide) ?_
              refine n_iadd hx hb dX10_pier_131 ?_
              refine mo_pi hx hb hu hown hK hal hW hS 7 (by decide +kernel) uF_X10_116 dX10_pier_132 (fun H locs hW hS => ?_)
              have hD := hD.putF 7 ((S 7 0) + 1) rfl
              refine lv_aload_n hx hb dX10_pier_135 rfl (lv_at hl 0 rfl) ?_
              refine mo_gi hx hb hu hown hK hal hW hD 7 (by decide) uF_X10_116 dX10_pier_136 ?_
              refine n_top (b := (S 7 0) + 1) rfl ?_
              refine n_iconst (v := 1) hx hb dX10_pier_139 (by decide) ?_
              refine n_isub hx hb (by omega) dX10_pier_140 ?_
              exact o_iret hx hb hr hlocks hW hS (⟨by first | (simp only [aPier, ix_nI hbin (by omega), nx_nI (j := bin) (by omega), rx_nI hwina hwin (by omega), nx_nI (j := win) (by omega), rx_nI hrina hrin (by omega), nx_nI (j := rin) (by omega), ix_nI hfin (by omega), nx_nI (j := fin) (by omega), ix_nI hqin (by omega), nx_nI (j := qin) (by omega), c_23, eq_self, ↓reduceIte, Bool.false_eq_true]; done) | (simp only [aPier, ix_nI hbin (by omega), nx_nI (j := bin) (by omega), rx_nI hwina hwin (by omega), nx_nI (j := win) (by omega), rx_nI hrina hrin (by omega), nx_nI (j := rin) (by omega), ix_nI hfin (by omega), nx_nI (j := fin) (by omega), ix_nI hqin (by omega), nx_nI (j := qin) (by omega), c_23, eq_self, ↓reduceIte, Bool.false_eq_true]; rfl), by rw [show nPier S (nI bin) (nI win) (nI rin) (nI fin) (nI qin) = upS (upS (upS (upS (upS (upS S 2 (S 7 0) bin) 3 (S 7 0) win) 4 (S 7 0) rin) 5 (S 7 0) fin) 6 (S 7 0) qin) 7 0 ((S 7 0) + 1) from by first | (simp only [nPier, ix_nI hbin (by omega), nx_nI (j := bin) (by omega), rx_nI hwina hwin (by omega), nx_nI (j := win) (by omega), rx_nI hrina hrin (by omega), nx_nI (j := rin) (by omega), ix_nI hfin (by omega), nx_nI (j := fin) (by omega), ix_nI hqin (by omega), nx_nI (j := qin) (by omega), c_23, eq_self, ↓reduceIte, Bool.false_eq_true]; done) | (simp only [nPier, ix_nI hbin (by omega), nx_nI (j := bin) (by omega), rx_nI hwina hwin (by omega), nx_nI (j := win) (by omega), rx_nI hrina hrin (by omega), nx_nI (j := rin) (by omega), ix_nI hfin (by omega), nx_nI (j := fin) (by omega), ix_nI hqin (by omega), nx_nI (j := qin) (by omega), c_23, eq_self, ↓reduceIte, Bool.false_eq_true]; rfl)]; exact ⟨hM.chg hD (((((((hG.b.up 2 _ (mx := 3) rfl (by omega)).up 3 _ (mx := 20) rfl (by omega)).up 4 _ (mx := 200) rfl (by omega)).up 5 _ (mx := 99) rfl (by omega)).up 6 _ (mx := 99) rfl (by omega)).up 7 0 (mx := 8) rfl (by omega)).g ⟨fun k hk => up_lt (f := 2) (g := S 2) hbin (fun hk => hG.2.2.1 k hk) hk, fun k hk => Nat.lt_succ_of_lt (hG.2.2.2.1 k hk), fun k hk => Nat.lt_succ_of_lt (hG.2.2.2.2.1 k hk), fun k hk => Nat.lt_succ_of_lt (hG.2.2.2.2.2.1 k hk), fun k hk => Nat.lt_of_lt_of_le (hG.2.2.2.2.2.2 k hk) (Nat.pow_le_pow_right (by decide) (Nat.le_succ _))⟩) rfl rfl rfl rfl rfl (fun p hp m n => sHE_cg (S := S) (S' := upS (upS (upS (upS (upS (upS S 2 (S 7 0) bin) 3 (S 7 0) win) 4 (S 7 0) rin) 5 (S 7 0) fin) 6 (S 7 0) qin) 7 0 ((S 7 0) + 1)) rfl (up_ne (f := 3) (g := S 3) hp) (up_ne (f := 4) (g := S 4) hp) rfl rfl rfl rfl m n) (fun l hl => ⟨rfl, rfl, rfl, rfl⟩) (Nat.le_succ _) (Nat.le_refl _), hR, ((((((((FrP.refl d0).stI _ _ _ _ (by omega)).stI _ _ _ _ (by omega)).stI _ _ _ _ (by omega)).stI _ _ _ _ (by omega)).stI _ _ _ _ (by omega)).stI _ _ _ _ (by omega)).stI _ _ _ _ (by omega))⟩⟩) dX10_pier_141
            · refine lv_iconst (v := -1) hx hb dX10_pier_71 (by decide) ?_
              exact o_iret hx hb hr hlocks hW hS (⟨by first | (simp only [aPier, ix_nI hbin (by omega), nx_nI (j := bin) (by omega), rx_nI hwina hwin (by omega), nx_nI (j := win) (by omega), rx_nI hrina hrin (by omega), nx_nI (j := rin) (by omega), ix_nI hfin (by omega), nx_nI (j := fin) (by omega), ix_nI hqin (by omega), nx_nI (j := qin) (by omega), c_23, eq_self, ↓reduceIte, Bool.false_eq_true]; done) | (simp only [aPier, ix_nI hbin (by omega), nx_nI (j := bin) (by omega), rx_nI hwina hwin (by omega), nx_nI (j := win) (by omega), rx_nI hrina hrin (by omega), nx_nI (j := rin) (by omega), ix_nI hfin (by omega), nx_nI (j := fin) (by omega), ix_nI hqin (by omega), nx_nI (j := qin) (by omega), c_23, eq_self, ↓reduceIte, Bool.false_eq_true]; rfl), by rw [show nPier S (nI bin) (nI win) (nI rin) (nI fin) (nI qin) = S from by first | (simp only [nPier, ix_nI hbin (by omega), nx_nI (j := bin) (by omega), rx_nI hwina hwin (by omega), nx_nI (j := win) (by omega), rx_nI hrina hrin (by omega), nx_nI (j := rin) (by omega), ix_nI hfin (by omega), nx_nI (j := fin) (by omega), ix_nI hqin (by omega), nx_nI (j := qin) (by omega), c_23, eq_self, ↓reduceIte, Bool.false_eq_true]; done) | (simp only [nPier, ix_nI hbin (by omega), nx_nI (j := bin) (by omega), rx_nI hwina hwin (by omega), nx_nI (j := win) (by omega), rx_nI hrina hrin (by omega), nx_nI (j := rin) (by omega), ix_nI hfin (by omega), nx_nI (j := fin) (by omega), ix_nI hqin (by omega), nx_nI (j := qin) (by omega), c_23, eq_self, ↓reduceIte, Bool.false_eq_true]; rfl)]; exact (MI.start (hM.thr 33 _ rfl)).pub hR⟩) dX10_pier_72

set_option maxHeartbeats 400000 in
set_option maxRecDepth 100000 in
theorem c_X10_look (l : Launch) (D : va_G) (cA : Nat → ClassId) (B0 : Nat) (ad : kA) (hal : mAl ad) (S : sS) (sr : Nat → Int32) (d0 : kD) (hM : InvM S d0) (hR : RowM S sr d0) (pi day si ei ki : Int32) : oM l yX10_look wX10_look 3 0 0 D cA B0 ad d0 ([.ref (ad.1 40 0), .int pi, .int day, .int si, .int ei, .int ki] : List Value) (oQi D cA B0 ad (fun r d1 => r = aLook S pi day si ei ki ∧ PI (nLook S pi day si ei ki) sr d0 d1)) := by
  refine o_ofW (cc := cX10_look) (maxL := 6) (ret := some .int) (by decide) rfl (Nat.le_of_ble_eq_true rfl) ?_
  intro p e s m below meth c hx hb hr hml hts hown hlocks hnm hK hW hB hS ls hl
  have hu : ∀ w ∈ UW, w.before _ s = true := fun w h => hts w (uw_c w h)
  have hl : lv_has ls 6 [(0, .ref (ad.1 40 0)), (1, .int pi), (2, .int day), (3, .int si), (4, .int ei), (5, .int ki)] := hl
  refine lv_aload_n hx hb dX10_look_0 rfl (lv_at hl 0 rfl) ?_
  refine n_iconst (v := 0) hx hb dX10_look_1 (by decide) ?_
  refine mo_pi hx hb hu hown hK hal hW hS 33 (by decide +kernel) uF_X10_113 dX10_look_2 (fun H locs hW hS => ?_)
  have hD : dS S (uI d0 40 0 33 (nI 0)) := (hM.thr 33 _ rfl).1
  have hG : sG S := hM.2.1
  have hb1 : S 1 0 ≤ 4 := hG.f 1 (mx := 4) (by decide)
  have hb7 : S 7 0 ≤ 8 := hG.f 7 (mx := 8) (by decide)
  have hb11 : S 11 0 ≤ 20 := hG.f 11 (mx := 20) (by decide)
  have hb18 : S 18 0 ≤ 40 := hG.f 18 (mx := 40) (by decide)
  have hb19 : S 19 0 ≤ 399 := hG.f 19 (mx := 399) (by decide)
  have hb22 : S 22 0 ≤ 64 := hG.f 22 (mx := 64) (by decide)
  have hb25 : S 25 0 ≤ 4 := hG.f 25 (mx := 4) (by decide)
  have hb30 : S 30 0 ≤ 10 := hG.f 30 (mx := 10) (by decide)
  have hb32 : S 32 0 ≤ 64 := hG.f 32 (mx := 64) (by decide)
  refine lv_aload_n hx hb dX10_look_5 rfl (lv_at hl 0 rfl) ?_
  refine lv_iload_n hx hb dX10_look_6 rfl (lv_at hl 1 rfl) ?_
  refine o_calli (o_runV (As := [.int pi]) (rest := []) ⟨hx, hb, hml, hown, hu⟩ (c_X10_isPier l D cA B0 ad hal S (uI d0 40 0 33 (nI 0)) hD hG pi ) (gV_X10_145 (fun _ h => h)) (n0 := 1) rfl (by decide +kernel) rfl ⟨Nat.le_of_ble_eq_true rfl, Nat.le_of_ble_eq_true rfl⟩ (o_recv hK hW hal.1 (kC_M _ _ _) rfl) hK hW hB hS hl.1 rfl (lv_room (Nat.le_of_ble_eq_true rfl)) ⟨Nat.zero_le _, Nat.zero_le _⟩ dX10_look_7) hS (fun r_2 d_1 q_3 H locs hW hS => ?_)
  obtain ⟨rfl, rfl⟩ := q_3
  refine lv_if_eq (tgt := 63) hx hb dX10_look_10 (by decide) (fun c_4 => ?_) (fun c_4 => ?_)
  · refine lv_iconst (v := -1) hx hb dX10_look_63 (by decide) ?_
    exact o_iret hx hb hr hlocks hW hS (⟨by first | (simp only [aLook, bI_z c_4, eq_self, ↓reduceIte, Bool.false_eq_true]; done) | (simp only [aLook, bI_z c_4, eq_self, ↓reduceIte, Bool.false_eq_true]; rfl), by rw [show nLook S pi day si ei ki = S from by first | (simp only [nLook, bI_z c_4, eq_self, ↓reduceIte, Bool.false_eq_true]; done) | (simp only [nLook, bI_z c_4, eq_self, ↓reduceIte, Bool.false_eq_true]; rfl)]; exact (MI.start (hM.thr 33 _ rfl)).pub hR⟩) dX10_look_64
  · obtain ⟨pin, hpin, rfl⟩ := ix_t (bI_n c_4) (by omega)
    refine lv_iload_n hx hb dX10_look_13 rfl (lv_at hl 2 rfl) ?_
    refine o_calli (o_runS (As := [.int day]) (rest := []) ⟨hx, hb, hml, hown, hu⟩ (c_X10_isDay l D cA B0 ad hal (uI d0 40 0 33 (nI 0)) day) (gS_X10_126 (fun _ h => h)) (n0 := 1) rfl (by decide +kernel) rfl ⟨Nat.le_of_ble_eq_true rfl, Nat.le_of_ble_eq_true rfl⟩ hK hW hB hS hl.1 rfl (lv_room (Nat.le_of_ble_eq_true rfl)) ⟨Nat.zero_le _, Nat.zero_le _⟩ dX10_look_14) hS (fun r_6 d_5 q_7 H locs hW hS => ?_)
    obtain ⟨rfl, rfl⟩ := q_7
    refine lv_if_eq (tgt := 63) hx hb dX10_look_17 (by decide) (fun c_8 => ?_) (fun c_8 => ?_)
    · refine lv_iconst (v := -1) hx hb dX10_look_63 (by decide) ?_
      exact o_iret hx hb hr hlocks hW hS (⟨by first | (simp only [aLook, ix_nI hpin (by omega), nx_nI (j := pin) (by omega), bI_z c_8, eq_self, ↓reduceIte, Bool.false_eq_true]; done) | (simp only [aLook, ix_nI hpin (by omega), nx_nI (j := pin) (by omega), bI_z c_8, eq_self, ↓reduceIte, Bool.false_eq_true]; rfl), by rw [show nLook S (nI pin) day si ei ki = S from by first | (simp only [nLook, ix_nI hpin (by omega), nx_nI (j := pin) (by omega), bI_z c_8, eq_self, ↓reduceIte, Bool.false_eq_true]; done) | (simp only [nLook, ix_nI hpin (by omega), nx_nI (j := pin) (by omega), bI_z c_8, eq_self, ↓reduceIte, Bool.false_eq_true]; rfl)]; exact (MI.start (hM.thr 33 _ rfl)).pub hR⟩) dX10_look_64
    · obtain ⟨dayn, hdayn, rfl⟩ := ix_t (bI_n c_8) (by omega)
      refine lv_iload_n hx hb dX10_look_20 rfl (lv_at hl 3 rfl) ?_
      refine n_iconst (v := 0) hx hb dX10_look_21 (by decide) ?_
      refine n_sipush (v := 200) hx hb dX10_look_22 (by decide) ?_
      refine o_calli (o_runS (As := [.int si, .int (nI 0), .int (nI 200)]) (rest := []) ⟨hx, hb, hml, hown, hu⟩ (c_X10_in l D cA B0 ad hal (uI d0 40 0 33 (nI 0)) si (nI 0) (nI 200)) (gS_X10_119 (fun _ h => h)) (n0 := 3) rfl (by decide +kernel) rfl ⟨Nat.le_of_ble_eq_true rfl, Nat.le_of_ble_eq_true rfl⟩ hK hW hB hS hl.1 rfl (lv_room (Nat.le_of_ble_eq_true rfl)) ⟨Nat.zero_le _, Nat.zero_le _⟩ dX10_look_25) hS (fun r_10 d_9 q_11 H locs hW hS => ?_)
      obtain ⟨rfl, rfl⟩ := q_11
      refine n_topi (y := bI (ix si 201)) (in_ixc 201 rfl (by decide)) ?_
      refine lv_if_eq (tgt := 63) hx hb dX10_look_28 (by decide) (fun c_12 => ?_) (fun c_12 => ?_)
      · refine lv_iconst (v := -1) hx hb dX10_look_63 (by decide) ?_
        exact o_iret hx hb hr hlocks hW hS (⟨by first | (simp only [aLook, ix_nI hpin (by omega), nx_nI (j := pin) (by omega), ix_nI hdayn (by omega), nx_nI (j := dayn) (by omega), bI_z c_12, eq_self, ↓reduceIte, Bool.false_eq_true]; done) | (simp only [aLook, ix_nI hpin (by omega), nx_nI (j := pin) (by omega), ix_nI hdayn (by omega), nx_nI (j := dayn) (by omega), bI_z c_12, eq_self, ↓reduceIte, Bool.false_eq_true]; rfl), by rw [show nLook S (nI pin) (nI dayn) si ei ki = S from by first | (simp only [nLook, ix_nI hpin (by omega), nx_nI (j := pin) (by omega), ix_nI hdayn (by omega), nx_nI (j := dayn) (by omega), bI_z c_12, eq_self, ↓reduceIte, Bool.false_eq_true]; done) | (simp only [nLook, ix_nI hpin (by omega), nx_nI (j := pin) (by omega), ix_nI hdayn (by omega), nx_nI (j := dayn) (by omega), bI_z c_12, eq_self, ↓reduceIte, Bool.false_eq_true]; rfl)]; exact (MI.start (hM.thr 33 _ rfl)).pub hR⟩) dX10_look_64
      · obtain ⟨sin, hsin, rfl⟩ := ix_t (bI_n c_12) (by omega)
        refine lv_iload hx hb dX10_look_31 (lv_at hl 4 rfl) ?_
        refine n_iconst (v := 0) hx hb dX10_look_33 (by decide) ?_
        refine n_bipush (v := 50) hx hb dX10_look_34 (by decide) ?_
        refine o_calli (o_runS (As := [.int ei, .int (nI 0), .int (nI 50)]) (rest := []) ⟨hx, hb, hml, hown, hu⟩ (c_X10_in l D cA B0 ad hal (uI d0 40 0 33 (nI 0)) ei (nI 0) (nI 50)) (gS_X10_119 (fun _ h => h)) (n0 := 3) rfl (by decide +kernel) rfl ⟨Nat.le_of_ble_eq_true rfl, Nat.le_of_ble_eq_true rfl⟩ hK hW hB hS hl.1 rfl (lv_room (Nat.le_of_ble_eq_true rfl)) ⟨Nat.zero_le _, Nat.zero_le _⟩ dX10_look_36) hS (fun r_14 d_13 q_15 H locs hW hS => ?_)
        obtain ⟨rfl, rfl⟩ := q_15
        refine n_topi (y := bI (ix ei 51)) (in_ixc 51 rfl (by decide)) ?_
        refine lv_if_eq (tgt := 63) hx hb dX10_look_39 (by decide) (fun c_16 => ?_) (fun c_16 => ?_)
        · refine lv_iconst (v := -1) hx hb dX10_look_63 (by decide) ?_
          exact o_iret hx hb hr hlocks hW hS (⟨by first | (simp only [aLook, ix_nI hpin (by omega), nx_nI (j := pin) (by omega), ix_nI hdayn (by omega), nx_nI (j := dayn) (by omega), ix_nI hsin (by omega), nx_nI (j := sin) (by omega), bI_z c_16, eq_self, ↓reduceIte, Bool.false_eq_true]; done) | (simp only [aLook, ix_nI hpin (by omega), nx_nI (j := pin) (by omega), ix_nI hdayn (by omega), nx_nI (j := dayn) (by omega), ix_nI hsin (by omega), nx_nI (j := sin) (by omega), bI_z c_16, eq_self, ↓reduceIte, Bool.false_eq_true]; rfl), by rw [show nLook S (nI pin) (nI dayn) (nI sin) ei ki = S from by first | (simp only [nLook, ix_nI hpin (by omega), nx_nI (j := pin) (by omega), ix_nI hdayn (by omega), nx_nI (j := dayn) (by omega), ix_nI hsin (by omega), nx_nI (j := sin) (by omega), bI_z c_16, eq_self, ↓reduceIte, Bool.false_eq_true]; done) | (simp only [nLook, ix_nI hpin (by omega), nx_nI (j := pin) (by omega), ix_nI hdayn (by omega), nx_nI (j := dayn) (by omega), ix_nI hsin (by omega), nx_nI (j := sin) (by omega), bI_z c_16, eq_self, ↓reduceIte, Bool.false_eq_true]; rfl)]; exact (MI.start (hM.thr 33 _ rfl)).pub hR⟩) dX10_look_64
        · obtain ⟨ein, hein, rfl⟩ := ix_t (bI_n c_16) (by omega)
          refine lv_iload hx hb dX10_look_42 (lv_at hl 5 rfl) ?_
          refine lv_iload_n hx hb dX10_look_44 rfl (lv_at hl 2 rfl) ?_
          refine n_sipush (v := 399) hx hb dX10_look_45 (by decide) ?_
          refine o_calli (o_runS (As := [.int ki, .int (nI dayn), .int (nI 399)]) (rest := []) ⟨hx, hb, hml, hown, hu⟩ (c_X10_in l D cA B0 ad hal (uI d0 40 0 33 (nI 0)) ki (nI dayn) (nI 399)) (gS_X10_119 (fun _ h => h)) (n0 := 3) rfl (by decide +kernel) rfl ⟨Nat.le_of_ble_eq_true rfl, Nat.le_of_ble_eq_true rfl⟩ hK hW hB hS hl.1 rfl (lv_room (Nat.le_of_ble_eq_true rfl)) ⟨Nat.zero_le _, Nat.zero_le _⟩ dX10_look_48) hS (fun r_18 d_17 q_19 H locs hW hS => ?_)
          obtain ⟨rfl, rfl⟩ := q_19
          refine n_topi (y := bI (rx ki dayn 399)) (in_rx (by omega) (by omega)) ?_
          refine lv_if_eq (tgt := 63) hx hb dX10_look_51 (by decide) (fun c_20 => ?_) (fun c_20 => ?_)
          · refine lv_iconst (v := -1) hx hb dX10_look_63 (by decide) ?_
            exact o_iret hx hb hr hlocks hW hS (⟨by first | (simp only [aLook, ix_nI hpin (by omega), nx_nI (j := pin) (by omega), ix_nI hdayn (by omega), nx_nI (j := dayn) (by omega), ix_nI hsin (by omega), nx_nI (j := sin) (by omega), ix_nI hein (by omega), nx_nI (j := ein) (by omega), bI_z c_20, eq_self, ↓reduceIte, Bool.false_eq_true]; done) | (simp only [aLook, ix_nI hpin (by omega), nx_nI (j := pin) (by omega), ix_nI hdayn (by omega), nx_nI (j := dayn) (by omega), ix_nI hsin (by omega), nx_nI (j := sin) (by omega), ix_nI hein (by omega), nx_nI (j := ein) (by omega), bI_z c_20, eq_self, ↓reduceIte, Bool.false_eq_true]; rfl), by rw [show nLook S (nI pin) (nI dayn) (nI sin) (nI ein) ki = S from by first | (simp only [nLook, ix_nI hpin (by omega), nx_nI (j := pin) (by omega), ix_nI hdayn (by omega), nx_nI (j := dayn) (by omega), ix_nI hsin (by omega), nx_nI (j := sin) (by omega), ix_nI hein (by omega), nx_nI (j := ein) (by omega), bI_z c_20, eq_self, ↓reduceIte, Bool.false_eq_true]; done) | (simp only [nLook, ix_nI hpin (by omega), nx_nI (j := pin) (by omega), ix_nI hdayn (by omega), nx_nI (j := dayn) (by omega), ix_nI hsin (by omega), nx_nI (j := sin) (by omega), ix_nI hein (by omega), nx_nI (j := ein) (by omega), bI_z c_20, eq_self, ↓reduceIte, Bool.false_eq_true]; rfl)]; exact (MI.start (hM.thr 33 _ rfl)).pub hR⟩) dX10_look_64
          · obtain ⟨kin, hkina, hkin, rfl⟩ := rx_t (bI_n c_20) (by omega)
            refine lv_aload_n hx hb dX10_look_54 rfl (lv_at hl 0 rfl) ?_
            refine mo_gi hx hb hu hown hK hal hW hD 18 (by decide) uF_X10_185 dX10_look_55 ?_
            have b_21 : S 18 0 ≤ 40 := hG.f 18 (mx := 40) (by decide)
            refine n_bipush (v := 40) hx hb dX10_look_58 (by decide) ?_
            refine n_icmp_ne (tgt := 65) hx hb (by omega) (by omega) dX10_look_60 (by decide) (fun c_22 => ?_) (fun c_22 => ?_)
            · refine lv_aload_n hx hb dX10_look_65 rfl (lv_at hl 0 rfl) ?_
              refine mo_ga hx hb hu hown hK hal hW 12 (by decide) uF_X10_37 dX10_look_66 ?_
              refine lv_aload_n hx hb dX10_look_69 rfl (lv_at hl 0 rfl) ?_
              refine mo_gi hx hb hu hown hK hal hW hD 18 (by decide) uF_X10_185 dX10_look_70 ?_
              have b_23 : S 18 0 ≤ 40 := hG.f 18 (mx := 40) (by decide)
              refine lv_iload_n hx hb dX10_look_73 rfl (lv_at hl 1 rfl) ?_
              refine mo_st hx hb hK hal hW hS 12 (n := 40) (by decide) (by omega) dX10_look_74 (fun H locs hW hS => ?_)
              have hD := hD.put 12 (S 18 0) pin (n := 40) rfl (by omega)
              refine lv_aload_n hx hb dX10_look_75 rfl (lv_at hl 0 rfl) ?_
              refine mo_ga hx hb hu hown hK hal hW 13 (by decide) uF_X10_40 dX10_look_76 ?_
              refine lv_aload_n hx hb dX10_look_79 rfl (lv_at hl 0 rfl) ?_
              refine mo_gi hx hb hu hown hK hal hW hD 18 (by decide) uF_X10_185 dX10_look_80 ?_
              refine n_top (b := S 18 0) rfl ?_
              refine lv_iload_n hx hb dX10_look_83 rfl (lv_at hl 2 rfl) ?_
              refine mo_st hx hb hK hal hW hS 13 (n := 40) (by decide) (by omega) dX10_look_84 (fun H locs hW hS => ?_)
              have hD := hD.put 13 (S 18 0) dayn (n := 40) rfl (by omega)
              refine lv_aload_n hx hb dX10_look_85 rfl (lv_at hl 0 rfl) ?_
              refine mo_ga hx hb hu hown hK hal hW 14 (by decide) uF_X10_43 dX10_look_86 ?_
              refine lv_aload_n hx hb dX10_look_89 rfl (lv_at hl 0 rfl) ?_
              refine mo_gi hx hb hu hown hK hal hW hD 18 (by decide) uF_X10_185 dX10_look_90 ?_
              refine n_top (b := S 18 0) rfl ?_
              refine lv_iload_n hx hb dX10_look_93 rfl (lv_at hl 3 rfl) ?_
              refine mo_st hx hb hK hal hW hS 14 (n := 40) (by decide) (by omega) dX10_look_94 (fun H locs hW hS => ?_)
              have hD := hD.put 14 (S 18 0) sin (n := 40) rfl (by omega)
              refine lv_aload_n hx hb dX10_look_95 rfl (lv_at hl 0 rfl) ?_
              refine mo_ga hx hb hu hown hK hal hW 15 (by decide) uF_X10_46 dX10_look_96 ?_
              refine lv_aload_n hx hb dX10_look_99 rfl (lv_at hl 0 rfl) ?_
              refine mo_gi hx hb hu hown hK hal hW hD 18 (by decide) uF_X10_185 dX10_look_100 ?_
              refine n_top (b := S 18 0) rfl ?_
              refine lv_iload hx hb dX10_look_103 (lv_at hl 4 rfl) ?_
              refine mo_st hx hb hK hal hW hS 15 (n := 40) (by decide) (by omega) dX10_look_105 (fun H locs hW hS => ?_)
              have hD := hD.put 15 (S 18 0) ein (n := 40) rfl (by omega)
              refine lv_aload_n hx hb dX10_look_106 rfl (lv_at hl 0 rfl) ?_
              refine mo_ga hx hb hu hown hK hal hW 16 (by decide) uF_X10_49 dX10_look_107 ?_
              refine lv_aload_n hx hb dX10_look_110 rfl (lv_at hl 0 rfl) ?_
              refine mo_gi hx hb hu hown hK hal hW hD 18 (by decide) uF_X10_185 dX10_look_111 ?_
              refine n_top (b := S 18 0) rfl ?_
              refine lv_iload hx hb dX10_look_114 (lv_at hl 5 rfl) ?_
              refine mo_st hx hb hK hal hW hS 16 (n := 40) (by decide) (by omega) dX10_look_116 (fun H locs hW hS => ?_)
              have hD := hD.put 16 (S 18 0) kin (n := 40) rfl (by omega)
              refine lv_aload_n hx hb dX10_look_117 rfl (lv_at hl 0 rfl) ?_
              refine mo_ga hx hb hu hown hK hal hW 17 (by decide) uF_X10_52 dX10_look_118 ?_
              refine lv_aload_n hx hb dX10_look_121 rfl (lv_at hl 0 rfl) ?_
              refine mo_gi hx hb hu hown hK hal hW hD 18 (by decide) uF_X10_185 dX10_look_122 ?_
              refine n_top (b := S 18 0) rfl ?_
              refine n_sipush (v := 400) hx hb dX10_look_125 (by decide) ?_
              refine mo_st hx hb hK hal hW hS 17 (n := 40) (by decide) (by omega) dX10_look_128 (fun H locs hW hS => ?_)
              have hD := hD.put 17 (S 18 0) 400 (n := 40) rfl (by omega)
              refine lv_aload_n hx hb dX10_look_129 rfl (lv_at hl 0 rfl) ?_
              refine lv_dup hx hb dX10_look_130 rfl ?_
              refine mo_gi hx hb hu hown hK hal hW hD 18 (by decide) uF_X10_185 dX10_look_131 ?_
              refine n_top (b := S 18 0) rfl ?_
              refine n_iconst (v := 1) hx hb dX10_look_134 (by decide) ?_
              refine n_iadd hx hb dX10_look_135 ?_
              refine mo_pi hx hb hu hown hK hal hW hS 18 (by decide +kernel) uF_X10_185 dX10_look_136 (fun H locs hW hS => ?_)
              have hD := hD.putF 18 ((S 18 0) + 1) rfl
              refine lv_aload_n hx hb dX10_look_139 rfl (lv_at hl 0 rfl) ?_
              refine mo_gi hx hb hu hown hK hal hW hD 18 (by decide) uF_X10_185 dX10_look_140 ?_
              refine n_top (b := (S 18 0) + 1) rfl ?_
              refine n_iconst (v := 1) hx hb dX10_look_143 (by decide) ?_
              refine n_isub hx hb (by omega) dX10_look_144 ?_
              exact o_iret hx hb hr hlocks hW hS (⟨by first | (simp only [aLook, ix_nI hpin (by omega), nx_nI (j := pin) (by omega), ix_nI hdayn (by omega), nx_nI (j := dayn) (by omega), ix_nI hsin (by omega), nx_nI (j := sin) (by omega), ix_nI hein (by omega), nx_nI (j := ein) (by omega), rx_nI hkina hkin (by omega), nx_nI (j := kin) (by omega), c_22, eq_self, ↓reduceIte, Bool.false_eq_true]; done) | (simp only [aLook, ix_nI hpin (by omega), nx_nI (j := pin) (by omega), ix_nI hdayn (by omega), nx_nI (j := dayn) (by omega), ix_nI hsin (by omega), nx_nI (j := sin) (by omega), ix_nI hein (by omega), nx_nI (j := ein) (by omega), rx_nI hkina hkin (by omega), nx_nI (j := kin) (by omega), c_22, eq_self, ↓reduceIte, Bool.false_eq_true]; rfl), by rw [show nLook S (nI pin) (nI dayn) (nI sin) (nI ein) (nI kin) = upS (upS (upS (upS (upS (upS (upS S 12 (S 18 0) pin) 13 (S 18 0) dayn) 14 (S 18 0) sin) 15 (S 18 0) ein) 16 (S 18 0) kin) 17 (S 18 0) 400) 18 0 ((S 18 0) + 1) from by first | (simp only [nLook, ix_nI hpin (by omega), nx_nI (j := pin) (by omega), ix_nI hdayn (by omega), nx_nI (j := dayn) (by omega), ix_nI hsin (by omega), nx_nI (j := sin) (by omega), ix_nI hein (by omega), nx_nI (j := ein) (by omega), rx_nI hkina hkin (by omega), nx_nI (j := kin) (by omega), c_22, eq_self, ↓reduceIte, Bool.false_eq_true]; done) | (simp only [nLook, ix_nI hpin (by omega), nx_nI (j := pin) (by omega), ix_nI hdayn (by omega), nx_nI (j := dayn) (by omega), ix_nI hsin (by omega), nx_nI (j := sin) (by omega), ix_nI hein (by omega), nx_nI (j := ein) (by omega), rx_nI hkina hkin (by omega), nx_nI (j := kin) (by omega), c_22, eq_self, ↓reduceIte, Bool.false_eq_true]; rfl)]; exact ⟨hM.chg hD ((((((((hG.b.up 12 _ (mx := 7) rfl (by omega)).up 13 _ (mx := 399) rfl (by omega)).up 14 _ (mx := 200) rfl (by omega)).up 15 _ (mx := 50) rfl (by omega)).up 16 _ (mx := 399) rfl (by omega)).up 17 _ (mx := 400) rfl (by omega)).up 18 0 (mx := 40) rfl (by omega)).g ⟨hG.2.2.1, hG.2.2.2.1, fun k hk => up_lt (f := 12) (g := S 12) hpin (fun hk => hG.2.2.2.2.1 k hk) hk, hG.2.2.2.2.2⟩) rfl rfl rfl rfl rfl (fun p hp m n => sHE_cg (S := S) (S' := upS (upS (upS (upS (upS (upS (upS S 12 (S 18 0) pin) 13 (S 18 0) dayn) 14 (S 18 0) sin) 15 (S 18 0) ein) 16 (S 18 0) kin) 17 (S 18 0) 400) 18 0 ((S 18 0) + 1)) rfl rfl rfl rfl rfl rfl rfl m n) (fun l hl => ⟨up_ne (f := 12) (g := S 12) hl, up_ne (f := 13) (g := S 13) hl, up_ne (f := 14) (g := S 14) hl, up_ne (f := 15) (g := S 15) hl⟩) (Nat.le_refl _) (Nat.le_succ _), hR, (((((((((FrP.refl d0).stI _ _ _ _ (by omega)).stI _ _ _ _ (by omega)).stI _ _ _ _ (by omega)).stI _ _ _ _ (by omega)).stI _ _ _ _ (by omega)).stI _ _ _ _ (by omega)).stI _ _ _ _ (by omega)).stI _ _ _ _ (by omega))⟩⟩) dX10_look_145
            · refine lv_iconst (v := -1) hx hb dX10_look_63 (by decide) ?_
              exact o_iret hx hb hr hlocks hW hS (⟨by first | (simp only [aLook, ix_nI hpin (by omega), nx_nI (j := pin) (by omega), ix_nI hdayn (by omega), nx_nI (j := dayn) (by omega), ix_nI hsin (by omega), nx_nI (j := sin) (by omega), ix_nI hein (by omega), nx_nI (j := ein) (by omega), rx_nI hkina hkin (by omega), nx_nI (j := kin) (by omega), c_22, eq_self, ↓reduceIte, Bool.false_eq_true]; done) | (simp only [aLook, ix_nI hpin (by omega), nx_nI (j := pin) (by omega), ix_nI hdayn (by omega), nx_nI (j := dayn) (by omega), ix_nI hsin (by omega), nx_nI (j := sin) (by omega), ix_nI hein (by omega), nx_nI (j := ein) (by omega), rx_nI hkina hkin (by omega), nx_nI (j := kin) (by omega), c_22, eq_self, ↓reduceIte, Bool.false_eq_true]; rfl), by rw [show nLook S (nI pin) (nI dayn) (nI sin) (nI ein) (nI kin) = S from by first | (simp only [nLook, ix_nI hpin (by omega), nx_nI (j := pin) (by omega), ix_nI hdayn (by omega), nx_nI (j := dayn) (by omega), ix_nI hsin (by omega), nx_nI (j := sin) (by omega), ix_nI hein (by omega), nx_nI (j := ein) (by omega), rx_nI hkina hkin (by omega), nx_nI (j := kin) (by omega), c_22, eq_self, ↓reduceIte, Bool.false_eq_true]; done) | (simp only [nLook, ix_nI hpin (by omega), nx_nI (j := pin) (by omega), ix_nI hdayn (by omega), nx_nI (j := dayn) (by omega), ix_nI hsin (by omega), nx_nI (j := sin) (by omega), ix_nI hein (by omega), nx_nI (j := ein) (by omega), rx_nI hkina hkin (by omega), nx_nI (j := kin) (by omega), c_22, eq_self, ↓reduceIte, Bool.false_eq_true]; rfl)]; exact (MI.start (hM.thr 33 _ rfl)).pub hR⟩) dX10_look_64

set_option maxHeartbeats 400000 in
set_option maxRecDepth 100000 in
theorem c_X10_forget (l : Launch) (D : va_G) (cA : Nat → ClassId) (B0 : Nat) (ad : kA) (hal : mAl ad) (d0 : kD) : oM l yX10_forget wX10_forget 1 0 0 D cA B0 ad d0 ([.ref (ad.1 40 0)] : List Value) (oQv D cA B0 ad (fun d1 => Fgt d0 d1 8 40)) := by
  refine o_ofW (cc := cX10_forget) (maxL := 2) (ret := none) (by decide) rfl (Nat.le_of_ble_eq_true rfl) ?_
  intro p e s m below meth c hx hb hr hml hts hown hlocks hnm hK hW hB hS ls hl
  have hu : ∀ w ∈ UW, w.before _ s = true := fun w h => hts w (uw_c w h)
  have hl : lv_has ls 2 [(0, .ref (ad.1 40 0))] := hl
  refine n_iconst (v := 0) hx hb dX10_forget_0 (by decide) ?_
  refine lv_istore_n (lv' := [(1, .int (nI 0)), (0, .ref (ad.1 40 0))]) hx hb dX10_forget_1 rfl hl (by decide) rfl (fun ls hl => ?_)
  have lp2 : ∀ (n : Nat) (k : Nat)  (d : kD) (H : Heap) (locs : List Loc) (ls : Array Slot), 8 - k < n → (k ≤ 8) → (Fgt d0 d k 0) → oW D cA B0 ad d H → va_S (oA B0) s.heap H locs → lv_has ls 2 [(0, .ref (ad.1 40 0)), (1, .int (nI k))] → W p l e (oR 1 0 0) s m ([.ref (ad.1 40 0)] : List Value).toArray below meth c H locs 0 0 (MQ below (oQv D cA B0 ad (fun d1 => Fgt d0 d1 8 40)) ([.ref (ad.1 40 0)] : List Value).toArray s 0 0 (oA B0)) (F0 m 2 ls []) := by
    intro n
    induction n with
    | zero => intro k  d H locs ls hmu; exact absurd hmu (Nat.not_lt_zero _)
    | succ n ih_lp2 =>
      intro k  d H locs ls hmu hk hF hW hS hl
      refine lv_iload_n hx hb dX10_forget_2 rfl (lv_at hl 1 rfl) ?_
      refine n_bipush (v := 8) hx hb dX10_forget_3 (by decide) ?_
      refine n_icmp_ge (tgt := 21) hx hb (by omega) (by omega) dX10_forget_5 (by decide) (fun c_1 => ?_) (fun c_1 => ?_)
      · refine n_iconst (v := 0) hx hb dX10_forget_21 (by decide) ?_
        refine lv_istore_n (lv' := [(1, .int (nI 0)), (0, .ref (ad.1 40 0))]) hx hb dX10_forget_22 rfl hl (by decide) rfl (fun ls hl => ?_)
        have lp23 : ∀ (n : Nat) (k2 : Nat)  (d : kD) (H : Heap) (locs : List Loc) (ls : Array Slot), 40 - k2 < n → (k2 ≤ 40) → (Fgt d0 d 8 k2) → oW D cA B0 ad d H → va_S (oA B0) s.heap H locs → lv_has ls 2 [(0, .ref (ad.1 40 0)), (1, .int (nI k2))] → W p l e (oR 1 0 0) s m ([.ref (ad.1 40 0)] : List Value).toArray below meth c H locs 0 0 (MQ below (oQv D cA B0 ad (fun d1 => Fgt d0 d1 8 40)) ([.ref (ad.1 40 0)] : List Value).toArray s 0 0 (oA B0)) (F0 m 23 ls []) := by
          intro n
          induction n with
          | zero => intro k2  d H locs ls hmu; exact absurd hmu (Nat.not_lt_zero _)
          | succ n ih_lp23 =>
            intro k2  d H locs ls hmu hk2 hF hW hS hl
            refine lv_iload_n hx hb dX10_forget_23 rfl (lv_at hl 1 rfl) ?_
            refine n_bipush (v := 40) hx hb dX10_forget_24 (by decide) ?_
            refine n_icmp_ge (tgt := 42) hx hb (by omega) (by omega) dX10_forget_26 (by decide) (fun c_2 => ?_) (fun c_2 => ?_)
            · exact o_vret hx hb hr hlocks hW hS ((show k2 = 40 by omega) ▸ hF) dX10_forget_42
            · refine lv_aload_n hx hb dX10_forget_29 rfl (lv_at hl 0 rfl) ?_
              refine mo_ga hx hb hu hown hK hal hW 38 (by decide) uF_X10_101 dX10_forget_30 ?_
              refine lv_iload_n hx hb dX10_forget_33 rfl (lv_at hl 1 rfl) ?_
              refine n_iconst (v := 0) hx hb dX10_forget_34 (by decide) ?_
              refine mo_zs hx hb hK hal hW hS 38 (n := 40) (by decide) (by omega) (by decide) dX10_forget_35 (fun H locs hW hS => ?_)
              refine n_iinc (q := 1) (lv' := [(1, .int (nI (k2 + 1))), (0, .ref (ad.1 40 0))]) hx hb dX10_forget_36 hl (k := 1) rfl (by decide) (by decide) rfl (fun ls hl => ?_)
              refine lv_goto (tgt := 23) hx hb dX10_forget_39 (by decide) ?_
              exact ih_lp23 (k2 + 1) (uI d (50 + 38) 0 k2 (nI 0)) _ _ ls (by omega) (by omega) (hF.l _ rfl) hW hS (lv_sub hl [1, 0] rfl)
        exact lp23 (41) 0 d _ _ ls (by omega) (by omega) ((show k = 8 by omega) ▸ hF) hW hS (lv_sub hl [1, 0] rfl)
      · refine lv_aload_n hx hb dX10_forget_8 rfl (lv_at hl 0 rfl) ?_
        refine mo_ga hx hb hu hown hK hal hW 36 (by decide) uF_X10_93 dX10_forget_9 ?_
        refine lv_iload_n hx hb dX10_forget_12 rfl (lv_at hl 1 rfl) ?_
        refine n_iconst (v := 0) hx hb dX10_forget_13 (by decide) ?_
        refine mo_zs hx hb hK hal hW hS 36 (n := 8) (by decide) (by omega) (by decide) dX10_forget_14 (fun H locs hW hS => ?_)
        refine n_iinc (q := 1) (lv' := [(1, .int (nI (k + 1))), (0, .ref (ad.1 40 0))]) hx hb dX10_forget_15 hl (k := 1) rfl (by decide) (by decide) rfl (fun ls hl => ?_)
        refine lv_goto (tgt := 2) hx hb dX10_forget_18 (by decide) ?_
        exact ih_lp2 (k + 1) (uI d (50 + 36) 0 k (nI 0)) _ _ ls (by omega) (by omega) (hF.p _ rfl) hW hS (lv_sub hl [1, 0] rfl)
  exact lp2 (9) 0 d0 _ _ ls (by omega) (by omega) (Fgt.start d0) hW hS (lv_sub hl [1, 0] rfl)
