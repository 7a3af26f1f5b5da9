set_option maxHeartbeats 400000 in
set_option maxRecDepth 100000 in
theorem c_X10_tree (l : Launch) (D : va_G) (cA : Nat → ClassId) (B0 : Nat) (ad : kA) (hal : mAl ad) (S : sS) (sr : Nat → Int32) (d0 : kD) (hM : InvM S d0) (hR : RowM S sr d0) (pi day wi : Int32) : oM l yX10_tree wX10_tree 3 0 0 D cA B0 ad d0 ([.ref (ad.1 40 0), .int pi, .int day, .int wi] : List Value) (oQi D cA B0 ad (fun r d1 => r = aTree S pi day wi ∧ PI (nTree S pi day wi) sr d0 d1)) := by
  refine o_ofW (cc := cX10_tree) (maxL := 4) (ret := some .int) (by decide) rfl (Nat.le_of_ble_eq_true rfl) ?_
  intro p e s m below meth c hx hb hr hml hts hown hlocks hnm hK hW hB hS ls hl
  have hu : ∀ w ∈ UW, w.before _ s = true := fun w h => hts w (uw_c w h)
  have hl : lv_has ls 4 [(0, .ref (ad.1 40 0)), (1, .int pi), (2, .int day), (3, .int wi)] := hl
  refine lv_aload_n hx hb dX10_tree_0 rfl (lv_at hl 0 rfl) ?_
  refine n_iconst (v := 0) hx hb dX10_tree_1 (by decide) ?_
  refine mo_pi hx hb hu hown hK hal hW hS 33 (by decide +kernel) uF_X10_113 dX10_tree_2 (fun H locs hW hS => ?_)
  have hD : dS S (uI d0 40 0 33 (nI 0)) := (hM.thr 33 _ rfl).1
  have hG : sG S := hM.2.1
  have hb1 : S 1 0 ≤ 4 := hG.f 1 (mx := 4) (by decide)
  have hb7 : S 7 0 ≤ 8 := hG.f 7 (mx := 8) (by decide)
  have hb11 : S 11 0 ≤ 20 := hG.f 11 (mx := 20) (by decide)
  have hb18 : S 18 0 ≤ 40 := hG.f 18 (mx := 40) (by decide)
  have hb19 : S 19 0 ≤ 399 := hG.f 19 (mx := 399) (by decide)
  have hb22 : S 22 0 ≤ 64 := hG.f 22 (mx := 64) (by decide)
  have hb25 : S 25 0 ≤ 4 := hG.f 25 (mx := 4) (by decide)
  have hb30 : S 30 0 ≤ 10 := hG.f 30 (mx := 10) (by decide)
  have hb32 : S 32 0 ≤ 64 := hG.f 32 (mx := 64) (by decide)
  refine lv_aload_n hx hb dX10_tree_5 rfl (lv_at hl 0 rfl) ?_
  refine lv_iload_n hx hb dX10_tree_6 rfl (lv_at hl 1 rfl) ?_
  refine o_calli (o_runV (As := [.int pi]) (rest := []) ⟨hx, hb, hml, hown, hu⟩ (c_X10_isPier l D cA B0 ad hal S (uI d0 40 0 33 (nI 0)) hD hG pi ) (gV_X10_145 (fun _ h => h)) (n0 := 1) rfl (by decide +kernel) rfl ⟨Nat.le_of_ble_eq_true rfl, Nat.le_of_ble_eq_true rfl⟩ (o_recv hK hW hal.1 (kC_M _ _ _) rfl) hK hW hB hS hl.1 rfl (lv_room (Nat.le_of_ble_eq_true rfl)) ⟨Nat.zero_le _, Nat.zero_le _⟩ dX10_tree_7) hS (fun r_2 d_1 q_3 H locs hW hS => ?_)
  obtain ⟨rfl, rfl⟩ := q_3
  refine lv_if_eq (tgt := 39) hx hb dX10_tree_10 (by decide) (fun c_4 => ?_) (fun c_4 => ?_)
  · refine lv_iconst (v := -1) hx hb dX10_tree_39 (by decide) ?_
    exact o_iret hx hb hr hlocks hW hS (⟨by first | (simp only [aTree, bI_z c_4, eq_self, ↓reduceIte, Bool.false_eq_true]; done) | (simp only [aTree, bI_z c_4, eq_self, ↓reduceIte, Bool.false_eq_true]; rfl), by rw [show nTree S pi day wi = S from by first | (simp only [nTree, bI_z c_4, eq_self, ↓reduceIte, Bool.false_eq_true]; done) | (simp only [nTree, bI_z c_4, eq_self, ↓reduceIte, Bool.false_eq_true]; rfl)]; exact (MI.start (hM.thr 33 _ rfl)).pub hR⟩) dX10_tree_40
  · obtain ⟨pin, hpin, rfl⟩ := ix_t (bI_n c_4) (by omega)
    refine lv_iload_n hx hb dX10_tree_13 rfl (lv_at hl 2 rfl) ?_
    refine o_calli (o_runS (As := [.int day]) (rest := []) ⟨hx, hb, hml, hown, hu⟩ (c_X10_isDay l D cA B0 ad hal (uI d0 40 0 33 (nI 0)) day) (gS_X10_126 (fun _ h => h)) (n0 := 1) rfl (by decide +kernel) rfl ⟨Nat.le_of_ble_eq_true rfl, Nat.le_of_ble_eq_true rfl⟩ hK hW hB hS hl.1 rfl (lv_room (Nat.le_of_ble_eq_true rfl)) ⟨Nat.zero_le _, Nat.zero_le _⟩ dX10_tree_14) hS (fun r_6 d_5 q_7 H locs hW hS => ?_)
    obtain ⟨rfl, rfl⟩ := q_7
    refine lv_if_eq (tgt := 39) hx hb dX10_tree_17 (by decide) (fun c_8 => ?_) (fun c_8 => ?_)
    · refine lv_iconst (v := -1) hx hb dX10_tree_39 (by decide) ?_
      exact o_iret hx hb hr hlocks hW hS (⟨by first | (simp only [aTree, ix_nI hpin (by omega), nx_nI (j := pin) (by omega), bI_z c_8, eq_self, ↓reduceIte, Bool.false_eq_true]; done) | (simp only [aTree, ix_nI hpin (by omega), nx_nI (j := pin) (by omega), bI_z c_8, eq_self, ↓reduceIte, Bool.false_eq_true]; rfl), by rw [show nTree S (nI pin) day wi = S from by first | (simp only [nTree, ix_nI hpin (by omega), nx_nI (j := pin) (by omega), bI_z c_8, eq_self, ↓reduceIte, Bool.false_eq_true]; done) | (simp only [nTree, ix_nI hpin (by omega), nx_nI (j := pin) (by omega), bI_z c_8, eq_self, ↓reduceIte, Bool.false_eq_true]; rfl)]; exact (MI.start (hM.thr 33 _ rfl)).pub hR⟩) dX10_tree_40
    · obtain ⟨dayn, hdayn, rfl⟩ := ix_t (bI_n c_8) (by omega)
      refine lv_iload_n hx hb dX10_tree_20 rfl (lv_at hl 3 rfl) ?_
      refine n_iconst (v := 1) hx hb dX10_tree_21 (by decide) ?_
      refine n_bipush (v := 20) hx hb dX10_tree_22 (by decide) ?_
      refine o_calli (o_runS (As := [.int wi, .int (nI 1), .int (nI 20)]) (rest := []) ⟨hx, hb, hml, hown, hu⟩ (c_X10_in l D cA B0 ad hal (uI d0 40 0 33 (nI 0)) wi (nI 1) (nI 20)) (gS_X10_119 (fun _ h => h)) (n0 := 3) rfl (by decide +kernel) rfl ⟨Nat.le_of_ble_eq_true rfl, Nat.le_of_ble_eq_true rfl⟩ hK hW hB hS hl.1 rfl (lv_room (Nat.le_of_ble_eq_true rfl)) ⟨Nat.zero_le _, Nat.zero_le _⟩ dX10_tree_24) hS (fun r_10 d_9 q_11 H locs hW hS => ?_)
      obtain ⟨rfl, rfl⟩ := q_11
      refine n_topi (y := bI (rx wi 1 20)) (in_rx (by omega) (by omega)) ?_
      refine lv_if_eq (tgt := 39) hx hb dX10_tree_27 (by decide) (fun c_12 => ?_) (fun c_12 => ?_)
      · refine lv_iconst (v := -1) hx hb dX10_tree_39 (by decide) ?_
        exact o_iret hx hb hr hlocks hW hS (⟨by first | (simp only [aTree, ix_nI hpin (by omega), nx_nI (j := pin) (by omega), ix_nI hdayn (by omega), nx_nI (j := dayn) (by omega), bI_z c_12, eq_self, ↓reduceIte, Bool.false_eq_true]; done) | (simp only [aTree, ix_nI hpin (by omega), nx_nI (j := pin) (by omega), ix_nI hdayn (by omega), nx_nI (j := dayn) (by omega), bI_z c_12, eq_self, ↓reduceIte, Bool.false_eq_true]; rfl), by rw [show nTree S (nI pin) (nI dayn) wi = S from by first | (simp only [nTree, ix_nI hpin (by omega), nx_nI (j := pin) (by omega), ix_nI hdayn (by omega), nx_nI (j := dayn) (by omega), bI_z c_12, eq_self, ↓reduceIte, Bool.false_eq_true]; done) | (simp only [nTree, ix_nI hpin (by omega), nx_nI (j := pin) (by omega), ix_nI hdayn (by omega), nx_nI (j := dayn) (by omega), bI_z c_12, eq_self, ↓reduceIte, Bool.false_eq_true]; rfl)]; exact (MI.start (hM.thr 33 _ rfl)).pub hR⟩) dX10_tree_40
      · obtain ⟨win, hwina, hwin, rfl⟩ := rx_t (bI_n c_12) (by omega)
        refine lv_aload_n hx hb dX10_tree_30 rfl (lv_at hl 0 rfl) ?_
        refine mo_gi hx hb hu hown hK hal hW hD 11 (by decide) uF_X10_148 dX10_tree_31 ?_
        have b_13 : S 11 0 ≤ 20 := hG.f 11 (mx := 20) (by decide)
        refine n_bipush (v := 20) hx hb dX10_tree_34 (by decide) ?_
        refine n_icmp_ne (tgt := 41) hx hb (by omega) (by omega) dX10_tree_36 (by decide) (fun c_14 => ?_) (fun c_14 => ?_)
        · refine lv_aload_n hx hb dX10_tree_41 rfl (lv_at hl 0 rfl) ?_
          refine mo_ga hx hb hu hown hK hal hW 8 (by decide) uF_X10_28 dX10_tree_42 ?_
          refine lv_aload_n hx hb dX10_tree_45 rfl (lv_at hl 0 rfl) ?_
          refine mo_gi hx hb hu hown hK hal hW hD 11 (by decide) uF_X10_148 dX10_tree_46 ?_
          have b_15 : S 11 0 ≤ 20 := hG.f 11 (mx := 20) (by decide)
          refine lv_iload_n hx hb dX10_tree_49 rfl (lv_at hl 1 rfl) ?_
          refine mo_st hx hb hK hal hW hS 8 (n := 20) (by decide) (by omega) dX10_tree_50 (fun H locs hW hS => ?_)
          have hD := hD.put 8 (S 11 0) pin (n := 20) rfl (by omega)
          refine lv_aload_n hx hb dX10_tree_51 rfl (lv_at hl 0 rfl) ?_
          refine mo_ga hx hb hu hown hK hal hW 9 (by decide) uF_X10_31 dX10_tree_52 ?_
          refine lv_aload_n hx hb dX10_tree_55 rfl (lv_at hl 0 rfl) ?_
          refine mo_gi hx hb hu hown hK hal hW hD 11 (by decide) uF_X10_148 dX10_tree_56 ?_
          refine n_top (b := S 11 0) rfl ?_
          refine lv_iload_n hx hb dX10_tree_59 rfl (lv_at hl 2 rfl) ?_
          refine mo_st hx hb hK hal hW hS 9 (n := 20) (by decide) (by omega) dX10_tree_60 (fun H locs hW hS => ?_)
          have hD := hD.put 9 (S 11 0) dayn (n := 20) rfl (by omega)
          refine lv_aload_n hx hb dX10_tree_61 rfl (lv_at hl 0 rfl) ?_
          refine mo_ga hx hb hu hown hK hal hW 10 (by decide) uF_X10_34 dX10_tree_62 ?_
          refine lv_aload_n hx hb dX10_tree_65 rfl (lv_at hl 0 rfl) ?_
          refine mo_gi hx hb hu hown hK hal hW hD 11 (by decide) uF_X10_148 dX10_tree_66 ?_
          refine n_top (b := S 11 0) rfl ?_
          refine lv_iload_n hx hb dX10_tree_69 rfl (lv_at hl 3 rfl) ?_
          refine mo_st hx hb hK hal hW hS 10 (n := 20) (by decide) (by omega) dX10_tree_70 (fun H locs hW hS => ?_)
          have hD := hD.put 10 (S 11 0) win (n := 20) rfl (by omega)
          refine lv_aload_n hx hb dX10_tree_71 rfl (lv_at hl 0 rfl) ?_
          refine lv_dup hx hb dX10_tree_72 rfl ?_
          refine mo_gi hx hb hu hown hK hal hW hD 11 (by decide) uF_X10_148 dX10_tree_73 ?_
          refine n_top (b := S 11 0) rfl ?_
          refine n_iconst (v := 1) hx hb dX10_tree_76 (by decide) ?_
          refine n_iadd hx hb dX10_tree_77 ?_
          refine mo_pi hx hb hu hown hK hal hW hS 11 (by decide +kernel) uF_X10_148 dX10_tree_78 (fun H locs hW hS => ?_)
          have hD := hD.putF 11 ((S 11 0) + 1) rfl
          refine lv_aload_n hx hb dX10_tree_81 rfl (lv_at hl 0 rfl) ?_
          refine o_callv (o_runV (As := []) (rest := []) ⟨hx, hb, hml, hown, hu⟩ (c_X10_forget l D cA B0 ad hal (uI (uI (uI (uI (uI d0 40 0 33 (nI 0)) (50 + 8) 0 (S 11 0) (nI pin)) (50 + 9) 0 (S 11 0) (nI dayn)) (50 + 10) 0 (S 11 0) (nI win)) 40 0 11 (nI ((S 11 0) + 1)))) (gV_X10_130 (fun _ h => h)) (n0 := 0) rfl (by decide +kernel) rfl ⟨Nat.le_of_ble_eq_true rfl, Nat.le_of_ble_eq_true rfl⟩ (o_recv hK hW hal.1 (kC_M _ _ _) rfl) hK hW hB hS hl.1 rfl (lv_room (Nat.le_of_ble_eq_true rfl)) ⟨Nat.zero_le _, Nat.zero_le _⟩ dX10_tree_82) hS (fun d_16 q_18 H locs hW hS => ?_)
          have hF := q_18
          have hD := hF.dS hD
          refine lv_aload_n hx hb dX10_tree_85 rfl (lv_at hl 0 rfl) ?_
          refine mo_gi hx hb hu hown hK hal hW hD 11 (by decide) uF_X10_148 dX10_tree_86 ?_
          refine n_top (b := (S 11 0) + 1) rfl ?_
          exact o_iret hx hb hr hlocks hW hS (⟨by first | (simp only [aTree, ix_nI hpin (by omega), nx_nI (j := pin) (by omega), ix_nI hdayn (by omega), nx_nI (j := dayn) (by omega), rx_nI hwina hwin (by omega), nx_nI (j := win) (by omega), c_14, eq_self, ↓reduceIte, Bool.false_eq_true]; done) | (simp only [aTree, ix_nI hpin (by omega), nx_nI (j := pin) (by omega), ix_nI hdayn (by omega), nx_nI (j := dayn) (by omega), rx_nI hwina hwin (by omega), nx_nI (j := win) (by omega), c_14, eq_self, ↓reduceIte, Bool.false_eq_true]; rfl), by rw [show nTree S (nI pin) (nI dayn) (nI win) = upS (upS (upS (upS S 8 (S 11 0) pin) 9 (S 11 0) dayn) 10 (S 11 0) win) 11 0 ((S 11 0) + 1) from by first | (simp only [nTree, ix_nI hpin (by omega), nx_nI (j := pin) (by omega), ix_nI hdayn (by omega), nx_nI (j := dayn) (by omega), rx_nI hwina hwin (by omega), nx_nI (j := win) (by omega), c_14, eq_self, ↓reduceIte, Bool.false_eq_true]; done) | (simp only [nTree, ix_nI hpin (by omega), nx_nI (j := pin) (by omega), ix_nI hdayn (by omega), nx_nI (j := dayn) (by omega), rx_nI hwina hwin (by omega), nx_nI (j := win) (by omega), c_14, eq_self, ↓reduceIte, Bool.false_eq_true]; rfl)]; exact ⟨InvM.fgt hD (((((hG.b.up 8 _ (mx := 7) rfl (by omega)).up 9 _ (mx := 399) rfl (by omega)).up 10 _ (mx := 20) rfl (by omega)).up 11 0 (mx := 20) rfl (by omega)).g ⟨hG.2.2.1, fun k hk => up_lt (f := 8) (g := S 8) hpin (fun hk => hG.2.2.2.1 k hk) hk, hG.2.2.2.2⟩) hF.1 hF.2.1, fun i hi => by rw [hF.2.2.1 81 (by omega) (by omega)]; exact hR i hi, hF.fr ((((((FrP.refl d0).stI _ _ _ _ (by omega)).stI _ _ _ _ (by omega)).stI _ _ _ _ (by omega)).stI _ _ _ _ (by omega)).stI _ _ _ _ (by omega))⟩⟩) dX10_tree_89
        · refine lv_iconst (v := -1) hx hb dX10_tree_39 (by decide) ?_
          exact o_iret hx hb hr hlocks hW hS (⟨by first | (simp only [aTree, ix_nI hpin (by omega), nx_nI (j := pin) (by omega), ix_nI hdayn (by omega), nx_nI (j := dayn) (by omega), rx_nI hwina hwin (by omega), nx_nI (j := win) (by omega), c_14, eq_self, ↓reduceIte, Bool.false_eq_true]; done) | (simp only [aTree, ix_nI hpin (by omega), nx_nI (j := pin) (by omega), ix_nI hdayn (by omega), nx_nI (j := dayn) (by omega), rx_nI hwina hwin (by omega), nx_nI (j := win) (by omega), c_14, eq_self, ↓reduceIte, Bool.false_eq_true]; rfl), by rw [show nTree S (nI pin) (nI dayn) (nI win) = S from by first | (simp only [nTree, ix_nI hpin (by omega), nx_nI (j := pin) (by omega), ix_nI hdayn (by omega), nx_nI (j := dayn) (by omega), rx_nI hwina hwin (by omega), nx_nI (j := win) (by omega), c_14, eq_self, ↓reduceIte, Bool.false_eq_true]; done) | (simp only [nTree, ix_nI hpin (by omega), nx_nI (j := pin) (by omega), ix_nI hdayn (by omega), nx_nI (j := dayn) (by omega), rx_nI hwina hwin (by omega), nx_nI (j := win) (by omega), c_14, eq_self, ↓reduceIte, Bool.false_eq_true]; rfl)]; exact (MI.start (hM.thr 33 _ rfl)).pub hR⟩) dX10_tree_40

set_option maxHeartbeats 400000 in
set_option maxRecDepth 100000 in
theorem c_X10_lost (l : Launch) (D : va_G) (cA : Nat → ClassId) (B0 : Nat) (ad : kA) (hal : mAl ad) (d0 : kD) : oM l yX10_lost wX10_lost 1 0 0 D cA B0 ad d0 ([.ref (ad.1 40 0)] : List Value) (oQi D cA B0 ad (fun r d1 => r = nI 0 ∧ uI d0 40 0 33 (nI 1) = d1)) := by
  refine o_ofW (cc := cX10_lost) (maxL := 1) (ret := some .int) (by decide) rfl (Nat.le_of_ble_eq_true rfl) ?_
  intro p e s m below meth c hx hb hr hml hts hown hlocks hnm hK hW hB hS ls hl
  have hu : ∀ w ∈ UW, w.before _ s = true := fun w h => hts w (uw_c w h)
  have hl : lv_has ls 1 [(0, .ref (ad.1 40 0))] := hl
  refine lv_aload_n hx hb dX10_lost_0 rfl (lv_at hl 0 rfl) ?_
  refine n_iconst (v := 1) hx hb dX10_lost_1 (by decide) ?_
  refine mo_pi hx hb hu hown hK hal hW hS 33 (by decide +kernel) uF_X10_113 dX10_lost_2 (fun H locs hW hS => ?_)
  refine n_iconst (v := 0) hx hb dX10_lost_5 (by decide) ?_
  exact o_iret hx hb hr hlocks hW hS (⟨rfl, rfl⟩) dX10_lost_6

set_option maxHeartbeats 400000 in
set_option maxRecDepth 100000 in
theorem c_X10_thrown (l : Launch) (D : va_G) (cA : Nat → ClassId) (B0 : Nat) (ad : kA) (hal : mAl ad) (d0 : kD) : oM l yX10_thrown wX10_thrown 1 0 0 D cA B0 ad d0 ([.ref (ad.1 40 0)] : List Value) (oQi D cA B0 ad (fun r d1 => r = d0.1 40 0 33 ∧ d0 = d1)) := by
  refine o_ofW (cc := cX10_thrown) (maxL := 1) (ret := some .int) (by decide) rfl (Nat.le_of_ble_eq_true rfl) ?_
  intro p e s m below meth c hx hb hr hml hts hown hlocks hnm hK hW hB hS ls hl
  have hu : ∀ w ∈ UW, w.before _ s = true := fun w h => hts w (uw_c w h)
  have hl : lv_has ls 1 [(0, .ref (ad.1 40 0))] := hl
  refine lv_aload_n hx hb dX10_thrown_0 rfl (lv_at hl 0 rfl) ?_
  refine mo_gr hx hb hu hown hK hal hW 33 (by decide) uF_X10_113 dX10_thrown_1 ?_
  exact o_iret hx hb hr hlocks hW hS (⟨rfl, rfl⟩) dX10_thrown_4

set_option maxHeartbeats 400000 in
set_option maxRecDepth 100000 in
theorem c_X10_tell (l : Launch) (D : va_G) (cA : Nat → ClassId) (B0 : Nat) (ad : kA) (hal : mAl ad) (S : sS) (d0 : kD) (hS0 : dS S d0) (hG : sG S) (v : Int32) (hv : S 32 0 < 64) : oM l yX10_tell wX10_tell 1 0 0 D cA B0 ad d0 ([.ref (ad.1 40 0), .int v] : List Value) (oQv D cA B0 ad (fun d1 => uI (uI d0 81 0 (S 32 0) v) 40 0 32 (nI (S 32 0 + 1)) = d1)) := by
  refine o_ofW (cc := cX10_tell) (maxL := 2) (ret := none) (by decide) rfl (Nat.le_of_ble_eq_true rfl) ?_
  intro p e s m below meth c hx hb hr hml hts hown hlocks hnm hK hW hB hS ls hl
  have hu : ∀ w ∈ UW, w.before _ s = true := fun w h => hts w (uw_c w h)
  have hl : lv_has ls 2 [(0, .ref (ad.1 40 0)), (1, .int v)] := hl
  refine lv_aload_n hx hb dX10_tell_0 rfl (lv_at hl 0 rfl) ?_
  refine mo_ga hx hb hu hown hK hal hW 31 (by decide) uF_X10_83 dX10_tell_1 ?_
  refine lv_aload_n hx hb dX10_tell_4 rfl (lv_at hl 0 rfl) ?_
  refine mo_gi hx hb hu hown hK hal hW hS0 32 (by decide) uF_X10_123 dX10_tell_5 ?_
  have b_1 : S 32 0 ≤ 64 := hG.f 32 (mx := 64) (by decide)
  refine lv_iload_n hx hb dX10_tell_8 rfl (lv_at hl 1 rfl) ?_
  refine mo_st hx hb hK hal hW hS 31 (n := 64) (by decide) (by omega) dX10_tell_9 (fun H locs hW hS => ?_)
  refine lv_aload_n hx hb dX10_tell_10 rfl (lv_at hl 0 rfl) ?_
  refine lv_dup hx hb dX10_tell_11 rfl ?_
  have hS0 := hS0.stI 81 0 (S 32 0) v (by omega)
  refine mo_gi hx hb hu hown hK hal hW hS0 32 (by decide) uF_X10_123 dX10_tell_12 ?_
  have b_2 : S 32 0 ≤ 64 := hG.f 32 (mx := 64) (by decide)
  refine n_iconst (v := 1) hx hb dX10_tell_15 (by decide) ?_
  refine n_iadd hx hb dX10_tell_16 ?_
  refine mo_pi hx hb hu hown hK hal hW hS 32 (by decide +kernel) uF_X10_123 dX10_tell_17 (fun H locs hW hS => ?_)
  exact o_vret hx hb hr hlocks hW hS (rfl) dX10_tell_20

set_option maxHeartbeats 400000 in
set_option maxRecDepth 100000 in
theorem c_X10_barring (l : Launch) (D : va_G) (cA : Nat → ClassId) (B0 : Nat) (ad : kA) (hal : mAl ad) (S : sS) (d0 : kD) (hM : InvM S d0) (pp : Nat) (mm : Nat) (hp : pp < S 7 0) : oM l yX10_barring wX10_barring 7 0 0 D cA B0 ad d0 ([.ref (ad.1 40 0), .int (nI pp), .int (nI mm)] : List Value) (oQi D cA B0 ad (fun r d1 => r = nI (sRing S pp mm (S 18 0)) ∧ MI S d0 d1)) := by
  refine o_ofW (cc := cX10_barring) (maxL := 5) (ret := some .int) (by decide) rfl (Nat.le_of_ble_eq_true rfl) ?_
  intro p e s m below meth c hx hb hr hml hts hown hlocks hnm hK hW hB hS ls hl
  have hu : ∀ w ∈ UW, w.before _ s = true := fun w h => hts w (uw_c w h)
  have hl : lv_has ls 5 [(0, .ref (ad.1 40 0)), (1, .int (nI pp)), (2, .int (nI mm))] := hl
  have hI : MI S d0 d0 := MI.start hM
  have hG : sG S := hM.2.1
  have hb7 : S 7 0 ≤ 8 := hG.f 7 (mx := 8) (by decide)
  have hb18 : S 18 0 ≤ 40 := hG.f 18 (mx := 40) (by decide)
  have hb19 : S 19 0 ≤ 399 := hG.f 19 (mx := 399) (by decide)
  refine n_iconst (v := 0) hx hb dX10_barring_0 (by decide) ?_
  refine lv_istore_n (lv' := [(3, .int (nI 0)), (0, .ref (ad.1 40 0)), (1, .int (nI pp)), (2, .int (nI mm))]) hx hb dX10_barring_1 rfl hl (by decide) rfl (fun ls hl => ?_)
  refine n_iconst (v := 0) hx hb dX10_barring_2 (by decide) ?_
  refine lv_istore (lv' := [(4, .int (nI 0)), (3, .int (nI 0)), (0, .ref (ad.1 40 0)), (1, .int (nI pp)), (2, .int (nI mm))]) hx hb dX10_barring_3 hl (by decide) rfl (fun ls hl => ?_)
  have lp5 : ∀ (n : Nat) (n0 : Nat) (k : Nat)  (d : kD) (H : Heap) (locs : List Loc) (ls : Array Slot), S 18 0 - k < n → (k ≤ S 18 0) → (MI S d0 d) → (n0 = sRing S pp mm k) → oW D cA B0 ad d H → va_S (oA B0) s.heap H locs → lv_has ls 5 [(0, .ref (ad.1 40 0)), (1, .int (nI pp)), (2, .int (nI mm)), (3, .int (nI n0)), (4, .int (nI k))] → W p l e (oR 7 0 0) s m ([.ref (ad.1 40 0), .int (nI pp), .int (nI mm)] : List Value).toArray below meth c H locs 0 0 (MQ below (oQi D cA B0 ad (fun r d1 => r = nI (sRing S pp mm (S 18 0)) ∧ MI S d0 d1)) ([.ref (ad.1 40 0), .int (nI pp), .int (nI mm)] : List Value).toArray s 0 0 (oA B0)) (F0 m 5 ls []) := by
    intro n
    induction n with
    | zero => intro n0 k  d H locs ls hmu; exact absurd hmu (Nat.not_lt_zero _)
    | succ n ih_lp5 =>
      intro n0 k  d H locs ls hmu hk hI hn0 hW hS hl
      refine lv_iload hx hb dX10_barring_5 (lv_at hl 4 rfl) ?_
      refine lv_aload_n hx hb dX10_barring_7 rfl (lv_at hl 0 rfl) ?_
      refine mo_gi hx hb hu hown hK hal hW hI.dS 18 (by decide) uF_X10_185 dX10_barring_8 ?_
      have b_1 : S 18 0 ≤ 40 := hG.f 18 (mx := 40) (by decide)
      refine n_icmp_ge (tgt := 57) hx hb (by omega) (by omega) dX10_barring_11 (by decide) (fun c_2 => ?_) (fun c_2 => ?_)
      · refine lv_iload_n hx hb dX10_barring_57 rfl (lv_at hl 3 rfl) ?_
        exact o_iret hx hb hr hlocks hW hS (⟨by rw [hn0, show k = S 18 0 by omega], hI⟩) dX10_barring_58
      · refine lv_aload_n hx hb dX10_barring_14 rfl (lv_at hl 0 rfl) ?_
        refine mo_ga hx hb hu hown hK hal hW 12 (by decide) uF_X10_37 dX10_barring_15 ?_
        refine lv_iload hx hb dX10_barring_18 (lv_at hl 4 rfl) ?_
        refine mo_ld hx hb hK hal hW hI.dS 12 (n := 40) (by decide) (by omega) dX10_barring_20 ?_
        have b_3 : S 12 k ≤ 7 := hG.a 12 k (n := 40) (mx := 7) (by decide) (by omega)
        refine lv_iload_n hx hb dX10_barring_21 rfl (lv_at hl 1 rfl) ?_
        refine n_icmp_ne (tgt := 51) hx hb (by omega) (by omega) dX10_barring_22 (by decide) (fun c_a => ?_) (fun c_a => ?_)
        · have hst : sRing S pp mm (k + 1) = sRing S pp mm k := by rw [sRing, if_neg (fun q => c_a q.1)]
          refine n_iinc (q := 1) (lv' := [(4, .int (nI (k + 1))), (0, .ref (ad.1 40 0)), (1, .int (nI pp)), (2, .int (nI mm)), (3, .int (nI n0))]) hx hb dX10_barring_51 hl (k := 4) rfl (by decide) (by decide) rfl (fun ls hl => ?_)
          refine lv_goto (tgt := 5) hx hb dX10_barring_54 (by decide) ?_
          exact ih_lp5 n0 (k + 1) d _ _ ls (by omega) (by omega) hI (by rw [hst, ← hn0]) hW hS (lv_sub hl [1, 2, 3, 4, 0] rfl)
        · refine lv_aload_n hx hb dX10_barring_25 rfl (lv_at hl 0 rfl) ?_
          refine lv_iload hx hb dX10_barring_26 (lv_at hl 4 rfl) ?_
          refine lv_aload_n hx hb dX10_barring_28 rfl (lv_at hl 0 rfl) ?_
          refine mo_gi hx hb hu hown hK hal hW hI.dS 19 (by decide) uF_X10_55 dX10_barring_29 ?_
          have b_4 : S 19 0 ≤ 399 := hG.f 19 (mx := 399) (by decide)
          refine o_calli (o_runV (As := [.int (nI k), .int (nI (S 19 0))]) (rest := []) ⟨hx, hb, hml, hown, hu⟩ (c_X10_isKnown l D cA B0 ad hal S d hI.dS hG k (S 19 0) (by omega) (by omega)) (gV_X10_188 (fun _ h => h)) (n0 := 2) rfl (by decide +kernel) rfl ⟨Nat.le_of_ble_eq_true rfl, Nat.le_of_ble_eq_true rfl⟩ (o_recv hK hW hal.1 (kC_M _ _ _) rfl) hK hW hB hS hl.1 rfl (lv_room (Nat.le_of_ble_eq_true rfl)) ⟨Nat.zero_le _, Nat.zero_le _⟩ dX10_barring_32) hS (fun r_6 d_5 q_7 H locs hW hS => ?_)
          obtain ⟨rfl, rfl⟩ := q_7
          refine lv_if_eq (tgt := 51) hx hb dX10_barring_35 (by decide) (fun c_b => ?_) (fun c_b => ?_)
          · have hst : sRing S pp mm (k + 1) = sRing S pp mm k := by rw [sRing, if_neg (fun q => by rw [bI_z c_b] at q; exact absurd q.2.1 (by decide))]
            refine n_iinc (q := 1) (lv' := [(4, .int (nI (k + 1))), (0, .ref (ad.1 40 0)), (1, .int (nI pp)), (2, .int (nI mm)), (3, .int (nI n0))]) hx hb dX10_barring_51 hl (k := 4) rfl (by decide) (by decide) rfl (fun ls hl => ?_)
            refine lv_goto (tgt := 5) hx hb dX10_barring_54 (by decide) ?_
            exact ih_lp5 n0 (k + 1) d _ _ ls (by omega) (by omega) hI (by rw [hst, ← hn0]) hW hS (lv_sub hl [1, 2, 3, 4, 0] rfl)
          · refine lv_aload_n hx hb dX10_barring_38 rfl (lv_at hl 0 rfl) ?_
            refine lv_iload hx hb dX10_barring_39 (lv_at hl 4 rfl) ?_
            refine lv_iload_n hx hb dX10_barring_41 rfl (lv_at hl 2 rfl) ?_
            refine o_calli (o_runV (As := [.int (nI k), .int (nI mm)]) (rest := []) ⟨hx, hb, hml, hown, hu⟩ (c_X10_bars l D cA B0 ad hal S d hI.1 k mm (by omega)) (gV_X10_220 (fun _ h => h)) (n0 := 2) rfl (by decide +kernel) rfl ⟨Nat.le_of_ble_eq_true rfl, Nat.le_of_ble_eq_true rfl⟩ (o_recv hK hW hal.1 (kC_M _ _ _) rfl) hK hW hB hS hl.1 rfl (lv_room (Nat.le_of_ble_eq_true rfl)) ⟨Nat.zero_le _, Nat.zero_le _⟩ dX10_barring_42) hS (fun r_9 d_8 q_10 H locs hW hS => ?_)
            obtain ⟨rfl, hq⟩ := q_10
            have hI := hI.trans hq
            refine lv_if_eq (tgt := 51) hx hb dX10_barring_45 (by decide) (fun c_c => ?_) (fun c_c => ?_)
            · have hst : sRing S pp mm (k + 1) = sRing S pp mm k := by rw [sRing, if_neg (fun q => by rw [bI_z c_c] at q; exact absurd q.2.2 (by decide))]
              refine n_iinc (q := 1) (lv' := [(4, .int (nI (k + 1))), (0, .ref (ad.1 40 0)), (1, .int (nI pp)), (2, .int (nI mm)), (3, .int (nI n0))]) hx hb dX10_barring_51 hl (k := 4) rfl (by decide) (by decide) rfl (fun ls hl => ?_)
              refine lv_goto (tgt := 5) hx hb dX10_barring_54 (by decide) ?_
              exact ih_lp5 n0 (k + 1) d_8 _ _ ls (by omega) (by omega) hI (by rw [hst, ← hn0]) hW hS (lv_sub hl [1, 2, 3, 4, 0] rfl)
            · have hst : sRing S pp mm (k + 1) = sRing S pp mm k + 1 := by rw [sRing, if_pos ⟨c_a, bI_n c_b, bI_n c_c⟩]
              refine n_iinc (q := 1) (lv' := [(3, .int (nI (n0 + 1))), (0, .ref (ad.1 40 0)), (1, .int (nI pp)), (2, .int (nI mm)), (4, .int (nI k))]) hx hb dX10_barring_48 hl (k := 3) rfl (by decide) (by decide) rfl (fun ls hl => ?_)
              refine n_iinc (q := 1) (lv' := [(4, .int (nI (k + 1))), (3, .int (nI (n0 + 1))), (0, .ref (ad.1 40 0)), (1, .int (nI pp)), (2, .int (nI mm))]) hx hb dX10_barring_51 hl (k := 4) rfl (by decide) (by decide) rfl (fun ls hl => ?_)
              refine lv_goto (tgt := 5) hx hb dX10_barring_54 (by decide) ?_
              exact ih_lp5 (n0 + 1) (k + 1) d_8 _ _ ls (by omega) (by omega) hI (by rw [hst, ← hn0]) hW hS (lv_sub hl [2, 3, 4, 1, 0] rfl)
  exact lp5 (S 18 0 + 1) 0 0 d0 _ _ ls (by omega) (by omega) hI rfl hW hS (lv_sub hl [2, 3, 4, 1, 0] rfl)

set_option maxHeartbeats 400000 in
set_option maxRecDepth 100000 in
theorem c_X10_yes (l : Launch) (D : va_G) (cA : Nat → ClassId) (B0 : Nat) (ad : kA) (hal : mAl ad) (S : sS) (d0 : kD) (hM : InvM S d0) (pp : Nat) (x : Int64) (dd : Nat) (qq : Nat) (hp : pp < S 7 0) (hd : dd < 400) (hq : qq < 2) : oM l yX10_yes wX10_yes 6 0 0 D cA B0 ad d0 ([.ref (ad.1 40 0), .int (nI pp), .long x, .int (nI dd), .int (nI qq)] : List Value) (oQl D cA B0 ad (fun r d1 => r = sYes S pp x dd qq ∧ MI S d0 d1)) := by
  refine o_ofW (cc := cX10_yes) (maxL := 9) (ret := some .long) (by decide) rfl (Nat.le_of_ble_eq_true rfl) ?_
  intro p e s m below meth c hx hb hr hml hts hown hlocks hnm hK hW hB hS ls hl
  have hu : ∀ w ∈ UW, w.before _ s = true := fun w h => hts w (uw_c w h)
  have hl : lv_has ls 9 [(0, .ref (ad.1 40 0)), (1, .int (nI pp)), (2, .long x), (4, .int (nI dd)), (5, .int (nI qq))] := hl
  have hI : MI S d0 d0 := MI.start hM
  have hG : sG S := hM.2.1
  have hb7 : S 7 0 ≤ 8 := hG.f 7 (mx := 8) (by decide)
  have hb18 : S 18 0 ≤ 40 := hG.f 18 (mx := 40) (by decide)
  refine lv_lconst (v := 0) hx hb dX10_yes_0 (by decide) ?_
  refine lv_lstore (lv' := [(6, .long 0), (0, .ref (ad.1 40 0)), (1, .int (nI pp)), (2, .long x), (4, .int (nI dd)), (5, .int (nI qq))]) hx hb dX10_yes_1 hl (by decide) rfl (fun ls hl => ?_)
  refine n_iconst (v := 0) hx hb dX10_yes_3 (by decide) ?_
  refine lv_istore (lv' := [(8, .int (nI 0)), (6, .long 0), (0, .ref (ad.1 40 0)), (1, .int (nI pp)), (2, .long x), (4, .int (nI dd)), (5, .int (nI qq))]) hx hb dX10_yes_4 hl (by decide) rfl (fun ls hl => ?_)
  have lp6 : ∀ (n : Nat) (bt : Int64) (k : Nat)  (d : kD) (H : Heap) (locs : List Loc) (ls : Array Slot), 64 - k < n → (k ≤ 64) → (MI S d0 d) → (bt = sBits (sYe S pp x dd qq) k) → oW D cA B0 ad d H → va_S (oA B0) s.heap H locs → lv_has ls 9 [(0, .ref (ad.1 40 0)), (1, .int (nI pp)), (2, .long x), (4, .int (nI dd)), (5, .int (nI qq)), (6, .long bt), (8, .int (nI k))] → W p l e (oR 6 0 0) s m ([.ref (ad.1 40 0), .int (nI pp), .long x, .int (nI dd), .int (nI qq)] : List Value).toArray below meth c H locs 0 0 (MQ below (oQl D cA B0 ad (fun r d1 => r = sYes S pp x dd qq ∧ MI S d0 d1)) ([.ref (ad.1 40 0), .int (nI pp), .long x, .int (nI dd), .int (nI qq)] : List Value).toArray s 0 0 (oA B0)) (F0 m 6 ls []) := by
    intro n
    induction n with
    | zero => intro bt k  d H locs ls hmu; exact absurd hmu (Nat.not_lt_zero _)
    | succ n ih_lp6 =>
      intro bt k  d H locs ls hmu hk hI hbt hW hS hl
      refine lv_iload hx hb dX10_yes_6 (lv_at hl 6 rfl) ?_
      refine n_bipush (v := 64) hx hb dX10_yes_8 (by decide) ?_
      refine n_icmp_ge (tgt := 53) hx hb (by omega) (by omega) dX10_yes_10 (by decide) (fun c_1 => ?_) (fun c_1 => ?_)
      · refine lv_lload hx hb dX10_yes_53 (lv_at hl 5 rfl) ?_
        exact o_lret hx hb hr hlocks hW hS (⟨by rw [hbt, show k = 64 by omega]; rfl, hI⟩) dX10_yes_55
      · refine lv_lload_n hx hb dX10_yes_13 rfl (lv_at hl 2 rfl) ?_
        refine lv_iload hx hb dX10_yes_14 (lv_at hl 6 rfl) ?_
        refine o_calli (o_runS (As := [.long x, .int (nI k)]) (rest := []) ⟨hx, hb, hml, hown, hu⟩ (c_X10_has l D cA B0 ad hal d x k ) (gS_X10_179 (fun _ h => h)) (n0 := 2) rfl (by decide +kernel) rfl ⟨Nat.le_of_ble_eq_true rfl, Nat.le_of_ble_eq_true rfl⟩ hK hW hB hS hl.1 rfl (lv_room (Nat.le_of_ble_eq_true rfl)) ⟨Nat.zero_le _, Nat.zero_le _⟩ dX10_yes_16) hS (fun r_3 d_2 q_4 H locs hW hS => ?_)
        obtain ⟨rfl, rfl⟩ := q_4
        refine lv_if_eq (tgt := 47) hx hb dX10_yes_19 (by decide) (fun c_a => ?_) (fun c_a => ?_)
        · have hst : sBits (sYe S pp x dd qq) (k + 1) = sBits (sYe S pp x dd qq) k := by rw [sBits, if_neg (by unfold sYe; rw [bI_z c_a, Bool.false_and]; decide)]
          refine n_iinc (q := 1) (lv' := [(8, .int (nI (k + 1))), (0, .ref (ad.1 40 0)), (1, .int (nI pp)), (2, .long x), (4, .int (nI dd)), (5, .int (nI qq)), (6, .long bt)]) hx hb dX10_yes_47 hl (k := 6) rfl (by decide) (by decide) rfl (fun ls hl => ?_)
          refine lv_goto (tgt := 6) hx hb dX10_yes_50 (by decide) ?_
          exact ih_lp6 bt (k + 1) d _ _ ls (by omega) (by omega) hI (by rw [hst, ← hbt]) hW hS (lv_sub hl [1, 2, 3, 4, 5, 6, 0] rfl)
        · refine lv_aload_n hx hb dX10_yes_22 rfl (lv_at hl 0 rfl) ?_
          refine lv_iload_n hx hb dX10_yes_23 rfl (lv_at hl 1 rfl) ?_
          refine lv_iload hx hb dX10_yes_24 (lv_at hl 6 rfl) ?_
          refine lv_iload hx hb dX10_yes_26 (lv_at hl 3 rfl) ?_
          refine o_calli (o_runV (As := [.int (nI pp), .int (nI k), .int (nI dd)]) (rest := []) ⟨hx, hb, hml, hown, hu⟩ (c_X10_stateOf l D cA B0 ad hal S d hI.1 pp k dd (by omega) (by omega) (by omega)) (gV_X10_168 (fun _ h => h)) (n0 := 3) rfl (by decide +kernel) rfl ⟨Nat.le_of_ble_eq_true rfl, Nat.le_of_ble_eq_true rfl⟩ (o_recv hK hW hal.1 (kC_M _ _ _) rfl) hK hW hB hS hl.1 rfl (lv_room (Nat.le_of_ble_eq_true rfl)) ⟨Nat.zero_le _, Nat.zero_le _⟩ dX10_yes_28) hS (fun r_6 d_5 q_7 H locs hW hS => ?_)
          obtain ⟨rfl, hq⟩ := q_7
          have hI := hI.trans hq
          have hs2 : sState S pp k dd ≤ 2 := sState_le _ _ _ _
          refine n_iconst (v := 2) hx hb dX10_yes_31 (by decide) ?_
          refine lv_iload hx hb dX10_yes_32 (lv_at hl 4 rfl) ?_
          refine n_imul hx hb dX10_yes_34 ?_
          refine n_icmp_ne (tgt := 47) hx hb (by omega) (by omega) dX10_yes_35 (by decide) (fun c_b => ?_) (fun c_b => ?_)
          · have hst : sBits (sYe S pp x dd qq) (k + 1) = sBits (sYe S pp x dd qq) k := by rw [sBits, if_neg (by unfold sYe; rw [decide_eq_false c_b, Bool.and_false]; decide)]
            refine n_iinc (q := 1) (lv' := [(8, .int (nI (k + 1))), (0, .ref (ad.1 40 0)), (1, .int (nI pp)), (2, .long x), (4, .int (nI dd)), (5, .int (nI qq)), (6, .long bt)]) hx hb dX10_yes_47 hl (k := 6) rfl (by decide) (by decide) rfl (fun ls hl => ?_)
            refine lv_goto (tgt := 6) hx hb dX10_yes_50 (by decide) ?_
            exact ih_lp6 bt (k + 1) d_5 _ _ ls (by omega) (by omega) hI (by rw [hst, ← hbt]) hW hS (lv_sub hl [1, 2, 3, 4, 5, 6, 0] rfl)
          · have hst : sBits (sYe S pp x dd qq) (k + 1) = sBits (sYe S pp x dd qq) k ||| lsl 1 k := by rw [sBits, if_pos (by unfold sYe; rw [decide_eq_true c_b, bI_n c_a]; rfl)]
            refine lv_lload hx hb dX10_yes_38 (lv_at hl 5 rfl) ?_
            refine lv_lconst (v := 1) hx hb dX10_yes_40 (by decide) ?_
            refine lv_iload hx hb dX10_yes_41 (lv_at hl 6 rfl) ?_
            refine lv_lshl (v := lsl 1 k) hx hb dX10_yes_43 rfl ?_
            refine lv_lor hx hb dX10_yes_44 ?_
            refine lv_lstore (lv' := [(6, .long (bt ||| (lsl 1 k))), (0, .ref (ad.1 40 0)), (1, .int (nI pp)), (2, .long x), (4, .int (nI dd)), (5, .int (nI qq)), (8, .int (nI k))]) hx hb dX10_yes_45 hl (by decide) rfl (fun ls hl => ?_)
            refine n_iinc (q := 1) (lv' := [(8, .int (nI (k + 1))), (6, .long (bt ||| (lsl 1 k))), (0, .ref (ad.1 40 0)), (1, .int (nI pp)), (2, .long x), (4, .int (nI dd)), (5, .int (nI qq))]) hx hb dX10_yes_47 hl (k := 6) rfl (by decide) (by decide) rfl (fun ls hl => ?_)
            refine lv_goto (tgt := 6) hx hb dX10_yes_50 (by decide) ?_
            exact ih_lp6 (bt ||| (lsl 1 k)) (k + 1) d_5 _ _ ls (by omega) (by omega) hI (by rw [hst, ← hbt]) hW hS (lv_sub hl [2, 3, 4, 5, 6, 1, 0] rfl)
  exact lp6 (65) 0 0 d0 _ _ ls (by omega) (by omega) hI rfl hW hS (lv_sub hl [2, 3, 4, 5, 6, 1, 0] rfl)

set_option maxHeartbeats 400000 in
set_option maxRecDepth 100000 in
theorem c_X10_state (l : Launch) (D : va_G) (cA : Nat → ClassId) (B0 : Nat) (ad : kA) (hal : mAl ad) (S : sS) (sr : Nat → Int32) (d0 : kD) (hM : InvM S d0) (hR : RowM S sr d0) (pi day : Int32) : oM l yX10_state wX10_state 9 0 0 D cA B0 ad d0 ([.ref (ad.1 40 0), .int pi, .int day] : List Value) (oQi D cA B0 ad (fun r d1 => r = aState S pi day ∧ PI S sr d0 d1)) := by
  refine o_ofW (cc := cX10_state) (maxL := 8) (ret := some .int) (by decide) rfl (Nat.le_of_ble_eq_true rfl) ?_
  intro p e s m below meth c hx hb hr hml hts hown hlocks hnm hK hW hB hS ls hl
  have hu : ∀ w ∈ UW, w.before _ s = true := fun w h => hts w (uw_c w h)
  have hl : lv_has ls 8 [(0, .ref (ad.1 40 0)), (1, .int pi), (2, .int day)] := hl
  refine lv_aload_n hx hb dX10_state_0 rfl (lv_at hl 0 rfl) ?_
  refine n_iconst (v := 0) hx hb dX10_state_1 (by decide) ?_
  refine mo_pi hx hb hu hown hK hal hW hS 33 (by decide +kernel) uF_X10_113 dX10_state_2 (fun H locs hW hS => ?_)
  have hI : MI S (uI d0 40 0 33 (nI 0)) (uI d0 40 0 33 (nI 0)) := MI.start (hM.thr 33 _ rfl)
  have hG : sG S := hM.2.1
  have hb1 : S 1 0 ≤ 4 := hG.f 1 (mx := 4) (by decide)
  have hb7 : S 7 0 ≤ 8 := hG.f 7 (mx := 8) (by decide)
  have hb11 : S 11 0 ≤ 20 := hG.f 11 (mx := 20) (by decide)
  have hb18 : S 18 0 ≤ 40 := hG.f 18 (mx := 40) (by decide)
  have hb19 : S 19 0 ≤ 399 := hG.f 19 (mx := 399) (by decide)
  have hb22 : S 22 0 ≤ 64 := hG.f 22 (mx := 64) (by decide)
  have hb25 : S 25 0 ≤ 4 := hG.f 25 (mx := 4) (by decide)
  have hb30 : S 30 0 ≤ 10 := hG.f 30 (mx := 10) (by decide)
  have hb32 : S 32 0 ≤ 64 := hG.f 32 (mx := 64) (by decide)
  refine lv_aload_n hx hb dX10_state_5 rfl (lv_at hl 0 rfl) ?_
  refine lv_iload_n hx hb dX10_state_6 rfl (lv_at hl 1 rfl) ?_
  refine o_calli (o_runV (As := [.int pi]) (rest := []) ⟨hx, hb, hml, hown, hu⟩ (c_X10_isPier l D cA B0 ad hal S (uI d0 40 0 33 (nI 0)) hI.dS hG pi ) (gV_X10_145 (fun _ h => h)) (n0 := 1) rfl (by decide +kernel) rfl ⟨Nat.le_of_ble_eq_true rfl, Nat.le_of_ble_eq_true rfl⟩ (o_recv hK hW hal.1 (kC_M _ _ _) rfl) hK hW hB hS hl.1 rfl (lv_room (Nat.le_of_ble_eq_true rfl)) ⟨Nat.zero_le _, Nat.zero_le _⟩ dX10_state_7) hS (fun r_2 d_1 q_3 H locs hW hS => ?_)
  obtain ⟨rfl, rfl⟩ := q_3
  refine lv_if_eq (tgt := 20) hx hb dX10_state_10 (by decide) (fun c_4 => ?_) (fun c_4 => ?_)
  · refine lv_iconst (v := -1) hx hb dX10_state_20 (by decide) ?_
    exact o_iret hx hb hr hlocks hW hS (⟨by first | (simp only [aState, bI_z c_4, eq_self, ↓reduceIte, Bool.false_eq_true]; done) | (simp only [aState, bI_z c_4, eq_self, ↓reduceIte, Bool.false_eq_true]; rfl), hI.pub hR⟩) dX10_state_21
  · obtain ⟨pin, hpin, rfl⟩ := ix_t (bI_n c_4) (by omega)
    refine lv_iload_n hx hb dX10_state_13 rfl (lv_at hl 2 rfl) ?_
    refine o_calli (o_runS (As := [.int day]) (rest := []) ⟨hx, hb, hml, hown, hu⟩ (c_X10_isDay l D cA B0 ad hal (uI d0 40 0 33 (nI 0)) day) (gS_X10_126 (fun _ h => h)) (n0 := 1) rfl (by decide +kernel) rfl ⟨Nat.le_of_ble_eq_true rfl, Nat.le_of_ble_eq_true rfl⟩ hK hW hB hS hl.1 rfl (lv_room (Nat.le_of_ble_eq_true rfl)) ⟨Nat.zero_le _, Nat.zero_le _⟩ dX10_state_14) hS (fun r_6 d_5 q_7 H locs hW hS => ?_)
    obtain ⟨rfl, rfl⟩ := q_7
    refine lv_if_ne (tgt := 22) hx hb dX10_state_17 (by decide) (fun c_8 => ?_) (fun c_8 => ?_)
    · obtain ⟨dayn, hdayn, rfl⟩ := ix_t (bI_n c_8) (by omega)
      refine lv_aload_n hx hb dX10_state_22 rfl (lv_at hl 0 rfl) ?_
      refine lv_iload_n hx hb dX10_state_23 rfl (lv_at hl 1 rfl) ?_
      refine lv_aload_n hx hb dX10_state_24 rfl (lv_at hl 0 rfl) ?_
      refine mo_gi hx hb hu hown hK hal hW hI.dS 19 (by decide) uF_X10_55 dX10_state_25 ?_
      have b_9 : S 19 0 ≤ 399 := hG.f 19 (mx := 399) (by decide)
      refine o_calll (o_runV (As := [.int (nI pin), .int (nI (S 19 0))]) (rest := []) ⟨hx, hb, hml, hown, hu⟩ (c_X10_keptOn l D cA B0 ad hal S (uI d0 40 0 33 (nI 0)) hI.1 pin (S 19 0) (by omega) (by omega)) (gV_X10_207 (fun _ h => h)) (n0 := 2) rfl (by decide +kernel) rfl ⟨Nat.le_of_ble_eq_true rfl, Nat.le_of_ble_eq_true rfl⟩ (o_recv hK hW hal.1 (kC_M _ _ _) rfl) hK hW hB hS hl.1 rfl (lv_room (Nat.le_of_ble_eq_true rfl)) ⟨Nat.zero_le _, Nat.zero_le _⟩ dX10_state_28) hS (fun r_11 d_10 q_12 H locs hW hS => ?_)
      obtain ⟨rfl, hq⟩ := q_12
      have hI := hI.trans hq
      refine lv_lstore_n (lv' := [(3, .long (sKept S pin (S 19 0))), (0, .ref (ad.1 40 0)), (1, .int (nI pin)), (2, .int (nI dayn))]) hx hb dX10_state_31 rfl hl (by decide) rfl (fun ls hl => ?_)
      refine lv_lload_n hx hb dX10_state_32 rfl (lv_at hl 0 rfl) ?_
      refine lv_lconst (v := 0) hx hb dX10_state_33 (by decide) ?_
      refine W.lcmp hx hb dX10_state_34 ?_
      refine lv_if_ne (tgt := 40) hx hb dX10_state_35 (by decide) (fun c_z => ?_) (fun c_z => ?_)
      · have hz : ¬ sKept S pin (S 19 0) = 0 := fun q => c_z ((lg_cmp_eq _ _).mpr q)
        refine lv_iconst (v := -1) hx hb dX10_state_40 (by decide) ?_
        refine lv_istore (lv' := [(5, .int (-1)), (3, .long (sKept S pin (S 19 0))), (0, .ref (ad.1 40 0)), (1, .int (nI pin)), (2, .int (nI dayn))]) hx hb dX10_state_41 hl (by decide) rfl (fun ls hl => ?_)
        refine n_iconst (v := 0) hx hb dX10_state_43 (by decide) ?_
        refine lv_istore (lv' := [(6, .int (nI 0)), (5, .int (-1)), (3, .long (sKept S pin (S 19 0))), (0, .ref (ad.1 40 0)), (1, .int (nI pin)), (2, .int (nI dayn))]) hx hb dX10_state_44 hl (by decide) rfl (fun ls hl => ?_)
        have lp46 : ∀ (n : Nat) (fd : Int32) (k : Nat)  (d : kD) (H : Heap) (locs : List Loc) (ls : Array Slot), 64 - k < n → (k ≤ 64) → (MI S (uI d0 40 0 33 (nI 0)) d) → (stL S pin dayn (sKept S pin (S 19 0)) 64 0 (-1) = stL S pin dayn (sKept S pin (S 19 0)) (64 - k) k fd) → oW D cA B0 ad d H → va_S (oA B0) s.heap H locs → lv_has ls 8 [(0, .ref (ad.1 40 0)), (1, .int (nI pin)), (2, .int (nI dayn)), (3, .long (sKept S pin (S 19 0))), (5, .int fd), (6, .int (nI k))] → W p l e (oR 9 0 0) s m ([.ref (ad.1 40 0), .int (nI pin), .int (nI dayn)] : List Value).toArray below meth c H locs 0 0 (MQ below (oQi D cA B0 ad (fun r d1 => r = aState S (nI pin) (nI dayn) ∧ PI S sr d0 d1)) ([.ref (ad.1 40 0), .int (nI pin), .int (nI dayn)] : List Value).toArray s 0 0 (oA B0)) (F0 m 46 ls []) := by
          intro n
          induction n with
          | zero => intro fd k  d H locs ls hmu; exact absurd hmu (Nat.not_lt_zero _)
          | succ n ih_lp46 =>
            intro fd k  d H locs ls hmu hk hI hst hW hS hl
            refine lv_iload hx hb dX10_state_46 (lv_at hl 5 rfl) ?_
            refine n_bipush (v := 64) hx hb dX10_state_48 (by decide) ?_
            refine n_icmp_ge (tgt := 100) hx hb (by omega) (by omega) dX10_state_50 (by decide) (fun c_13 => ?_) (fun c_13 => ?_)
            · refine lv_iload hx hb dX10_state_100 (lv_at hl 4 rfl) ?_
              exact o_iret hx hb hr hlocks hW hS (⟨by simp only [aState, ix_nI hpin (by omega), nx_nI (j := pin) (by omega), ix_nI hdayn (by omega), nx_nI (j := dayn) (by omega), hz, eq_self, ↓reduceIte, Bool.false_eq_true]; rw [hst, show 64 - k = 0 by omega, stL], hI.pub hR⟩) dX10_state_102
            · refine lv_lload_n hx hb dX10_state_53 rfl (lv_at hl 3 rfl) ?_
              refine lv_iload hx hb dX10_state_54 (lv_at hl 5 rfl) ?_
              refine o_calli (o_runS (As := [.long (sKept S pin (S 19 0)), .int (nI k)]) (rest := []) ⟨hx, hb, hml, hown, hu⟩ (c_X10_has l D cA B0 ad hal d (sKept S pin (S 19 0)) k ) (gS_X10_179 (fun _ h => h)) (n0 := 2) rfl (by decide +kernel) rfl ⟨Nat.le_of_ble_eq_true rfl, Nat.le_of_ble_eq_true rfl⟩ hK hW hB hS hl.1 rfl (lv_room (Nat.le_of_ble_eq_true rfl)) ⟨Nat.zero_le _, Nat.zero_le _⟩ dX10_state_56) hS (fun r_15 d_14 q_16 H locs hW hS => ?_)
              obtain ⟨rfl, rfl⟩ := q_16
              refine lv_if_ne (tgt := 65) hx hb dX10_state_59 (by decide) (fun c_h => ?_) (fun c_h => ?_)
              · refine lv_aload_n hx hb dX10_state_65 rfl (lv_at hl 0 rfl) ?_
                refine lv_iload_n hx hb dX10_state_66 rfl (lv_at hl 1 rfl) ?_
                refine lv_iload hx hb dX10_state_67 (lv_at hl 5 rfl) ?_
                refine lv_iload_n hx hb dX10_state_69 rfl (lv_at hl 2 rfl) ?_
                refine o_calli (o_runV (As := [.int (nI pin), .int (nI k), .int (nI dayn)]) (rest := []) ⟨hx, hb, hml, hown, hu⟩ (c_X10_stateOf l D cA B0 ad hal S d hI.1 pin k dayn (by omega) (by omega) (by omega)) (gV_X10_168 (fun _ h => h)) (n0 := 3) rfl (by decide +kernel) rfl ⟨Nat.le_of_ble_eq_true rfl, Nat.le_of_ble_eq_true rfl⟩ (o_recv hK hW hal.1 (kC_M _ _ _) rfl) hK hW hB hS hl.1 rfl (lv_room (Nat.le_of_ble_eq_true rfl)) ⟨Nat.zero_le _, Nat.zero_le _⟩ dX10_state_70) hS (fun r_18 d_17 q_19 H locs hW hS => ?_)
                obtain ⟨rfl, hq⟩ := q_19
                have hI := hI.trans hq
                have hs2 : sState S pin k dayn ≤ 2 := sState_le _ _ _ _
                refine lv_istore (lv' := [(7, .int (nI (sState S pin k dayn))), (0, .ref (ad.1 40 0)), (1, .int (nI pin)), (2, .int (nI dayn)), (3, .long (sKept S pin (S 19 0))), (5, .int fd), (6, .int (nI k))]) hx hb dX10_state_73 hl (by decide) rfl (fun ls hl => ?_)
                refine lv_iload hx hb dX10_state_75 (lv_at hl 5 rfl) ?_
                refine lv_iconst (v := -1) hx hb dX10_state_77 (by decide) ?_
                refine lv_icmp_eq (tgt := 90) hx hb dX10_state_78 (by decide) (fun c_f => ?_) (fun c_f => ?_)
                · have hnx : stL S pin dayn (sKept S pin (S 19 0)) (64 - k) k fd = stL S pin dayn (sKept S pin (S 19 0)) (64 - (k + 1)) (k + 1) (nI (sState S pin k dayn)) := by rw [show 64 - k = (64 - (k + 1)) + 1 by omega, stL, if_pos (bI_n c_h), if_neg (fun q => q.1 c_f)]
                  refine lv_iload hx hb dX10_state_90 (lv_at hl 0 rfl) ?_
                  refine lv_istore (lv' := [(5, .int (nI (sState S pin k dayn))), (7, .int (nI (sState S pin k dayn))), (0, .ref (ad.1 40 0)), (1, .int (nI pin)), (2, .int (nI dayn)), (3, .long (sKept S pin (S 19 0))), (6, .int (nI k))]) hx hb dX10_state_92 hl (by decide) rfl (fun ls hl => ?_)
                  refine n_iinc (q := 1) (lv' := [(6, .int (nI (k + 1))), (5, .int (nI (sState S pin k dayn))), (7, .int (nI (sState S pin k dayn))), (0, .ref (ad.1 40 0)), (1, .int (nI pin)), (2, .int (nI dayn)), (3, .long (sKept S pin (S 19 0)))]) hx hb dX10_state_94 hl (k := 6) rfl (by decide) (by decide) rfl (fun ls hl => ?_)
                  refine lv_goto (tgt := 46) hx hb dX10_state_97 (by decide) ?_
                  exact ih_lp46 (nI (sState S pin k dayn)) (k + 1) d_17 _ _ ls (by omega) (by omega) hI (by rw [hst, hnx]) hW hS (lv_sub hl [3, 4, 5, 6, 1, 0] rfl)
                · refine lv_iload hx hb dX10_state_81 (lv_at hl 5 rfl) ?_
                  refine lv_iload hx hb dX10_state_83 (lv_at hl 0 rfl) ?_
                  refine lv_icmp_eq (tgt := 90) hx hb dX10_state_85 (by decide) (fun c_g => ?_) (fun c_g => ?_)
                  · have hnx : stL S pin dayn (sKept S pin (S 19 0)) (64 - k) k fd = stL S pin dayn (sKept S pin (S 19 0)) (64 - (k + 1)) (k + 1) (nI (sState S pin k dayn)) := by rw [show 64 - k = (64 - (k + 1)) + 1 by omega, stL, if_pos (bI_n c_h), if_neg (fun q => q.2 c_g)]
                    refine lv_iload hx hb dX10_state_90 (lv_at hl 0 rfl) ?_
                    refine lv_istore (lv' := [(5, .int (nI (sState S pin k dayn))), (7, .int (nI (sState S pin k dayn))), (0, .ref (ad.1 40 0)), (1, .int (nI pin)), (2, .int (nI dayn)), (3, .long (sKept S pin (S 19 0))), (6, .int (nI k))]) hx hb dX10_state_92 hl (by decide) rfl (fun ls hl => ?_)
                    refine n_iinc (q := 1) (lv' := [(6, .int (nI (k + 1))), (5, .int (nI (sState S pin k dayn))), (7, .int (nI (sState S pin k dayn))), (0, .ref (ad.1 40 0)), (1, .int (nI pin)), (2, .int (nI dayn)), (3, .long (sKept S pin (S 19 0)))]) hx hb dX10_state_94 hl (k := 6) rfl (by decide) (by decide) rfl (fun ls hl => ?_)
                    refine lv_goto (tgt := 46) hx hb dX10_state_97 (by decide) ?_
                    exact ih_lp46 (nI (sState S pin k dayn)) (k + 1) d_17 _ _ ls (by omega) (by omega) hI (by rw [hst, hnx]) hW hS (lv_sub hl [3, 4, 5, 6, 1, 0] rfl)
                  · refine n_iconst (v := 3) hx hb dX10_state_88 (by decide) ?_
                    exact o_iret hx hb hr hlocks hW hS (⟨by simp only [aState, ix_nI hpin (by omega), nx_nI (j := pin) (by omega), ix_nI hdayn (by omega), nx_nI (j := dayn) (by omega), hz, eq_self, ↓reduceIte, Bool.false_eq_true]; rw [hst, show 64 - k = (64 - (k + 1)) + 1 by omega, stL, if_pos (bI_n c_h), if_pos ⟨c_f, c_g⟩], hI.pub hR⟩) dX10_state_89
              · have hnx : stL S pin dayn (sKept S pin (S 19 0)) (64 - k) k fd = stL S pin dayn (sKept S pin (S 19 0)) (64 - (k + 1)) (k + 1) fd := by rw [show 64 - k = (64 - (k + 1)) + 1 by omega, stL, if_neg (by rw [bI_z c_h]; decide)]
                refine lv_goto (tgt := 94) hx hb dX10_state_62 (by decide) ?_
                refine n_iinc (q := 1) (lv' := [(6, .int (nI (k + 1))), (0, .ref (ad.1 40 0)), (1, .int (nI pin)), (2, .int (nI dayn)), (3, .long (sKept S pin (S 19 0))), (5, .int fd)]) hx hb dX10_state_94 hl (k := 5) rfl (by decide) (by decide) rfl (fun ls hl => ?_)
                refine lv_goto (tgt := 46) hx hb dX10_state_97 (by decide) ?_
                exact ih_lp46 fd (k + 1) d _ _ ls (by omega) (by omega) hI (by rw [hst, hnx]) hW hS (lv_sub hl [1, 2, 3, 4, 5, 0] rfl)
        exact lp46 (65) (-1) 0 d_10 _ _ ls (by omega) (by omega) hI rfl hW hS (lv_sub hl [3, 4, 5, 2, 1, 0] rfl)
      · have hz : sKept S pin (S 19 0) = 0 := (lg_cmp_eq _ _).mp c_z
        refine n_iconst (v := 4) hx hb dX10_state_38 (by decide) ?_
        exact o_iret hx hb hr hlocks hW hS (⟨by first | (simp only [aState, ix_nI hpin (by omega), nx_nI (j := pin) (by omega), ix_nI hdayn (by omega), nx_nI (j := dayn) (by omega), hz, eq_self, ↓reduceIte, Bool.false_eq_true]; done) | (simp only [aState, ix_nI hpin (by omega), nx_nI (j := pin) (by omega), ix_nI hdayn (by omega), nx_nI (j := dayn) (by omega), hz, eq_self, ↓reduceIte, Bool.false_eq_true]; rfl), hI.pub hR⟩) dX10_state_39
    · refine lv_iconst (v := -1) hx hb dX10_state_20 (by decide) ?_
      exact o_iret hx hb hr hlocks hW hS (⟨by first | (simp only [aState, ix_nI hpin (by omega), nx_nI (j := pin) (by omega), bI_z c_8, eq_self, ↓reduceIte, Bool.false_eq_true]; done) | (simp only [aState, ix_nI hpin (by omega), nx_nI (j := pin) (by omega), bI_z c_8, eq_self, ↓reduceIte, Bool.false_eq_true]; rfl), hI.pub hR⟩) dX10_state_21

set_option maxHeartbeats 400000 in
set_option maxRecDepth 100000 in
theorem c_X10_count (l : Launch) (D : va_G) (cA : Nat → ClassId) (B0 : Nat) (ad : kA) (hal : mAl ad) (S : sS) (sr : Nat → Int32) (d0 : kD) (hM : InvM S d0) (hR : RowM S sr d0) (wh : Int32) : oM l yX10_count wX10_count 9 0 0 D cA B0 ad d0 ([.ref (ad.1 40 0), .int wh] : List Value) (oQi D cA B0 ad (fun r d1 => r = aCount S wh ∧ PI S sr d0 d1)) := by
  refine o_ofW (cc := cX10_count) (maxL := 4) (ret := some .int) (by decide) rfl (Nat.le_of_ble_eq_true rfl) ?_
  intro p e s m below meth c hx hb hr hml hts hown hlocks hnm hK hW hB hS ls hl
  have hu : ∀ w ∈ UW, w.before _ s = true := fun w h => hts w (uw_c w h)
  have hl : lv_has ls 4 [(0, .ref (ad.1 40 0)), (1, .int wh)] := hl
  refine lv_aload_n hx hb dX10_count_0 rfl (lv_at hl 0 rfl) ?_
  refine n_iconst (v := 0) hx hb dX10_count_1 (by decide) ?_
  refine mo_pi hx hb hu hown hK hal hW hS 33 (by decide +kernel) uF_X10_113 dX10_count_2 (fun H locs hW hS => ?_)
  have hI : MI S (uI d0 40 0 33 (nI 0)) (uI d0 40 0 33 (nI 0)) := MI.start (hM.thr 33 _ rfl)
  have hG : sG S := hM.2.1
  have hb1 : S 1 0 ≤ 4 := hG.f 1 (mx := 4) (by decide)
  have hb7 : S 7 0 ≤ 8 := hG.f 7 (mx := 8) (by decide)
  have hb11 : S 11 0 ≤ 20 := hG.f 11 (mx := 20) (by decide)
  have hb18 : S 18 0 ≤ 40 := hG.f 18 (mx := 40) (by decide)
  have hb19 : S 19 0 ≤ 399 := hG.f 19 (mx := 399) (by decide)
  have hb22 : S 22 0 ≤ 64 := hG.f 22 (mx := 64) (by decide)
  have hb25 : S 25 0 ≤ 4 := hG.f 25 (mx := 4) (by decide)
  have hb30 : S 30 0 ≤ 10 := hG.f 30 (mx := 10) (by decide)
  have hb32 : S 32 0 ≤ 64 := hG.f 32 (mx := 64) (by decide)
  refine n_iconst (v := 0) hx hb dX10_count_5 (by decide) ?_
  refine lv_istore_n (lv' := [(2, .int (nI 0)), (0, .ref (ad.1 40 0)), (1, .int wh)]) hx hb dX10_count_6 rfl hl (by decide) rfl (fun ls hl => ?_)
  refine lv_iload_n hx hb dX10_count_7 rfl (lv_at hl 2 rfl) ?_
  cases s_1 : ix wh 11 with
  | false =>
    refine lv_tableOut (tgt := 181) hx hb dX10_count_8 (sw_out s_1) (by decide) ?_
    refine lv_iconst (v := -1) hx hb dX10_count_181 (by decide) ?_
    exact o_iret hx hb hr hlocks hW hS (⟨by first | (simp only [aCount, s_1, eq_self, ↓reduceIte, Bool.false_eq_true]; done) | (simp only [aCount, s_1, eq_self, ↓reduceIte, Bool.false_eq_true]; rfl), hI.pub hR⟩) dX10_count_182
  | true =>
    obtain ⟨whn, hwhn, rfl⟩ := ix_t s_1 (by decide)
    rcases sw_11 hwhn with rfl | rfl | rfl | rfl | rfl | rfl | rfl | rfl | rfl | rfl | rfl
    · refine lv_tableIn (tgt := 68) hx hb dX10_count_8 (by decide) (by decide) rfl (by decide) ?_
      refine lv_aload_n hx hb dX10_count_68 rfl (lv_at hl 1 rfl) ?_
      refine mo_gi hx hb hu hown hK hal hW hI.dS 1 (by decide) uF_X10_142 dX10_count_69 ?_
      have b_2 : S 1 0 ≤ 4 := hG.f 1 (mx := 4) (by decide)
      exact o_iret hx hb hr hlocks hW hS (⟨by first | (simp only [aCount, ix_nI hwhn (by omega), nx_nI (j := 0) (by omega), eq_self, ↓reduceIte, Bool.false_eq_true]; done) | (simp only [aCount, ix_nI hwhn (by omega), nx_nI (j := 0) (by omega), eq_self, ↓reduceIte, Bool.false_eq_true]; rfl), hI.pub hR⟩) dX10_count_72
    · refine lv_tableIn (tgt := 73) hx hb dX10_count_8 (by decide) (by decide) rfl (by decide) ?_
      refine lv_aload_n hx hb dX10_count_73 rfl (lv_at hl 1 rfl) ?_
      refine mo_gi hx hb hu hown hK hal hW hI.dS 7 (by decide) uF_X10_116 dX10_count_74 ?_
      have b_3 : S 7 0 ≤ 8 := hG.f 7 (mx := 8) (by decide)
      exact o_iret hx hb hr hlocks hW hS (⟨by first | (simp only [aCount, ix_nI hwhn (by omega), nx_nI (j := 1) (by omega), eq_self, ↓reduceIte, Bool.false_eq_true]; done) | (simp only [aCount, ix_nI hwhn (by omega), nx_nI (j := 1) (by omega), eq_self, ↓reduceIte, Bool.false_eq_true]; rfl), hI.pub hR⟩) dX10_count_77
    · refine lv_tableIn (tgt := 78) hx hb dX10_count_8 (by decide) (by decide) rfl (by decide) ?_
      refine lv_aload_n hx hb dX10_count_78 rfl (lv_at hl 1 rfl) ?_
      refine mo_gi hx hb hu hown hK hal hW hI.dS 11 (by decide) uF_X10_148 dX10_count_79 ?_
      have b_4 : S 11 0 ≤ 20 := hG.f 11 (mx := 20) (by decide)
      exact o_iret hx hb hr hlocks hW hS (⟨by first | (simp only [aCount, ix_nI hwhn (by omega), nx_nI (j := 2) (by omega), eq_self, ↓reduceIte, Bool.false_eq_true]; done) | (simp only [aCount, ix_nI hwhn (by omega), nx_nI (j := 2) (by omega), eq_self, ↓reduceIte, Bool.false_eq_true]; rfl), hI.pub hR⟩) dX10_count_82
    · refine lv_tableIn (tgt := 83) hx hb dX10_count_8 (by decide) (by decide) rfl (by decide) ?_
      refine lv_aload_n hx hb dX10_count_83 rfl (lv_at hl 1 rfl) ?_
      refine mo_gi hx hb hu hown hK hal hW hI.dS 18 (by decide) uF_X10_185 dX10_count_84 ?_
      have b_5 : S 18 0 ≤ 40 := hG.f 18 (mx := 40) (by decide)
      exact o_iret hx hb hr hlocks hW hS (⟨by first | (simp only [aCount, ix_nI hwhn (by omega), nx_nI (j := 3) (by omega), eq_self, ↓reduceIte, Bool.false_eq_true]; done) | (simp only [aCount, ix_nI hwhn (by omega), nx_nI (j := 3) (by omega), eq_self, ↓reduceIte, Bool.false_eq_true]; rfl), hI.pub hR⟩) dX10_count_87
    · refine lv_tableIn (tgt := 88) hx hb dX10_count_8 (by decide) (by decide) rfl (by decide) ?_
      refine n_iconst (v := 0) hx hb dX10_count_88 (by decide) ?_
      refine lv_istore_n (lv' := [(3, .int (nI 0)), (2, .int (nI 0)), (0, .ref (ad.1 40 0)), (1, .int (nI 4))]) hx hb dX10_count_89 rfl hl (by decide) rfl (fun ls hl => ?_)
      have lp90 : ∀ (n : Nat) (n0 : Nat) (k : Nat)  (d : kD) (H : Heap) (locs : List Loc) (ls : Array Slot), S 18 0 - k < n → (k ≤ S 18 0) → (MI S (uI d0 40 0 33 (nI 0)) d) → (n0 = sKc S k) → oW D cA B0 ad d H → va_S (oA B0) s.heap H locs → lv_has ls 4 [(0, .ref (ad.1 40 0)), (1, .int (nI 4)), (2, .int (nI n0)), (3, .int (nI k))] → W p l e (oR 9 0 0) s m ([.ref (ad.1 40 0), .int (nI 4)] : List Value).toArray below meth c H locs 0 0 (MQ below (oQi D cA B0 ad (fun r d1 => r = aCount S (nI 4) ∧ PI S sr d0 d1)) ([.ref (ad.1 40 0), .int (nI 4)] : List Value).toArray s 0 0 (oA B0)) (F0 m 90 ls []) := by
        intro n
        induction n with
        | zero => intro n0 k  d H locs ls hmu; exact absurd hmu (Nat.not_lt_zero _)
        | succ n ih_lp90 =>
          intro n0 k  d H locs ls hmu hk hI hn0 hW hS hl
          refine lv_iload_n hx hb dX10_count_90 rfl (lv_at hl 3 rfl) ?_
          refine lv_aload_n hx hb dX10_count_91 rfl (lv_at hl 0 rfl) ?_
          refine mo_gi hx hb hu hown hK hal hW hI.dS 18 (by decide) uF_X10_185 dX10_count_92 ?_
          have b_6 : S 18 0 ≤ 40 := hG.f 18 (mx := 40) (by decide)
          refine n_icmp_ge (tgt := 119) hx hb (by omega) (by omega) dX10_count_95 (by decide) (fun c_7 => ?_) (fun c_7 => ?_)
          · refine lv_iload_n hx hb dX10_count_119 rfl (lv_at hl 2 rfl) ?_
            exact o_iret hx hb hr hlocks hW hS (⟨by simp only [aCount, ix_nI hwhn (by omega), nx_nI (j := 4) (by omega), eq_self, ↓reduceIte, Bool.false_eq_true]; rw [hn0, show k = S 18 0 by omega]; rfl, hI.pub hR⟩) dX10_count_120
          · refine lv_aload_n hx hb dX10_count_98 rfl (lv_at hl 0 rfl) ?_
            refine lv_iload_n hx hb dX10_count_99 rfl (lv_at hl 3 rfl) ?_
            refine lv_aload_n hx hb dX10_count_100 rfl (lv_at hl 0 rfl) ?_
            refine mo_gi hx hb hu hown hK hal hW hI.dS 19 (by decide) uF_X10_55 dX10_count_101 ?_
            have b_8 : S 19 0 ≤ 399 := hG.f 19 (mx := 399) (by decide)
            refine o_calli (o_runV (As := [.int (nI k), .int (nI (S 19 0))]) (rest := []) ⟨hx, hb, hml, hown, hu⟩ (c_X10_isKnown l D cA B0 ad hal S d hI.dS hG k (S 19 0) (by omega) (by omega)) (gV_X10_188 (fun _ h => h)) (n0 := 2) rfl (by decide +kernel) rfl ⟨Nat.le_of_ble_eq_true rfl, Nat.le_of_ble_eq_true rfl⟩ (o_recv hK hW hal.1 (kC_M _ _ _) rfl) hK hW hB hS hl.1 rfl (lv_room (Nat.le_of_ble_eq_true rfl)) ⟨Nat.zero_le _, Nat.zero_le _⟩ dX10_count_104) hS (fun r_10 d_9 q_11 H locs hW hS => ?_)
            obtain ⟨rfl, rfl⟩ := q_11
            refine lv_if_eq (tgt := 113) hx hb dX10_count_107 (by decide) (fun c_a => ?_) (fun c_a => ?_)
            · have hst : sKc S (k + 1) = sKc S k := by rw [sKc, if_neg (by rw [bI_z c_a]; decide)]
              refine n_iinc (q := 1) (lv' := [(3, .int (nI (k + 1))), (0, .ref (ad.1 40 0)), (1, .int (nI 4)), (2, .int (nI n0))]) hx hb dX10_count_113 hl (k := 3) rfl (by decide) (by decide) rfl (fun ls hl => ?_)
              refine lv_goto (tgt := 90) hx hb dX10_count_116 (by decide) ?_
              exact ih_lp90 n0 (k + 1) d _ _ ls (by omega) (by omega) hI (by rw [hst, ← hn0]) hW hS (lv_sub hl [1, 2, 3, 0] rfl)
            · have hst : sKc S (k + 1) = sKc S k + 1 := by rw [sKc, if_pos (bI_n c_a)]
              refine n_iinc (q := 1) (lv' := [(2, .int (nI (n0 + 1))), (0, .ref (ad.1 40 0)), (1, .int (nI 4)), (3, .int (nI k))]) hx hb dX10_count_110 hl (k := 2) rfl (by decide) (by decide) rfl (fun ls hl => ?_)
              refine n_iinc (q := 1) (lv' := [(3, .int (nI (k + 1))), (2, .int (nI (n0 + 1))), (0, .ref (ad.1 40 0)), (1, .int (nI 4))]) hx hb dX10_count_113 hl (k := 3) rfl (by decide) (by decide) rfl (fun ls hl => ?_)
              refine lv_goto (tgt := 90) hx hb dX10_count_116 (by decide) ?_
              exact ih_lp90 (n0 + 1) (k + 1) d _ _ ls (by omega) (by omega) hI (by rw [hst, ← hn0]) hW hS (lv_sub hl [2, 3, 1, 0] rfl)
      exact lp90 (S 18 0 + 1) 0 0 (uI d0 40 0 33 (nI 0)) _ _ ls (by omega) (by omega) hI rfl hW hS (lv_sub hl [2, 3, 1, 0] rfl)
    · refine lv_tableIn (tgt := 121) hx hb dX10_count_8 (by decide) (by decide) rfl (by decide) ?_
      refine lv_aload_n hx hb dX10_count_121 rfl (lv_at hl 1 rfl) ?_
      refine mo_gi hx hb hu hown hK hal hW hI.dS 19 (by decide) uF_X10_55 dX10_count_122 ?_
      have b_12 : S 19 0 ≤ 399 := hG.f 19 (mx := 399) (by decide)
      exact o_iret hx hb hr hlocks hW hS (⟨by first | (simp only [aCount, ix_nI hwhn (by omega), nx_nI (j := 5) (by omega), eq_self, ↓reduceIte, Bool.false_eq_true]; done) | (simp only [aCount, ix_nI hwhn (by omega), nx_nI (j := 5) (by omega), eq_self, ↓reduceIte, Bool.false_eq_true]; rfl), hI.pub hR⟩) dX10_count_125
    · refine lv_tableIn (tgt := 126) hx hb dX10_count_8 (by decide) (by decide) rfl (by decide) ?_
      refine lv_aload_n hx hb dX10_count_126 rfl (lv_at hl 1 rfl) ?_
      refine mo_gi hx hb hu hown hK hal hW hI.dS 22 (by decide) uF_X10_272 dX10_count_127 ?_
      have b_13 : S 22 0 ≤ 64 := hG.f 22 (mx := 64) (by decide)
      exact o_iret hx hb hr hlocks hW hS (⟨by first | (simp only [aCount, ix_nI hwhn (by omega), nx_nI (j := 6) (by omega), eq_self, ↓reduceIte, Bool.false_eq_true]; done) | (simp only [aCount, ix_nI hwhn (by omega), nx_nI (j := 6) (by omega), eq_self, ↓reduceIte, Bool.false_eq_true]; rfl), hI.pub hR⟩) dX10_count_130
    · refine lv_tableIn (tgt := 131) hx hb dX10_count_8 (by decide) (by decide) rfl (by decide) ?_
      refine lv_aload_n hx hb dX10_count_131 rfl (lv_at hl 1 rfl) ?_
      refine mo_gi hx hb hu hown hK hal hW hI.dS 25 (by decide) uF_X10_275 dX10_count_132 ?_
      have b_14 : S 25 0 ≤ 4 := hG.f 25 (mx := 4) (by decide)
      exact o_iret hx hb hr hlocks hW hS (⟨by first | (simp only [aCount, ix_nI hwhn (by omega), nx_nI (j := 7) (by omega), eq_self, ↓reduceIte, Bool.false_eq_true]; done) | (simp only [aCount, ix_nI hwhn (by omega), nx_nI (j := 7) (by omega), eq_self, ↓reduceIte, Bool.false_eq_true]; rfl), hI.pub hR⟩) dX10_count_135
    · refine lv_tableIn (tgt := 136) hx hb dX10_count_8 (by decide) (by decide) rfl (by decide) ?_
      refine lv_aload_n hx hb dX10_count_136 rfl (lv_at hl 1 rfl) ?_
      refine mo_gi hx hb hu hown hK hal hW hI.dS 30 (by decide) uF_X10_303 dX10_count_137 ?_
      have b_15 : S 30 0 ≤ 10 := hG.f 30 (mx := 10) (by decide)
      exact o_iret hx hb hr hlocks hW hS (⟨by first | (simp only [aCount, ix_nI hwhn (by omega), nx_nI (j := 8) (by omega), eq_self, ↓reduceIte, Bool.false_eq_true]; done) | (simp only [aCount, ix_nI hwhn (by omega), nx_nI (j := 8) (by omega), eq_self, ↓reduceIte, Bool.false_eq_true]; rfl), hI.pub hR⟩) dX10_count_140
    · refine lv_tableIn (tgt := 141) hx hb dX10_count_8 (by decide) (by decide) rfl (by decide) ?_
      refine lv_aload_n hx hb dX10_count_141 rfl (lv_at hl 1 rfl) ?_
      refine mo_gi hx hb hu hown hK hal hW hI.dS 32 (by decide) uF_X10_123 dX10_count_142 ?_
      have b_16 : S 32 0 ≤ 64 := hG.f 32 (mx := 64) (by decide)
      exact o_iret hx hb hr hlocks hW hS (⟨by first | (simp only [aCount, ix_nI hwhn (by omega), nx_nI (j := 9) (by omega), eq_self, ↓reduceIte, Bool.false_eq_true]; done) | (simp only [aCount, ix_nI hwhn (by omega), nx_nI (j := 9) (by omega), eq_self, ↓reduceIte, Bool.false_eq_true]; rfl), hI.pub hR⟩) dX10_count_145
    · refine lv_tableIn (tgt := 146) hx hb dX10_count_8 (by decide) (by decide) rfl (by decide) ?_
      refine n_iconst (v := 0) hx hb dX10_count_146 (by decide) ?_
      refine lv_istore_n (lv' := [(3, .int (nI 0)), (2, .int (nI 0)), (0, .ref (ad.1 40 0)), (1, .int (nI 10))]) hx hb dX10_count_147 rfl hl (by decide) rfl (fun ls hl => ?_)
      have lp148 : ∀ (n : Nat) (n0 : Nat) (k : Nat)  (d : kD) (H : Heap) (locs : List Loc) (ls : Array Slot), S 7 0 - k < n → (k ≤ S 7 0) → (MI S (uI d0 40 0 33 (nI 0)) d) → (n0 = sQc S k) → oW D cA B0 ad d H → va_S (oA B0) s.heap H locs → lv_has ls 4 [(0, .ref (ad.1 40 0)), (1, .int (nI 10)), (2, .int (nI n0)), (3, .int (nI k))] → W p l e (oR 9 0 0) s m ([.ref (ad.1 40 0), .int (nI 10)] : List Value).toArray below meth c H locs 0 0 (MQ below (oQi D cA B0 ad (fun r d1 => r = aCount S (nI 10) ∧ PI S sr d0 d1)) ([.ref (ad.1 40 0), .int (nI 10)] : List Value).toArray s 0 0 (oA B0)) (F0 m 148 ls []) := by
        intro n
        induction n with
        | zero => intro n0 k  d H locs ls hmu; exact absurd hmu (Nat.not_lt_zero _)
        | succ n ih_lp148 =>
          intro n0 k  d H locs ls hmu hk hI hn0 hW hS hl
          refine lv_iload_n hx hb dX10_count_148 rfl (lv_at hl 3 rfl) ?_
          refine lv_aload_n hx hb dX10_count_149 rfl (lv_at hl 0 rfl) ?_
          refine mo_gi hx hb hu hown hK hal hW hI.dS 7 (by decide) uF_X10_116 dX10_count_150 ?_
          have b_17 : S 7 0 ≤ 8 := hG.f 7 (mx := 8) (by decide)
          refine n_icmp_ge (tgt := 179) hx hb (by omega) (by omega) dX10_count_153 (by decide) (fun c_18 => ?_) (fun c_18 => ?_)
          · refine lv_iload_n hx hb dX10_count_179 rfl (lv_at hl 2 rfl) ?_
            exact o_iret hx hb hr hlocks hW hS (⟨by simp only [aCount, ix_nI hwhn (by omega), nx_nI (j := 10) (by omega), eq_self, ↓reduceIte, Bool.false_eq_true]; rw [hn0, show k = S 7 0 by omega]; rfl, hI.pub hR⟩) dX10_count_180
          · refine lv_aload_n hx hb dX10_count_156 rfl (lv_at hl 0 rfl) ?_
            refine lv_iload_n hx hb dX10_count_157 rfl (lv_at hl 3 rfl) ?_
            refine lv_aload_n hx hb dX10_count_158 rfl (lv_at hl 0 rfl) ?_
            refine mo_gi hx hb hu hown hK hal hW hI.dS 19 (by decide) uF_X10_55 dX10_count_159 ?_
            have b_19 : S 19 0 ≤ 399 := hG.f 19 (mx := 399) (by decide)
            refine o_calll (o_runV (As := [.int (nI k), .int (nI (S 19 0))]) (rest := []) ⟨hx, hb, hml, hown, hu⟩ (c_X10_keptOn l D cA B0 ad hal S d hI.1 k (S 19 0) (by omega) (by omega)) (gV_X10_207 (fun _ h => h)) (n0 := 2) rfl (by decide +kernel) rfl ⟨Nat.le_of_ble_eq_true rfl, Nat.le_of_ble_eq_true rfl⟩ (o_recv hK hW hal.1 (kC_M _ _ _) rfl) hK hW hB hS hl.1 rfl (lv_room (Nat.le_of_ble_eq_true rfl)) ⟨Nat.zero_le _, Nat.zero_le _⟩ dX10_count_162) hS (fun r_21 d_20 q_22 H locs hW hS => ?_)
            obtain ⟨rfl, hq⟩ := q_22
            have hI := hI.trans hq
            refine lv_lconst (v := 0) hx hb dX10_count_165 (by decide) ?_
            refine W.lcmp hx hb dX10_count_166 ?_
            refine lv_if_ne (tgt := 173) hx hb dX10_count_167 (by decide) (fun c_a => ?_) (fun c_a => ?_)
            · have hst : sQc S (k + 1) = sQc S k := by rw [sQc, if_neg (fun q => c_a ((lg_cmp_eq _ _).mpr q))]
              refine n_iinc (q := 1) (lv' := [(3, .int (nI (k + 1))), (0, .ref (ad.1 40 0)), (1, .int (nI 10)), (2, .int (nI n0))]) hx hb dX10_count_173 hl (k := 3) rfl (by decide) (by decide) rfl (fun ls hl => ?_)
              refine lv_goto (tgt := 148) hx hb dX10_count_176 (by decide) ?_
              exact ih_lp148 n0 (k + 1) d_20 _ _ ls (by omega) (by omega) hI (by rw [hst, ← hn0]) hW hS (lv_sub hl [1, 2, 3, 0] rfl)
            · have hst : sQc S (k + 1) = sQc S k + 1 := by rw [sQc, if_pos ((lg_cmp_eq _ _).mp c_a)]
              refine n_iinc (q := 1) (lv' := [(2, .int (nI (n0 + 1))), (0, .ref (ad.1 40 0)), (1, .int (nI 10)), (3, .int (nI k))]) hx hb dX10_count_170 hl (k := 2) rfl (by decide) (by decide) rfl (fun ls hl => ?_)
              refine n_iinc (q := 1) (lv' := [(3, .int (nI (k + 1))), (2, .int (nI (n0 + 1))), (0, .ref (ad.1 40 0)), (1, .int (nI 10))]) hx hb dX10_count_173 hl (k := 3) rfl (by decide) (by decide) rfl (fun ls hl => ?_)
              refine lv_goto (tgt := 148) hx hb dX10_count_176 (by decide) ?_
              exact ih_lp148 (n0 + 1) (k + 1) d_20 _ _ ls (by omega) (by omega) hI (by rw [hst, ← hn0]) hW hS (lv_sub hl [2, 3, 1, 0] rfl)
      exact lp148 (S 7 0 + 1) 0 0 (uI d0 40 0 33 (nI 0)) _ _ ls (by omega) (by omega) hI rfl hW hS (lv_sub hl [2, 3, 1, 0] rfl)
