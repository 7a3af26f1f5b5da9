set_option maxHeartbeats 400000 in
set_option maxRecDepth 100000 in
theorem c_X9_pier (l : Launch) (D : va_G) (cA : Nat → ClassId) (B0 : Nat) (ad : kA) (hal : mAl ad) (S : sS) (sr : Nat → Int32) (d0 : kD) (hM : InvX cA ad S d0) (hR : RowX S sr d0) (bi wi ri fi qi : Int32) : oM l yX9_pier wX9_pier 8 2 80 D cA B0 ad d0 ([.ref (ad.1 0 0), .int bi, .int wi, .int ri, .int fi, .int qi] : List Value) (oQiA D cA B0 (fun r u => r = aPier S bi wi ri fi qi ∧ PX cA u.1 (nPier S bi wi ri fi qi) sr d0 u.2 ∧ AFr ad u.1)) := by
  refine o_ofW (cc := cX9_pier) (maxL := 8) (ret := some .int) (by decide) rfl (Nat.le_of_ble_eq_true rfl) ?_
  intro p e s m below meth c hx hb hr hml hts hown hlocks hnm hK hW hB hS ls hl
  have hu : ∀ w ∈ UW, w.before _ s = true := fun w h => hts w (uw_c w h)
  have hl : lv_has ls 8 [(0, .ref (ad.1 0 0)), (1, .int bi), (2, .int wi), (3, .int ri), (4, .int fi), (5, .int qi)] := hl
  have hX := hM.1
  have hA := hX.1
  have hG := hX.2.2
  have hb7 : S 7 0 ≤ 8 := hG.f 7 (mx := 8) (by decide)
  have hb11 : S 11 0 ≤ 20 := hG.f 11 (mx := 20) (by decide)
  have hb18 : S 18 0 ≤ 40 := hG.f 18 (mx := 40) (by decide)
  have hI : XX cA ad S d0 d0 := XX.start hM
  have hb1 : S 1 0 ≤ 4 := hG.f 1 (mx := 4) (by decide)
  have hb19 : S 19 0 ≤ 399 := hG.f 19 (mx := 399) (by decide)
  have hb22 : S 22 0 ≤ 64 := hG.f 22 (mx := 64) (by decide)
  have hb25 : S 25 0 ≤ 4 := hG.f 25 (mx := 4) (by decide)
  have hb30 : S 30 0 ≤ 10 := hG.f 30 (mx := 10) (by decide)
  have hb32 : S 32 0 ≤ 64 := hG.f 32 (mx := 64) (by decide)
  refine lv_iload_n hx hb dX9_pier_0 rfl (lv_at hl 1 rfl) ?_
  refine n_iconst (v := 0) hx hb dX9_pier_1 (by decide) ?_
  refine lv_aload_n hx hb dX9_pier_2 rfl (lv_at hl 0 rfl) ?_
  refine x_gi hx hb hu in_X9 hown hK hW (hA.o (k := 0) rfl) (kX_0 _ _ _ _) rfl 13 (by decide) uF_X9_71 dX9_pier_3 ?_
  refine n_topi (y := nI (S 1 0)) (hI.1.1.2.1.beds) ?_
  have b_1 : S 1 0 ≤ 4 := hG.f 1 (mx := 4) (by decide)
  refine n_iconst (v := 1) hx hb dX9_pier_6 (by decide) ?_
  refine lv_isub hx hb dX9_pier_7 ?_
  refine o_calli (o_runS (As := [.int bi, .int (nI 0), .int ((nI (S 1 0)) - (nI 1))]) (rest := []) ⟨hx, hb, hml, hown, hu⟩ (c_X9_within l D cA B0 ad hal d0 bi (nI 0) ((nI (S 1 0)) - (nI 1))) (gS_X9_85 (fun _ h => h)) (n0 := 3) rfl (by decide +kernel) rfl ⟨Nat.le_of_ble_eq_true rfl, Nat.le_of_ble_eq_true rfl⟩ hK hW hB hS hl.1 rfl (lv_room (Nat.le_of_ble_eq_true rfl)) ⟨Nat.zero_le _, Nat.zero_le _⟩ dX9_pier_8) hS (fun r_3 d_2 q_4 H locs hW hS => ?_)
  obtain ⟨rfl, rfl⟩ := q_4
  refine n_topi (y := bI (ix bi (S 1 0))) (in_ix (by omega)) ?_
  refine lv_if_eq (tgt := 61) hx hb dX9_pier_11 (by decide) (fun c_5 => ?_) (fun c_5 => ?_)
  · refine n_iconst (v := 0) hx hb dX9_pier_61 (by decide) ?_
    refine lv_istore (lv' := [(6, .int (nI 0)), (0, .ref (ad.1 0 0)), (1, .int bi), (2, .int wi), (3, .int ri), (4, .int fi), (5, .int qi)]) hx hb dX9_pier_62 hl (by decide) rfl (fun ls hl => ?_)
    refine lv_aload_n hx hb dX9_pier_64 rfl (lv_at hl 1 rfl) ?_
    refine x_gr hx hb hu in_X9 hown hK hW (hA.o (k := 0) rfl) (kX_0 _ _ _ _) rfl 2 (by decide) uF_X9_21 (hA.f 2 (k := 4) (i := 0) (by decide) (hA.li (by omega))) dX9_pier_65 ?_
    refine o_calli (o_runV (As := []) (rest := []) ⟨hx, hb, hml, hown, hu⟩ (c_Jx4a65c_size_8abf5 l D cA B0 ad hal S d0 hI.1.1 0 (by decide)) (gV_X9_105 (fun _ h => h)) (n0 := 0) rfl (by decide +kernel) rfl ⟨Nat.le_of_ble_eq_true rfl, Nat.le_of_ble_eq_true rfl⟩ (o_recv hK hW (hA.li (by omega)) (kX_4 _ _ _ _) rfl) hK hW hB hS hl.1 rfl (lv_room (Nat.le_of_ble_eq_true rfl)) ⟨Nat.zero_le _, Nat.zero_le _⟩ dX9_pier_68) hS (fun r_7 d_6 q_8 H locs hW hS => ?_)
    obtain ⟨rfl, rfl⟩ := q_8
    refine n_topi (y := nI (S 7 0)) rfl ?_
    refine lv_istore (lv' := [(7, .int (nI (S 7 0))), (6, .int (nI 0)), (0, .ref (ad.1 0 0)), (1, .int bi), (2, .int wi), (3, .int ri), (4, .int fi), (5, .int qi)]) hx hb dX9_pier_71 hl (by decide) rfl (fun ls hl => ?_)
    refine lv_iload hx hb dX9_pier_73 (lv_at hl 1 rfl) ?_
    refine n_if_eq (tgt := 85) hx hb (by omega) dX9_pier_75 (by decide) (fun c_r => ?_) (fun c_r => ?_)
    · refine lv_iconst (v := -1) hx hb dX9_pier_85 (by decide) ?_
      refine W.widen (k := 2) (n := 80) (by decide) (by decide) ?_
      exact o_iretA hx hb hr hlocks hW hS (⟨by first | (simp only [aPier, bI_z c_5, eq_self, ↓reduceIte, Bool.false_eq_true]; done) | (simp only [aPier, bI_z c_5, eq_self, ↓reduceIte, Bool.false_eq_true]; rfl), by simp only [nPier, bI_z c_5, eq_self, ↓reduceIte, Bool.false_eq_true]; exact hI.pub hR, AFr.refl ad⟩) dX9_pier_86
    · exact absurd rfl c_r
  · obtain ⟨bin, hbin, rfl⟩ := ix_t (bI_n c_5) (by omega)
    refine lv_iload_n hx hb dX9_pier_14 rfl (lv_at hl 2 rfl) ?_
    refine n_iconst (v := 1) hx hb dX9_pier_15 (by decide) ?_
    refine n_bipush (v := 20) hx hb dX9_pier_16 (by decide) ?_
    refine o_calli (o_runS (As := [.int wi, .int (nI 1), .int (nI 20)]) (rest := []) ⟨hx, hb, hml, hown, hu⟩ (c_X9_within l D cA B0 ad hal d0 wi (nI 1) (nI 20)) (gS_X9_85 (fun _ h => h)) (n0 := 3) rfl (by decide +kernel) rfl ⟨Nat.le_of_ble_eq_true rfl, Nat.le_of_ble_eq_true rfl⟩ hK hW hB hS hl.1 rfl (lv_room (Nat.le_of_ble_eq_true rfl)) ⟨Nat.zero_le _, Nat.zero_le _⟩ dX9_pier_18) hS (fun r_10 d_9 q_11 H locs hW hS => ?_)
    obtain ⟨rfl, rfl⟩ := q_11
    refine n_topi (y := bI (rx wi 1 20)) (in_rx (by omega) (by omega)) ?_
    refine lv_if_eq (tgt := 61) hx hb dX9_pier_21 (by decide) (fun c_12 => ?_) (fun c_12 => ?_)
    · refine n_iconst (v := 0) hx hb dX9_pier_61 (by decide) ?_
      refine lv_istore (lv' := [(6, .int (nI 0)), (0, .ref (ad.1 0 0)), (1, .int (nI bin)), (2, .int wi), (3, .int ri), (4, .int fi), (5, .int qi)]) hx hb dX9_pier_62 hl (by decide) rfl (fun ls hl => ?_)
      refine lv_aload_n hx hb dX9_pier_64 rfl (lv_at hl 1 rfl) ?_
      refine x_gr hx hb hu in_X9 hown hK hW (hA.o (k := 0) rfl) (kX_0 _ _ _ _) rfl 2 (by decide) uF_X9_21 (hA.f 2 (k := 4) (i := 0) (by decide) (hA.li (by omega))) dX9_pier_65 ?_
      refine o_calli (o_runV (As := []) (rest := []) ⟨hx, hb, hml, hown, hu⟩ (c_Jx4a65c_size_8abf5 l D cA B0 ad hal S d0 hI.1.1 0 (by decide)) (gV_X9_105 (fun _ h => h)) (n0 := 0) rfl (by decide +kernel) rfl ⟨Nat.le_of_ble_eq_true rfl, Nat.le_of_ble_eq_true rfl⟩ (o_recv hK hW (hA.li (by omega)) (kX_4 _ _ _ _) rfl) hK hW hB hS hl.1 rfl (lv_room (Nat.le_of_ble_eq_true rfl)) ⟨Nat.zero_le _, Nat.zero_le _⟩ dX9_pier_68) hS (fun r_14 d_13 q_15 H locs hW hS => ?_)
      obtain ⟨rfl, rfl⟩ := q_15
      refine n_topi (y := nI (S 7 0)) rfl ?_
      refine lv_istore (lv' := [(7, .int (nI (S 7 0))), (6, .int (nI 0)), (0, .ref (ad.1 0 0)), (1, .int (nI bin)), (2, .int wi), (3, .int ri), (4, .int fi), (5, .int qi)]) hx hb dX9_pier_71 hl (by decide) rfl (fun ls hl => ?_)
      refine lv_iload hx hb dX9_pier_73 (lv_at hl 1 rfl) ?_
      refine n_if_eq (tgt := 85) hx hb (by omega) dX9_pier_75 (by decide) (fun c_r => ?_) (fun c_r => ?_)
      · refine lv_iconst (v := -1) hx hb dX9_pier_85 (by decide) ?_
        refine W.widen (k := 2) (n := 80) (by decide) (by decide) ?_
        exact o_iretA hx hb hr hlocks hW hS (⟨by first | (simp only [aPier, ix_nI hbin (by omega), nx_nI (j := bin) (by omega), bI_z c_12, eq_self, ↓reduceIte, Bool.false_eq_true]; done) | (simp only [aPier, ix_nI hbin (by omega), nx_nI (j := bin) (by omega), bI_z c_12, eq_self, ↓reduceIte, Bool.false_eq_true]; rfl), by simp only [nPier, ix_nI hbin (by omega), nx_nI (j := bin) (by omega), bI_z c_12, eq_self, ↓reduceIte, Bool.false_eq_true]; exact hI.pub hR, AFr.refl ad⟩) dX9_pier_86
      · exact absurd rfl c_r
    · obtain ⟨win, hwina, hwin, rfl⟩ := rx_t (bI_n c_12) (by omega)
      refine lv_iload_n hx hb dX9_pier_24 rfl (lv_at hl 3 rfl) ?_
      refine n_iconst (v := 1) hx hb dX9_pier_25 (by decide) ?_
      refine n_sipush (v := 200) hx hb dX9_pier_26 (by decide) ?_
      refine o_calli (o_runS (As := [.int ri, .int (nI 1), .int (nI 200)]) (rest := []) ⟨hx, hb, hml, hown, hu⟩ (c_X9_within l D cA B0 ad hal d0 ri (nI 1) (nI 200)) (gS_X9_85 (fun _ h => h)) (n0 := 3) rfl (by decide +kernel) rfl ⟨Nat.le_of_ble_eq_true rfl, Nat.le_of_ble_eq_true rfl⟩ hK hW hB hS hl.1 rfl (lv_room (Nat.le_of_ble_eq_true rfl)) ⟨Nat.zero_le _, Nat.zero_le _⟩ dX9_pier_29) hS (fun r_17 d_16 q_18 H locs hW hS => ?_)
      obtain ⟨rfl, rfl⟩ := q_18
      refine n_topi (y := bI (rx ri 1 200)) (in_rx (by omega) (by omega)) ?_
      refine lv_if_eq (tgt := 61) hx hb dX9_pier_32 (by decide) (fun c_19 => ?_) (fun c_19 => ?_)
      · refine n_iconst (v := 0) hx hb dX9_pier_61 (by decide) ?_
        refine lv_istore (lv' := [(6, .int (nI 0)), (0, .ref (ad.1 0 0)), (1, .int (nI bin)), (2, .int (nI win)), (3, .int ri), (4, .int fi), (5, .int qi)]) hx hb dX9_pier_62 hl (by decide) rfl (fun ls hl => ?_)
        refine lv_aload_n hx hb dX9_pier_64 rfl (lv_at hl 1 rfl) ?_
        refine x_gr hx hb hu in_X9 hown hK hW (hA.o (k := 0) rfl) (kX_0 _ _ _ _) rfl 2 (by decide) uF_X9_21 (hA.f 2 (k := 4) (i := 0) (by decide) (hA.li (by omega))) dX9_pier_65 ?_
        refine o_calli (o_runV (As := []) (rest := []) ⟨hx, hb, hml, hown, hu⟩ (c_Jx4a65c_size_8abf5 l D cA B0 ad hal S d0 hI.1.1 0 (by decide)) (gV_X9_105 (fun _ h => h)) (n0 := 0) rfl (by decide +kernel) rfl ⟨Nat.le_of_ble_eq_true rfl, Nat.le_of_ble_eq_true rfl⟩ (o_recv hK hW (hA.li (by omega)) (kX_4 _ _ _ _) rfl) hK hW hB hS hl.1 rfl (lv_room (Nat.le_of_ble_eq_true rfl)) ⟨Nat.zero_le _, Nat.zero_le _⟩ dX9_pier_68) hS (fun r_21 d_20 q_22 H locs hW hS => ?_)
        obtain ⟨rfl, rfl⟩ := q_22
        refine n_topi (y := nI (S 7 0)) rfl ?_
        refine lv_istore (lv' := [(7, .int (nI (S 7 0))), (6, .int (nI 0)), (0, .ref (ad.1 0 0)), (1, .int (nI bin)), (2, .int (nI win)), (3, .int ri), (4, .int fi), (5, .int qi)]) hx hb dX9_pier_71 hl (by decide) rfl (fun ls hl => ?_)
        refine lv_iload hx hb dX9_pier_73 (lv_at hl 1 rfl) ?_
        refine n_if_eq (tgt := 85) hx hb (by omega) dX9_pier_75 (by decide) (fun c_r => ?_) (fun c_r => ?_)
        · refine lv_iconst (v := -1) hx hb dX9_pier_85 (by decide) ?_
          refine W.widen (k := 2) (n := 80) (by decide) (by decide) ?_
          exact o_iretA hx hb hr hlocks hW hS (⟨by first | (simp only [aPier, ix_nI hbin (by omega), nx_nI (j := bin) (by omega), rx_nI hwina hwin (by omega), nx_nI (j := win) (by omega), bI_z c_19, eq_self, ↓reduceIte, Bool.false_eq_true]; done) | (simp only [aPier, ix_nI hbin (by omega), nx_nI (j := bin) (by omega), rx_nI hwina hwin (by omega), nx_nI (j := win) (by omega), bI_z c_19, eq_self, ↓reduceIte, Bool.false_eq_true]; rfl), by simp only [nPier, ix_nI hbin (by omega), nx_nI (j := bin) (by omega), rx_nI hwina hwin (by omega), nx_nI (j := win) (by omega), bI_z c_19, eq_self, ↓reduceIte, Bool.false_eq_true]; exact hI.pub hR, AFr.refl ad⟩) dX9_pier_86
        · exact absurd rfl c_r
      · obtain ⟨rin, hrina, hrin, rfl⟩ := rx_t (bI_n c_19) (by omega)
        refine lv_iload hx hb dX9_pier_35 (lv_at hl 4 rfl) ?_
        refine n_iconst (v := 0) hx hb dX9_pier_37 (by decide) ?_
        refine n_bipush (v := 99) hx hb dX9_pier_38 (by decide) ?_
        refine o_calli (o_runS (As := [.int fi, .int (nI 0), .int (nI 99)]) (rest := []) ⟨hx, hb, hml, hown, hu⟩ (c_X9_within l D cA B0 ad hal d0 fi (nI 0) (nI 99)) (gS_X9_85 (fun _ h => h)) (n0 := 3) rfl (by decide +kernel) rfl ⟨Nat.le_of_ble_eq_true rfl, Nat.le_of_ble_eq_true rfl⟩ hK hW hB hS hl.1 rfl (lv_room (Nat.le_of_ble_eq_true rfl)) ⟨Nat.zero_le _, Nat.zero_le _⟩ dX9_pier_40) hS (fun r_24 d_23 q_25 H locs hW hS => ?_)
        obtain ⟨rfl, rfl⟩ := q_25
        refine n_topi (y := bI (ix fi 100)) (in_ixc 100 rfl (by decide)) ?_
        refine lv_if_eq (tgt := 61) hx hb dX9_pier_43 (by decide) (fun c_26 => ?_) (fun c_26 => ?_)
        · refine n_iconst (v := 0) hx hb dX9_pier_61 (by decide) ?_
          refine lv_istore (lv' := [(6, .int (nI 0)), (0, .ref (ad.1 0 0)), (1, .int (nI bin)), (2, .int (nI win)), (3, .int (nI rin)), (4, .int fi), (5, .int qi)]) hx hb dX9_pier_62 hl (by decide) rfl (fun ls hl => ?_)
          refine lv_aload_n hx hb dX9_pier_64 rfl (lv_at hl 1 rfl) ?_
          refine x_gr hx hb hu in_X9 hown hK hW (hA.o (k := 0) rfl) (kX_0 _ _ _ _) rfl 2 (by decide) uF_X9_21 (hA.f 2 (k := 4) (i := 0) (by decide) (hA.li (by omega))) dX9_pier_65 ?_
          refine o_calli (o_runV (As := []) (rest := []) ⟨hx, hb, hml, hown, hu⟩ (c_Jx4a65c_size_8abf5 l D cA B0 ad hal S d0 hI.1.1 0 (by decide)) (gV_X9_105 (fun _ h => h)) (n0 := 0) rfl (by decide +kernel) rfl ⟨Nat.le_of_ble_eq_true rfl, Nat.le_of_ble_eq_true rfl⟩ (o_recv hK hW (hA.li (by omega)) (kX_4 _ _ _ _) rfl) hK hW hB hS hl.1 rfl (lv_room (Nat.le_of_ble_eq_true rfl)) ⟨Nat.zero_le _, Nat.zero_le _⟩ dX9_pier_68) hS (fun r_28 d_27 q_29 H locs hW hS => ?_)
          obtain ⟨rfl, rfl⟩ := q_29
          refine n_topi (y := nI (S 7 0)) rfl ?_
          refine lv_istore (lv' := [(7, .int (nI (S 7 0))), (6, .int (nI 0)), (0, .ref (ad.1 0 0)), (1, .int (nI bin)), (2, .int (nI win)), (3, .int (nI rin)), (4, .int fi), (5, .int qi)]) hx hb dX9_pier_71 hl (by decide) rfl (fun ls hl => ?_)
          refine lv_iload hx hb dX9_pier_73 (lv_at hl 1 rfl) ?_
          refine n_if_eq (tgt := 85) hx hb (by omega) dX9_pier_75 (by decide) (fun c_r => ?_) (fun c_r => ?_)
          · refine lv_iconst (v := -1) hx hb dX9_pier_85 (by decide) ?_
            refine W.widen (k := 2) (n := 80) (by decide) (by decide) ?_
            exact o_iretA hx hb hr hlocks hW hS (⟨by first | (simp only [aPier, ix_nI hbin (by omega), nx_nI (j := bin) (by omega), rx_nI hwina hwin (by omega), nx_nI (j := win) (by omega), rx_nI hrina hrin (by omega), nx_nI (j := rin) (by omega), bI_z c_26, eq_self, ↓reduceIte, Bool.false_eq_true]; done) | (simp only [aPier, ix_nI hbin (by omega), nx_nI (j := bin) (by omega), rx_nI hwina hwin (by omega), nx_nI (j := win) (by omega), rx_nI hrina hrin (by omega), nx_nI (j := rin) (by omega), bI_z c_26, eq_self, ↓reduceIte, Bool.false_eq_true]; rfl), by simp only [nPier, ix_nI hbin (by omega), nx_nI (j := bin) (by omega), rx_nI hwina hwin (by omega), nx_nI (j := win) (by omega), rx_nI hrina hrin (by omega), nx_nI (j := rin) (by omega), bI_z c_26, eq_self, ↓reduceIte, Bool.false_eq_true]; exact hI.pub hR, AFr.refl ad⟩) dX9_pier_86
          · exact absurd rfl c_r
        · obtain ⟨fin, hfin, rfl⟩ := ix_t (bI_n c_26) (by omega)
          refine lv_iload hx hb dX9_pier_46 (lv_at hl 5 rfl) ?_
          refine n_iconst (v := 0) hx hb dX9_pier_48 (by decide) ?_
          refine n_bipush (v := 99) hx hb dX9_pier_49 (by decide) ?_
          refine o_calli (o_runS (As := [.int qi, .int (nI 0), .int (nI 99)]) (rest := []) ⟨hx, hb, hml, hown, hu⟩ (c_X9_within l D cA B0 ad hal d0 qi (nI 0) (nI 99)) (gS_X9_85 (fun _ h => h)) (n0 := 3) rfl (by decide +kernel) rfl ⟨Nat.le_of_ble_eq_true rfl, Nat.le_of_ble_eq_true rfl⟩ hK hW hB hS hl.1 rfl (lv_room (Nat.le_of_ble_eq_true rfl)) ⟨Nat.zero_le _, Nat.zero_le _⟩ dX9_pier_51) hS (fun r_31 d_30 q_32 H locs hW hS => ?_)
          obtain ⟨rfl, rfl⟩ := q_32
          refine n_topi (y := bI (ix qi 100)) (in_ixc 100 rfl (by decide)) ?_
          refine lv_if_eq (tgt := 61) hx hb dX9_pier_54 (by decide) (fun c_33 => ?_) (fun c_33 => ?_)
          · refine n_iconst (v := 0) hx hb dX9_pier_61 (by decide) ?_
            refine lv_istore (lv' := [(6, .int (nI 0)), (0, .ref (ad.1 0 0)), (1, .int (nI bin)), (2, .int (nI win)), (3, .int (nI rin)), (4, .int (nI fin)), (5, .int qi)]) hx hb dX9_pier_62 hl (by decide) rfl (fun ls hl => ?_)
            refine lv_aload_n hx hb dX9_pier_64 rfl (lv_at hl 1 rfl) ?_
            refine x_gr hx hb hu in_X9 hown hK hW (hA.o (k := 0) rfl) (kX_0 _ _ _ _) rfl 2 (by decide) uF_X9_21 (hA.f 2 (k := 4) (i := 0) (by decide) (hA.li (by omega))) dX9_pier_65 ?_
            refine o_calli (o_runV (As := []) (rest := []) ⟨hx, hb, hml, hown, hu⟩ (c_Jx4a65c_size_8abf5 l D cA B0 ad hal S d0 hI.1.1 0 (by decide)) (gV_X9_105 (fun _ h => h)) (n0 := 0) rfl (by decide +kernel) rfl ⟨Nat.le_of_ble_eq_true rfl, Nat.le_of_ble_eq_true rfl⟩ (o_recv hK hW (hA.li (by omega)) (kX_4 _ _ _ _) rfl) hK hW hB hS hl.1 rfl (lv_room (Nat.le_of_ble_eq_true rfl)) ⟨Nat.zero_le _, Nat.zero_le _⟩ dX9_pier_68) hS (fun r_35 d_34 q_36 H locs hW hS => ?_)
            obtain ⟨rfl, rfl⟩ := q_36
            refine n_topi (y := nI (S 7 0)) rfl ?_
            refine lv_istore (lv' := [(7, .int (nI (S 7 0))), (6, .int (nI 0)), (0, .ref (ad.1 0 0)), (1, .int (nI bin)), (2, .int (nI win)), (3, .int (nI rin)), (4, .int (nI fin)), (5, .int qi)]) hx hb dX9_pier_71 hl (by decide) rfl (fun ls hl => ?_)
            refine lv_iload hx hb dX9_pier_73 (lv_at hl 1 rfl) ?_
            refine n_if_eq (tgt := 85) hx hb (by omega) dX9_pier_75 (by decide) (fun c_r => ?_) (fun c_r => ?_)
            · refine lv_iconst (v := -1) hx hb dX9_pier_85 (by decide) ?_
              refine W.widen (k := 2) (n := 80) (by decide) (by decide) ?_
              exact o_iretA hx hb hr hlocks hW hS (⟨by first | (simp only [aPier, ix_nI hbin (by omega), nx_nI (j := bin) (by omega), rx_nI hwina hwin (by omega), nx_nI (j := win) (by omega), rx_nI hrina hrin (by omega), nx_nI (j := rin) (by omega), ix_nI hfin (by omega), nx_nI (j := fin) (by omega), bI_z c_33, eq_self, ↓reduceIte, Bool.false_eq_true]; done) | (simp only [aPier, ix_nI hbin (by omega), nx_nI (j := bin) (by omega), rx_nI hwina hwin (by omega), nx_nI (j := win) (by omega), rx_nI hrina hrin (by omega), nx_nI (j := rin) (by omega), ix_nI hfin (by omega), nx_nI (j := fin) (by omega), bI_z c_33, eq_self, ↓reduceIte, Bool.false_eq_true]; rfl), by simp only [nPier, ix_nI hbin (by omega), nx_nI (j := bin) (by omega), rx_nI hwina hwin (by omega), nx_nI (j := win) (by omega), rx_nI hrina hrin (by omega), nx_nI (j := rin) (by omega), ix_nI hfin (by omega), nx_nI (j := fin) (by omega), bI_z c_33, eq_self, ↓reduceIte, Bool.false_eq_true]; exact hI.pub hR, AFr.refl ad⟩) dX9_pier_86
            · exact absurd rfl c_r
          · obtain ⟨qin, hqin, rfl⟩ := ix_t (bI_n c_33) (by omega)
            refine n_iconst (v := 1) hx hb dX9_pier_57 (by decide) ?_
            refine lv_goto (tgt := 62) hx hb dX9_pier_58 (by decide) ?_
            refine lv_istore (lv' := [(6, .int (nI 1)), (0, .ref (ad.1 0 0)), (1, .int (nI bin)), (2, .int (nI win)), (3, .int (nI rin)), (4, .int (nI fin)), (5, .int (nI qin))]) hx hb dX9_pier_62 hl (by decide) rfl (fun ls hl => ?_)
            refine lv_aload_n hx hb dX9_pier_64 rfl (lv_at hl 1 rfl) ?_
            refine x_gr hx hb hu in_X9 hown hK hW (hA.o (k := 0) rfl) (kX_0 _ _ _ _) rfl 2 (by decide) uF_X9_21 (hA.f 2 (k := 4) (i := 0) (by decide) (hA.li (by omega))) dX9_pier_65 ?_
            refine o_calli (o_runV (As := []) (rest := []) ⟨hx, hb, hml, hown, hu⟩ (c_Jx4a65c_size_8abf5 l D cA B0 ad hal S d0 hI.1.1 0 (by decide)) (gV_X9_105 (fun _ h => h)) (n0 := 0) rfl (by decide +kernel) rfl ⟨Nat.le_of_ble_eq_true rfl, Nat.le_of_ble_eq_true rfl⟩ (o_recv hK hW (hA.li (by omega)) (kX_4 _ _ _ _) rfl) hK hW hB hS hl.1 rfl (lv_room (Nat.le_of_ble_eq_true rfl)) ⟨Nat.zero_le _, Nat.zero_le _⟩ dX9_pier_68) hS (fun r_38 d_37 q_39 H locs hW hS => ?_)
            obtain ⟨rfl, rfl⟩ := q_39
            refine n_topi (y := nI (S 7 0)) rfl ?_
            refine lv_istore (lv' := [(7, .int (nI (S 7 0))), (6, .int (nI 1)), (0, .ref (ad.1 0 0)), (1, .int (nI bin)), (2, .int (nI win)), (3, .int (nI rin)), (4, .int (nI fin)), (5, .int (nI qin))]) hx hb dX9_pier_71 hl (by decide) rfl (fun ls hl => ?_)
            refine lv_iload hx hb dX9_pier_73 (lv_at hl 1 rfl) ?_
            refine n_if_eq (tgt := 85) hx hb (by omega) dX9_pier_75 (by decide) (fun c_r => ?_) (fun c_r => ?_)
            · exact absurd c_r (by decide)
            · refine lv_iload hx hb dX9_pier_78 (lv_at hl 0 rfl) ?_
              refine n_bipush (v := 8) hx hb dX9_pier_80 (by decide) ?_
              refine n_icmp_lt (tgt := 87) hx hb (by omega) (by omega) dX9_pier_82 (by decide) (fun c_f => ?_) (fun c_f => ?_)
              · have hne : ¬ S 7 0 = 8 := by omega
                refine lv_aload_n hx hb dX9_pier_87 rfl (lv_at hl 2 rfl) ?_
                refine x_gr hx hb hu in_X9 hown hK hW (hA.o (k := 0) rfl) (kX_0 _ _ _ _) rfl 2 (by decide) uF_X9_21 (hA.f 2 (k := 4) (i := 0) (by decide) (hA.li (by omega))) dX9_pier_88 ?_
                have hdn : ad.1 6 (S 7 0) = 0 := hA.2.2.2.2.2.2.2.2.2.2.2.1 0 (by decide) (S 7 0) (Nat.le_refl _)
                refine x_new hx hb hu in_X5 tyX5 tyX5_ok hown uL_X9_113 uO_X5 uI_X5 hK hW hS hB (k := 6) (i := (S 7 0)) (by decide) hdn (fun _ _ _ => rfl) rfl (fun j hj => match j, hj with | 0, _ => rfl | 1, _ => rfl | 2, _ => rfl | 3, _ => rfl | 4, _ => rfl | 5, _ => rfl | 6, _ => rfl | 7, _ => rfl | 8, _ => rfl | 9, _ => rfl | 10, _ => rfl | 11, _ => rfl | 12, _ => rfl | (j + 13), hj => absurd hj (by omega)) ⟨Nat.le_of_ble_eq_true rfl, Nat.le_of_ble_eq_true rfl⟩ dX9_pier_91 (fun q H hq hW hS => ?_)
                generalize haN : ad1 (zA ad 6 (S 7 0)) 6 (S 7 0) q = aN at hW
                generalize hdN : zD d0 6 (S 7 0) = dN at hW
                have n1 : ∀ k i, ¬ (k = 6 ∧ i = (S 7 0)) → aN.1 k i = ad.1 k i := fun k i h => by rw [← haN]; exact ad1_n _ _ h
                have nq : aN.1 6 (S 7 0) = q := by rw [← haN]; exact ad1_s _ _ _ _
                have n2 : ∀ k i, ¬ (k = 6 ∧ i = (S 7 0)) → aN.2 k i = ad.2 k i := fun k i h => by rw [← haN]; exact zA_n ad h
                have n3 : ∀ k i, ¬ (k = 6 ∧ i = (S 7 0)) → dN.1 k i = d0.1 k i := fun k i h => by rw [← hdN]; exact zD_n1 d0 h
                have n4 : ∀ k i, ¬ (k = 6 ∧ i = (S 7 0)) → dN.2.1 k i = d0.2.1 k i := fun k i h => by rw [← hdN]; exact zD_n2 d0 h
                have n5 : dN.2.2 = d0.2.2 := by rw [← hdN]; rfl
                refine lv_dup hx hb dX9_pier_94 rfl ?_
                refine lv_iload_n hx hb dX9_pier_95 rfl (lv_at hl 3 rfl) ?_
                refine lv_iload_n hx hb dX9_pier_96 rfl (lv_at hl 4 rfl) ?_
                refine lv_iload_n hx hb dX9_pier_97 rfl (lv_at hl 5 rfl) ?_
                refine lv_iload hx hb dX9_pier_98 (lv_at hl 6 rfl) ?_
                refine lv_iload hx hb dX9_pier_100 (lv_at hl 7 rfl) ?_
                refine lv_aload_n hx hb dX9_pier_102 rfl (lv_at hl 2 rfl) ?_
                refine W.eq (g2 := F0 m 103 ls [.ref (aN.1 0 0), .int (nI qin), .int (nI fin), .int (nI rin), .int (nI win), .int (nI bin), .ref q, .ref q, .ref (ad.1 4 0)]) (by rw [n1 0 0 (by omega)]) ?_
                refine x_gr hx hb hu in_X9 hown hK hW (by rw [n1 0 0 (by omega)]; exact hA.o (k := 0) rfl) (kX_0 _ _ _ _) rfl 0 (by decide) uF_X9_9 (q := ad.1 1 0) (by rw [n2 0 0 (by omega)]; exact (hA.f 0 (k := 1) (i := 0) (by decide) (hA.o (k := 1) rfl))) dX9_pier_103 ?_
                refine lv_aload_n hx hb dX9_pier_106 rfl (lv_at hl 2 rfl) ?_
                refine W.eq (g2 := F0 m 107 ls [.ref (aN.1 0 0), .ref (ad.1 1 0), .int (nI qin), .int (nI fin), .int (nI rin), .int (nI win), .int (nI bin), .ref q, .ref q, .ref (ad.1 4 0)]) (by rw [n1 0 0 (by omega)]) ?_
                refine x_gr hx hb hu in_X9 hown hK hW (by rw [n1 0 0 (by omega)]; exact hA.o (k := 0) rfl) (kX_0 _ _ _ _) rfl 1 (by decide) uF_X9_15 (q := ad.1 2 0) (by rw [n2 0 0 (by omega)]; exact (hA.f 1 (k := 2) (i := 0) (by decide) (hA.o (k := 2) rfl))) dX9_pier_107 ?_
                refine lv_iload hx hb dX9_pier_110 (lv_at hl 0 rfl) ?_
                refine W.eq (g2 := F0 m 112 ls [.int (nI (S 7 0)), .ref (aN.1 2 0), .ref (ad.1 1 0), .int (nI qin), .int (nI fin), .int (nI rin), .int (nI win), .int (nI bin), .ref q, .ref q, .ref (ad.1 4 0)]) (by rw [n1 2 0 (by omega)]) ?_
                refine x_alA hx hb hK hW (by rw [n1 2 0 (by omega)]; exact hA.o (k := 2) rfl) (kX_2 _ _ _ _) (j := (S 7 0)) (q := ad.1 3 (S 7 0)) (by omega) (by rw [n2 2 0 (by omega)]; exact hA.stq (by omega)) dX9_pier_112 ?_
                refine W.eq (g2 := F0 m 113 ls [.ref (ad.1 3 (S 7 0)), .ref (ad.1 1 0), .int (nI qin), .int (nI fin), .int (nI rin), .int (nI win), .int (nI bin), .ref (aN.1 6 (S 7 0)), .ref (aN.1 6 (S 7 0)), .ref (ad.1 4 0)]) (by rw [nq]) ?_
                refine o_callvA (x_runI (As := [.int (nI bin), .int (nI win), .int (nI rin), .int (nI fin), .int (nI qin), .ref (ad.1 1 0), .ref (ad.1 3 (S 7 0))]) (rest := [.ref (aN.1 6 (S 7 0)), .ref (ad.1 4 0)]) ⟨hx, hb, hml, hown, hu⟩ (c_X5_init l D cA B0 aN dN (S 7 0) (by rw [nq]; exact hq) (nI bin) (nI win) (nI rin) (nI fin) (nI qin) (ad.1 1 0) (hA.o rfl) (ad.1 3 (S 7 0)) (hA.st (by omega))) uC_X5_init uN_X5_init uI_X5 uM_X9_119 (n0 := 7) (by decide +kernel) rfl ⟨Nat.le_of_ble_eq_true rfl, Nat.le_of_ble_eq_true rfl⟩ hK hW hB hS hl.1 rfl (lv_room (Nat.le_of_ble_eq_true rfl)) ⟨Nat.le_of_ble_eq_true rfl, Nat.le_of_ble_eq_true rfl⟩ dX9_pier_113) hS (fun u hp H locs hW hS => ?_)
                obtain ⟨aI, dI⟩ := u
                obtain ⟨haI, hdI⟩ := Prod.mk.inj hp
                have i1 : aI.1 = aN.1 := by rw [haI]; first | done | rfl
                have i2 : ∀ k i, ¬ (k = 6 ∧ i = (S 7 0)) → aI.2 k i = ad.2 k i := fun k i h => by rw [haI]; rw [ad2_n _ _ h]; rw [ad2_n _ _ h]; rw [ad2_n _ _ h]; exact n2 k i h
                have j1 : ∀ k i f, ¬ (k = 6 ∧ i = (S 7 0)) → dI.1 k i f = d0.1 k i f := fun k i f h => by rw [hdI]; rw [uI_n _ _ (by omega)]; rw [uI_n _ _ (by omega)]; rw [uI_n _ _ (by omega)]; rw [uI_n _ _ (by omega)]; rw [uI_n _ _ (by omega)]; rw [uJ_1]; rw [uJ_1]; rw [uI_n _ _ (by omega)]; rw [uI_n _ _ (by omega)]; rw [uI_n _ _ (by omega)]; rw [n3 k i h]
                have j2 : ∀ k i f, ¬ (k = 6 ∧ i = (S 7 0)) → dI.2.1 k i f = d0.2.1 k i f := fun k i f h => by rw [hdI]; rw [uI_2]; rw [uI_2]; rw [uI_2]; rw [uI_2]; rw [uI_2]; rw [uJ_n _ _ (by omega)]; rw [uJ_n _ _ (by omega)]; rw [uI_2]; rw [uI_2]; rw [uI_2]; rw [n4 k i h]
                have j3 : dI.2.2 = d0.2.2 := by rw [hdI]; exact n5
                have aF : AFr ad aI := ⟨fun k hk => by funext i; rw [i1]; exact n1 k i (by omega), fun k hk => by funext i; exact i2 k i (by omega)⟩
                have h4 : aI.1 4 0 = ad.1 4 0 := by rw [i1]; exact n1 4 0 (by omega)
                have hqI : aI.1 6 (S 7 0) ≠ 0 := by rw [i1, nq]; exact hq
                have h4n : aI.1 4 0 ≠ 0 := by rw [h4]; exact hA.li (by decide)
                refine W.eq (g2 := F0 m 116 ls [.ref (aI.1 6 (S 7 0)), .ref (aI.1 4 0)]) (by rw [h4, i1]) ?_
                refine o_calliA (o_runV (As := [.ref (aI.1 6 (S 7 0))]) (rest := []) ⟨hx, hb, hml, hown, hu⟩ (c_Jx4a65c_add_9ea2d l D cA B0 aI (aF.mal hal) dI 0 (S 7 0) 6 6 13 (fs := fun i => xO (aI.2 6 i) (dI.1 6 i) (dI.2.1 6 i) [0, 0, 0, 0, 0, 2, 2, 0, 0, 2, 0, 1, 1]) h4n (by rw [i1, n1 28 0 (by omega)]; exact hA.2.2.2.2.2.2.2.2.2.2.2.2.2) (by rw [i2 4 0 (by omega), i2 5 0 (by omega), i1, n1 5 0 (by omega)]; exact (hA.ls (j := 0) (by decide)).1) (by omega) (fun i hi => by have h := (hA.ls (j := 0) (by decide)).2 i hi; rw [i2 5 0 (by omega), i1, n1 6 i (by omega)]; exact ⟨h.2, h.1⟩) hqI (by decide) (fun a d ha h1 h2 i => by rw [kX_6, ha, h1, h2]) rfl uX_1451 (by rw [j1 4 0 2 (by omega)]; exact hM.1.2.1.size (j := 0) (by decide))) (gV_X9_122 (fun _ h => h)) (n0 := 1) rfl (by decide +kernel) rfl ⟨Nat.le_of_ble_eq_true rfl, Nat.le_of_ble_eq_true rfl⟩ (o_recv hK hW h4n (kX_4 _ _ _ _) rfl) hK hW hB hS hl.1 rfl (lv_room (Nat.le_of_ble_eq_true rfl)) ⟨Nat.le_of_ble_eq_true rfl, Nat.le_of_ble_eq_true rfl⟩ dX9_pier_116) hS (fun r u hp H locs hW hS => ?_)
                obtain ⟨a3, d3⟩ := u
                obtain ⟨rfl, hAd, hd3⟩ := hp
                have hGw : GwP ad 0 6 (S 7 0) a3 := GwP.of (by decide) n1 (by rw [nq]; exact hq) i1 i2 hAd
                have hGd : GwD d0 0 6 (S 7 0) d3 := by rw [show d3 = _ from hd3]; exact GwD.of (by decide) j1 j2 j3
                have hGS : GwS S 2 6 7 (S 7 0) (upS (upS (upS (upS (upS (upS S 2 (S 7 0) bin) 3 (S 7 0) win) 4 (S 7 0) rin) 5 (S 7 0) fin) 6 (S 7 0) qin) 7 0 (S 7 0 + 1)) := ⟨fun f i h1 h2 => by rw [upS_n _ _ (by omega), upS_n _ _ (by omega), upS_n _ _ (by omega), upS_n _ _ (by omega), upS_n _ _ (by omega), upS_n _ _ (by omega)], upS_s _ _ _ _⟩
                have dv : ∀ f, d3.1 6 (S 7 0) f = dI.1 6 (S 7 0) f := fun f => by rw [show d3 = _ from hd3, uI_n _ _ (by omega), uI_n _ _ (by omega)]
                have r0 : d3.1 6 (S 7 0) 0 = nI bin := by rw [dv, hdI]; rw [uI_n _ _ (by omega)]; rw [uI_n _ _ (by omega)]; rw [uI_n _ _ (by omega)]; rw [uI_n _ _ (by omega)]; exact uI_s _ _ _ _ _
                have r1 : d3.1 6 (S 7 0) 1 = nI win := by rw [dv, hdI]; rw [uI_n _ _ (by omega)]; rw [uI_n _ _ (by omega)]; rw [uI_n _ _ (by omega)]; exact uI_s _ _ _ _ _
                have r2 : d3.1 6 (S 7 0) 2 = nI rin := by rw [dv, hdI]; rw [uI_n _ _ (by omega)]; rw [uI_n _ _ (by omega)]; exact uI_s _ _ _ _ _
                have r3 : d3.1 6 (S 7 0) 3 = nI fin := by rw [dv, hdI]; rw [uI_n _ _ (by omega)]; exact uI_s _ _ _ _ _
                have r4 : d3.1 6 (S 7 0) 4 = nI qin := by rw [dv, hdI]; exact uI_s _ _ _ _ _
                have r10 : d3.1 6 (S 7 0) 10 = nI 0 := by rw [dv, hdI]; rw [uI_n _ _ (by omega)]; rw [uI_n _ _ (by omega)]; rw [uI_n _ _ (by omega)]; rw [uI_n _ _ (by omega)]; rw [uI_n _ _ (by omega)]; rw [uJ_1]; rw [uJ_1]; exact uI_s _ _ _ _ _
                have r8 : d3.1 6 (S 7 0) 8 = nI 0 := by rw [dv, hdI]; rw [uI_n _ _ (by omega)]; rw [uI_n _ _ (by omega)]; rw [uI_n _ _ (by omega)]; rw [uI_n _ _ (by omega)]; rw [uI_n _ _ (by omega)]; rw [uJ_1]; rw [uJ_1]; rw [uI_n _ _ (by omega)]; exact uI_s _ _ _ _ _
                have r7 : d3.1 6 (S 7 0) 7 = nI 0 := by rw [dv, hdI]; rw [uI_n _ _ (by omega)]; rw [uI_n _ _ (by omega)]; rw [uI_n _ _ (by omega)]; rw [uI_n _ _ (by omega)]; rw [uI_n _ _ (by omega)]; rw [uJ_1]; rw [uJ_1]; rw [uI_n _ _ (by omega)]; rw [uI_n _ _ (by omega)]; exact uI_s _ _ _ _ _
                have t2 : (upS (upS (upS (upS (upS (upS S 2 (S 7 0) bin) 3 (S 7 0) win) 4 (S 7 0) rin) 5 (S 7 0) fin) 6 (S 7 0) qin) 7 0 (S 7 0 + 1)) 2 (S 7 0) = bin := by rw [upS_n _ _ (by omega), upS_n _ _ (by omega), upS_n _ _ (by omega), upS_n _ _ (by omega), upS_n _ _ (by omega), upS_s]
                have t3 : (upS (upS (upS (upS (upS (upS S 2 (S 7 0) bin) 3 (S 7 0) win) 4 (S 7 0) rin) 5 (S 7 0) fin) 6 (S 7 0) qin) 7 0 (S 7 0 + 1)) 3 (S 7 0) = win := by rw [upS_n _ _ (by omega), upS_n _ _ (by omega), upS_n _ _ (by omega), upS_n _ _ (by omega), upS_s]
                have t4 : (upS (upS (upS (upS (upS (upS S 2 (S 7 0) bin) 3 (S 7 0) win) 4 (S 7 0) rin) 5 (S 7 0) fin) 6 (S 7 0) qin) 7 0 (S 7 0 + 1)) 4 (S 7 0) = rin := by rw [upS_n _ _ (by omega), upS_n _ _ (by omega), upS_n _ _ (by omega), upS_s]
                have t5 : (upS (upS (upS (upS (upS (upS S 2 (S 7 0) bin) 3 (S 7 0) win) 4 (S 7 0) rin) 5 (S 7 0) fin) 6 (S 7 0) qin) 7 0 (S 7 0 + 1)) 5 (S 7 0) = fin := by rw [upS_n _ _ (by omega), upS_n _ _ (by omega), upS_s]
                have t6 : (upS (upS (upS (upS (upS (upS S 2 (S 7 0) bin) 3 (S 7 0) win) 4 (S 7 0) rin) 5 (S 7 0) fin) 6 (S 7 0) qin) 7 0 (S 7 0 + 1)) 6 (S 7 0) = qin := by rw [upS_n _ _ (by omega), upS_s]
                have q5 : a3.2 6 (S 7 0) = aI.2 6 (S 7 0) := hAd.2.2.2.2.2.2.1 6 (S 7 0) (by omega) (by omega) (by omega)
                have q9 : aI.2 6 (S 7 0) = va_up (va_up (va_up (aN.2 6 (S 7 0)) 9 0) 5 (ad.1 1 0)) 6 (ad.1 3 (S 7 0)) := by rw [haI, ad2_s, ad2_s, ad2_s]
                have hrec : (∀ f, f < 5 → d3.1 6 (S 7 0) f = nI ((upS (upS (upS (upS (upS (upS S 2 (S 7 0) bin) 3 (S 7 0) win) 4 (S 7 0) rin) 5 (S 7 0) fin) 6 (S 7 0) qin) 7 0 (S 7 0 + 1)) (2 + f) (S 7 0))) ∧ d3.1 6 (S 7 0) 10 = nI 0 ∧ d3.1 6 (S 7 0) 7 = nI 0 ∧ d3.1 6 (S 7 0) 8 = nI 0 ∧ (a3.2 6 (S 7 0) 5 = a3.1 1 0 ∧ a3.2 6 (S 7 0) 6 = a3.1 3 (S 7 0) ∧ a3.2 6 (S 7 0) 9 = 0) := ⟨fun f hf => match f, hf with | 0, _ => by rw [r0, t2] | 1, _ => by rw [r1, t3] | 2, _ => by rw [r2, t4] | 3, _ => by rw [r3, t5] | 4, _ => by rw [r4, t6] | (f + 5), hf => absurd hf (by omega), r10, r7, r8, by rw [q5, q9, hGw.2.1 1 0 (by omega) (by omega)]; rfl, by rw [q5, q9, hGw.2.1 3 (S 7 0) (by omega) (by omega)]; rfl, by rw [q5, q9]; rfl⟩
                have hP : PX cA a3 (upS (upS (upS (upS (upS (upS S 2 (S 7 0) bin) 3 (S 7 0) win) 4 (S 7 0) rin) 5 (S 7 0) fin) 6 (S 7 0) qin) 7 0 (S 7 0 + 1)) sr d0 d3 := xg0 hM hR rfl (by omega) (((((((hG.b.up 2 _ (mx := 3) rfl (by omega)).up 3 _ (mx := 20) rfl (by omega)).up 4 _ (mx := 200) rfl (by omega)).up 5 _ (mx := 99) rfl (by omega)).up 6 _ (mx := 99) rfl (by omega)).up 7 0 (mx := 8) rfl (by omega)).g ⟨fun k hk => up_lt (f := 2) (g := S 2) hbin (fun hk => hG.2.2.1 k hk) hk, fun k hk => Nat.lt_succ_of_lt (hG.2.2.2.1 k hk), fun k hk => Nat.lt_succ_of_lt (hG.2.2.2.2.1 k hk), fun k hk => Nat.lt_succ_of_lt (hG.2.2.2.2.2.1 k hk), fun k hk => Nat.lt_of_lt_of_le (hG.2.2.2.2.2.2 k hk) (Nat.pow_le_pow_right (by decide) (Nat.le_succ _))⟩) hGw hGd hGS hrec
                refine lv_pop hx hb dX9_pier_119 rfl ?_
                refine lv_iload hx hb dX9_pier_120 (lv_at hl 0 rfl) ?_
                refine W.widen (k := 2) (n := 80) (by decide) (by decide) ?_
                exact o_iretA hx hb hr hlocks hW hS ⟨by simp only [aPier, ix_nI hbin (by omega), nx_nI (j := bin) (by omega), rx_nI hwina hwin (by omega), nx_nI (j := win) (by omega), rx_nI hrina hrin (by omega), nx_nI (j := rin) (by omega), ix_nI hfin (by omega), nx_nI (j := fin) (by omega), ix_nI hqin (by omega), nx_nI (j := qin) (by omega), hne, eq_self, ↓reduceIte, Bool.false_eq_true], by simp only [nPier, ix_nI hbin (by omega), nx_nI (j := bin) (by omega), rx_nI hwina hwin (by omega), nx_nI (j := win) (by omega), rx_nI hrina hrin (by omega), nx_nI (j := rin) (by omega), ix_nI hfin (by omega), nx_nI (j := fin) (by omega), ix_nI hqin (by omega), nx_nI (j := qin) (by omega), hne, eq_self, ↓reduceIte, Bool.false_eq_true]; exact hP, hGw.afr (by decide)⟩ dX9_pier_122
              · have hne : S 7 0 = 8 := by omega
                refine lv_iconst (v := -1) hx hb dX9_pier_85 (by decide) ?_
                refine W.widen (k := 2) (n := 80) (by decide) (by decide) ?_
                exact o_iretA hx hb hr hlocks hW hS (⟨by first | (simp only [aPier, ix_nI hbin (by omega), nx_nI (j := bin) (by omega), rx_nI hwina hwin (by omega), nx_nI (j := win) (by omega), rx_nI hrina hrin (by omega), nx_nI (j := rin) (by omega), ix_nI hfin (by omega), nx_nI (j := fin) (by omega), ix_nI hqin (by omega), nx_nI (j := qin) (by omega), hne, eq_self, ↓reduceIte, Bool.false_eq_true]; done) | (simp only [aPier, ix_nI hbin (by omega), nx_nI (j := bin) (by omega), rx_nI hwina hwin (by omega), nx_nI (j := win) (by omega), rx_nI hrina hrin (by omega), nx_nI (j := rin) (by omega), ix_nI hfin (by omega), nx_nI (j := fin) (by omega), ix_nI hqin (by omega), nx_nI (j := qin) (by omega), hne, eq_self, ↓reduceIte, Bool.false_eq_true]; rfl), by simp only [nPier, ix_nI hbin (by omega), nx_nI (j := bin) (by omega), rx_nI hwina hwin (by omega), nx_nI (j := win) (by omega), rx_nI hrina hrin (by omega), nx_nI (j := rin) (by omega), ix_nI hfin (by omega), nx_nI (j := fin) (by omega), ix_nI hqin (by omega), nx_nI (j := qin) (by omega), hne, eq_self, ↓reduceIte, Bool.false_eq_true]; exact hI.pub hR, AFr.refl ad⟩) dX9_pier_86

set_option maxHeartbeats 400000 in
set_option maxRecDepth 100000 in
theorem c_X9_look (l : Launch) (D : va_G) (cA : Nat → ClassId) (B0 : Nat) (ad : kA) (hal : mAl ad) (S : sS) (sr : Nat → Int32) (d0 : kD) (hM : InvX cA ad S d0) (hR : RowX S sr d0) (pi day si ei ki : Int32) : oM l yX9_look wX9_look 8 2 80 D cA B0 ad d0 ([.ref (ad.1 0 0), .int pi, .int day, .int si, .int ei, .int ki] : List Value) (oQiA D cA B0 (fun r u => r = aLook S pi day si ei ki ∧ PX cA u.1 (nLook S pi day si ei ki) sr d0 u.2 ∧ AFr ad u.1)) := by
  refine o_ofW (cc := cX9_look) (maxL := 8) (ret := some .int) (by decide) rfl (Nat.le_of_ble_eq_true rfl) ?_
  intro p e s m below meth c hx hb hr hml hts hown hlocks hnm hK hW hB hS ls hl
  have hu : ∀ w ∈ UW, w.before _ s = true := fun w h => hts w (uw_c w h)
  have hl : lv_has ls 8 [(0, .ref (ad.1 0 0)), (1, .int pi), (2, .int day), (3, .int si), (4, .int ei), (5, .int ki)] := hl
  have hX := hM.1
  have hA := hX.1
  have hG := hX.2.2
  have hb7 : S 7 0 ≤ 8 := hG.f 7 (mx := 8) (by decide)
  have hb11 : S 11 0 ≤ 20 := hG.f 11 (mx := 20) (by decide)
  have hb18 : S 18 0 ≤ 40 := hG.f 18 (mx := 40) (by decide)
  have hI : XX cA ad S d0 d0 := XX.start hM
  have hb1 : S 1 0 ≤ 4 := hG.f 1 (mx := 4) (by decide)
  have hb19 : S 19 0 ≤ 399 := hG.f 19 (mx := 399) (by decide)
  have hb22 : S 22 0 ≤ 64 := hG.f 22 (mx := 64) (by decide)
  have hb25 : S 25 0 ≤ 4 := hG.f 25 (mx := 4) (by decide)
  have hb30 : S 30 0 ≤ 10 := hG.f 30 (mx := 10) (by decide)
  have hb32 : S 32 0 ≤ 64 := hG.f 32 (mx := 64) (by decide)
  refine lv_aload_n hx hb dX9_look_0 rfl (lv_at hl 0 rfl) ?_
  refine lv_iload_n hx hb dX9_look_1 rfl (lv_at hl 1 rfl) ?_
  refine o_callq (o_runV (As := [.int pi]) (rest := []) ⟨hx, hb, hml, hown, hu⟩ (c_X9_pierOf l D cA B0 ad hal S d0 hI.1.1 pi) (gV_X9_126 (fun _ h => h)) (n0 := 1) rfl (by decide +kernel) rfl ⟨Nat.le_of_ble_eq_true rfl, Nat.le_of_ble_eq_true rfl⟩ (o_recv hK hW (hA.o (k := 0) rfl) (kX_0 _ _ _ _) rfl) hK hW hB hS hl.1 rfl (lv_room (Nat.le_of_ble_eq_true rfl)) ⟨Nat.zero_le _, Nat.zero_le _⟩ dX9_look_2) hS (fun r_2 d_1 q_3 H locs hW hS => ?_)
  obtain ⟨rfl, rfl⟩ := q_3
  cases o_4 : ix pi (S 7 0) with
  | false =>
    refine W.eq (g2 := F0 m 5 ls [.null]) rfl ?_
    refine lv_astoreN (lv' := [(6, .null), (0, .ref (ad.1 0 0)), (1, .int pi), (2, .int day), (3, .int si), (4, .int ei), (5, .int ki)]) hx hb dX9_look_5 hl (by decide) rfl (fun ls hl => ?_)
    refine lv_aloadN hx hb dX9_look_7 (lv_at hl 0 rfl) ?_
    refine lv_ifnullN (tgt := 59) hx hb dX9_look_9 (by decide) ?_
    refine n_iconst (v := 0) hx hb dX9_look_59 (by decide) ?_
    refine lv_istore (lv' := [(7, .int (nI 0)), (6, .null), (0, .ref (ad.1 0 0)), (1, .int pi), (2, .int day), (3, .int si), (4, .int ei), (5, .int ki)]) hx hb dX9_look_60 hl (by decide) rfl (fun ls hl => ?_)
    refine lv_iload hx hb dX9_look_62 (lv_at hl 0 rfl) ?_
    refine n_if_eq (tgt := 79) hx hb (by omega) dX9_look_64 (by decide) (fun c_r => ?_) (fun c_r => ?_)
    · refine lv_iconst (v := -1) hx hb dX9_look_79 (by decide) ?_
      refine W.widen (k := 2) (n := 80) (by decide) (by decide) ?_
      exact o_iretA hx hb hr hlocks hW hS (⟨by first | (simp only [aLook, o_4, eq_self, ↓reduceIte, Bool.false_eq_true]; done) | (simp only [aLook, o_4, eq_self, ↓reduceIte, Bool.false_eq_true]; rfl), by simp only [nLook, o_4, eq_self, ↓reduceIte, Bool.false_eq_true]; exact hI.pub hR, AFr.refl ad⟩) dX9_look_80
    · exact absurd rfl c_r
  | true =>
    obtain ⟨pin, hpin, rfl⟩ := ix_t o_4 (by omega)
    refine W.eq (g2 := F0 m 5 ls [.ref (ad.1 6 pin)]) (by rw [if_pos rfl, nx_nI (by omega)]; rfl) ?_
    refine lv_astore (lv' := [(6, .ref (ad.1 6 pin)), (0, .ref (ad.1 0 0)), (1, .int (nI pin)), (2, .int day), (3, .int si), (4, .int ei), (5, .int ki)]) hx hb dX9_look_5 hl (by decide) rfl (fun ls hl => ?_)
    refine lv_aload hx hb dX9_look_7 (lv_at hl 0 rfl) ?_
    refine lv_ifnull hx hb dX9_look_9 ?_
    refine lv_iload_n hx hb dX9_look_12 rfl (lv_at hl 3 rfl) ?_
    refine o_calli (o_runS (As := [.int day]) (rest := []) ⟨hx, hb, hml, hown, hu⟩ (c_X9_isDay l D cA B0 ad hal d0 day) (gS_X9_81 (fun _ h => h)) (n0 := 1) rfl (by decide +kernel) rfl ⟨Nat.le_of_ble_eq_true rfl, Nat.le_of_ble_eq_true rfl⟩ hK hW hB hS hl.1 rfl (lv_room (Nat.le_of_ble_eq_true rfl)) ⟨Nat.zero_le _, Nat.zero_le _⟩ dX9_look_13) hS (fun r_6 d_5 q_7 H locs hW hS => ?_)
    obtain ⟨rfl, rfl⟩ := q_7
    refine lv_if_eq (tgt := 59) hx hb dX9_look_16 (by decide) (fun c_8 => ?_) (fun c_8 => ?_)
    · refine n_iconst (v := 0) hx hb dX9_look_59 (by decide) ?_
      refine lv_istore (lv' := [(7, .int (nI 0)), (6, .ref (ad.1 6 pin)), (0, .ref (ad.1 0 0)), (1, .int (nI pin)), (2, .int day), (3, .int si), (4, .int ei), (5, .int ki)]) hx hb dX9_look_60 hl (by decide) rfl (fun ls hl => ?_)
      refine lv_iload hx hb dX9_look_62 (lv_at hl 0 rfl) ?_
      refine n_if_eq (tgt := 79) hx hb (by omega) dX9_look_64 (by decide) (fun c_r => ?_) (fun c_r => ?_)
      · refine lv_iconst (v := -1) hx hb dX9_look_79 (by decide) ?_
        refine W.widen (k := 2) (n := 80) (by decide) (by decide) ?_
        exact o_iretA hx hb hr hlocks hW hS (⟨by first | (simp only [aLook, ix_nI hpin (by omega), nx_nI (j := pin) (by omega), bI_z c_8, eq_self, ↓reduceIte, Bool.false_eq_true]; done) | (simp only [aLook, ix_nI hpin (by omega), nx_nI (j := pin) (by omega), bI_z c_8, eq_self, ↓reduceIte, Bool.false_eq_true]; rfl), by simp only [nLook, ix_nI hpin (by omega), nx_nI (j := pin) (by omega), bI_z c_8, eq_self, ↓reduceIte, Bool.false_eq_true]; exact hI.pub hR, AFr.refl ad⟩) dX9_look_80
      · exact absurd rfl c_r
    · obtain ⟨dayn, hdayn, rfl⟩ := ix_t (bI_n c_8) (by omega)
      refine lv_iload_n hx hb dX9_look_19 rfl (lv_at hl 4 rfl) ?_
      refine n_iconst (v := 0) hx hb dX9_look_20 (by decide) ?_
      refine n_sipush (v := 200) hx hb dX9_look_21 (by decide) ?_
      refine o_calli (o_runS (As := [.int si, .int (nI 0), .int (nI 200)]) (rest := []) ⟨hx, hb, hml, hown, hu⟩ (c_X9_within l D cA B0 ad hal d0 si (nI 0) (nI 200)) (gS_X9_85 (fun _ h => h)) (n0 := 3) rfl (by decide +kernel) rfl ⟨Nat.le_of_ble_eq_true rfl, Nat.le_of_ble_eq_true rfl⟩ hK hW hB hS hl.1 rfl (lv_room (Nat.le_of_ble_eq_true rfl)) ⟨Nat.zero_le _, Nat.zero_le _⟩ dX9_look_24) hS (fun r_10 d_9 q_11 H locs hW hS => ?_)
      obtain ⟨rfl, rfl⟩ := q_11
      refine n_topi (y := bI (ix si 201)) (in_ixc 201 rfl (by decide)) ?_
      refine lv_if_eq (tgt := 59) hx hb dX9_look_27 (by decide) (fun c_12 => ?_) (fun c_12 => ?_)
      · refine n_iconst (v := 0) hx hb dX9_look_59 (by decide) ?_
        refine lv_istore (lv' := [(7, .int (nI 0)), (6, .ref (ad.1 6 pin)), (0, .ref (ad.1 0 0)), (1, .int (nI pin)), (2, .int (nI dayn)), (3, .int si), (4, .int ei), (5, .int ki)]) hx hb dX9_look_60 hl (by decide) rfl (fun ls hl => ?_)
        refine lv_iload hx hb dX9_look_62 (lv_at hl 0 rfl) ?_
        refine n_if_eq (tgt := 79) hx hb (by omega) dX9_look_64 (by decide) (fun c_r => ?_) (fun c_r => ?_)
        · refine lv_iconst (v := -1) hx hb dX9_look_79 (by decide) ?_
          refine W.widen (k := 2) (n := 80) (by decide) (by decide) ?_
          exact o_iretA hx hb hr hlocks hW hS (⟨by first | (simp only [aLook, ix_nI hpin (by omega), nx_nI (j := pin) (by omega), ix_nI hdayn (by omega), nx_nI (j := dayn) (by omega), bI_z c_12, eq_self, ↓reduceIte, Bool.false_eq_true]; done) | (simp only [aLook, ix_nI hpin (by omega), nx_nI (j := pin) (by omega), ix_nI hdayn (by omega), nx_nI (j := dayn) (by omega), bI_z c_12, eq_self, ↓reduceIte, Bool.false_eq_true]; rfl), by simp only [nLook, ix_nI hpin (by omega), nx_nI (j := pin) (by omega), ix_nI hdayn (by omega), nx_nI (j := dayn) (by omega), bI_z c_12, eq_self, ↓reduceIte, Bool.false_eq_true]; exact hI.pub hR, AFr.refl ad⟩) dX9_look_80
        · exact absurd rfl c_r
      · obtain ⟨sin, hsin, rfl⟩ := ix_t (bI_n c_12) (by omega)
        refine lv_iload hx hb dX9_look_30 (lv_at hl 5 rfl) ?_
        refine n_iconst (v := 0) hx hb dX9_look_32 (by decide) ?_
        refine n_bipush (v := 50) hx hb dX9_look_33 (by decide) ?_
        refine o_calli (o_runS (As := [.int ei, .int (nI 0), .int (nI 50)]) (rest := []) ⟨hx, hb, hml, hown, hu⟩ (c_X9_within l D cA B0 ad hal d0 ei (nI 0) (nI 50)) (gS_X9_85 (fun _ h => h)) (n0 := 3) rfl (by decide +kernel) rfl ⟨Nat.le_of_ble_eq_true rfl, Nat.le_of_ble_eq_true rfl⟩ hK hW hB hS hl.1 rfl (lv_room (Nat.le_of_ble_eq_true rfl)) ⟨Nat.zero_le _, Nat.zero_le _⟩ dX9_look_35) hS (fun r_14 d_13 q_15 H locs hW hS => ?_)
        obtain ⟨rfl, rfl⟩ := q_15
        refine n_topi (y := bI (ix ei 51)) (in_ixc 51 rfl (by decide)) ?_
        refine lv_if_eq (tgt := 59) hx hb dX9_look_38 (by decide) (fun c_16 => ?_) (fun c_16 => ?_)
        · refine n_iconst (v := 0) hx hb dX9_look_59 (by decide) ?_
          refine lv_istore (lv' := [(7, .int (nI 0)), (6, .ref (ad.1 6 pin)), (0, .ref (ad.1 0 0)), (1, .int (nI pin)), (2, .int (nI dayn)), (3, .int (nI sin)), (4, .int ei), (5, .int ki)]) hx hb dX9_look_60 hl (by decide) rfl (fun ls hl => ?_)
          refine lv_iload hx hb dX9_look_62 (lv_at hl 0 rfl) ?_
          refine n_if_eq (tgt := 79) hx hb (by omega) dX9_look_64 (by decide) (fun c_r => ?_) (fun c_r => ?_)
          · refine lv_iconst (v := -1) hx hb dX9_look_79 (by decide) ?_
            refine W.widen (k := 2) (n := 80) (by decide) (by decide) ?_
            exact o_iretA hx hb hr hlocks hW hS (⟨by first | (simp only [aLook, ix_nI hpin (by omega), nx_nI (j := pin) (by omega), ix_nI hdayn (by omega), nx_nI (j := dayn) (by omega), ix_nI hsin (by omega), nx_nI (j := sin) (by omega), bI_z c_16, eq_self, ↓reduceIte, Bool.false_eq_true]; done) | (simp only [aLook, ix_nI hpin (by omega), nx_nI (j := pin) (by omega), ix_nI hdayn (by omega), nx_nI (j := dayn) (by omega), ix_nI hsin (by omega), nx_nI (j := sin) (by omega), bI_z c_16, eq_self, ↓reduceIte, Bool.false_eq_true]; rfl), by simp only [nLook, ix_nI hpin (by omega), nx_nI (j := pin) (by omega), ix_nI hdayn (by omega), nx_nI (j := dayn) (by omega), ix_nI hsin (by omega), nx_nI (j := sin) (by omega), bI_z c_16, eq_self, ↓reduceIte, Bool.false_eq_true]; exact hI.pub hR, AFr.refl ad⟩) dX9_look_80
          · exact absurd rfl c_r
        · obtain ⟨ein, hein, rfl⟩ := ix_t (bI_n c_16) (by omega)
          refine lv_iload hx hb dX9_look_41 (lv_at hl 6 rfl) ?_
          refine o_calli (o_runS (As := [.int ki]) (rest := []) ⟨hx, hb, hml, hown, hu⟩ (c_X9_isDay l D cA B0 ad hal d0 ki) (gS_X9_81 (fun _ h => h)) (n0 := 1) rfl (by decide +kernel) rfl ⟨Nat.le_of_ble_eq_true rfl, Nat.le_of_ble_eq_true rfl⟩ hK hW hB hS hl.1 rfl (lv_room (Nat.le_of_ble_eq_true rfl)) ⟨Nat.zero_le _, Nat.zero_le _⟩ dX9_look_43) hS (fun r_18 d_17 q_19 H locs hW hS => ?_)
          obtain ⟨rfl, rfl⟩ := q_19
          refine lv_if_eq (tgt := 59) hx hb dX9_look_46 (by decide) (fun c_k => ?_) (fun c_k => ?_)
          · have hkn : rx ki dayn 399 = false := rx_no (bI_z c_k)
            refine n_iconst (v := 0) hx hb dX9_look_59 (by decide) ?_
            refine lv_istore (lv' := [(7, .int (nI 0)), (6, .ref (ad.1 6 pin)), (0, .ref (ad.1 0 0)), (1, .int (nI pin)), (2, .int (nI dayn)), (3, .int (nI sin)), (4, .int (nI ein)), (5, .int ki)]) hx hb dX9_look_60 hl (by decide) rfl (fun ls hl => ?_)
            refine lv_iload hx hb dX9_look_62 (lv_at hl 0 rfl) ?_
            refine n_if_eq (tgt := 79) hx hb (by omega) dX9_look_64 (by decide) (fun c_r => ?_) (fun c_r => ?_)
            · refine lv_iconst (v := -1) hx hb dX9_look_79 (by decide) ?_
              refine W.widen (k := 2) (n := 80) (by decide) (by decide) ?_
              exact o_iretA hx hb hr hlocks hW hS (⟨by first | (simp only [aLook, ix_nI hpin (by omega), nx_nI (j := pin) (by omega), ix_nI hdayn (by omega), nx_nI (j := dayn) (by omega), ix_nI hsin (by omega), nx_nI (j := sin) (by omega), ix_nI hein (by omega), nx_nI (j := ein) (by omega), hkn, eq_self, ↓reduceIte, Bool.false_eq_true]; done) | (simp only [aLook, ix_nI hpin (by omega), nx_nI (j := pin) (by omega), ix_nI hdayn (by omega), nx_nI (j := dayn) (by omega), ix_nI hsin (by omega), nx_nI (j := sin) (by omega), ix_nI hein (by omega), nx_nI (j := ein) (by omega), hkn, eq_self, ↓reduceIte, Bool.false_eq_true]; rfl), by simp only [nLook, ix_nI hpin (by omega), nx_nI (j := pin) (by omega), ix_nI hdayn (by omega), nx_nI (j := dayn) (by omega), ix_nI hsin (by omega), nx_nI (j := sin) (by omega), ix_nI hein (by omega), nx_nI (j := ein) (by omega), hkn, eq_self, ↓reduceIte, Bool.false_eq_true]; exact hI.pub hR, AFr.refl ad⟩) dX9_look_80
            · exact absurd rfl c_r
          · obtain ⟨kin, hkin, rfl⟩ := ix_t (bI_n c_k) (by omega)
            refine lv_iload hx hb dX9_look_49 (lv_at hl 6 rfl) ?_
            refine lv_iload_n hx hb dX9_look_51 rfl (lv_at hl 3 rfl) ?_
            refine n_icmp_lt (tgt := 59) hx hb (by omega) (by omega) dX9_look_52 (by decide) (fun c_d => ?_) (fun c_d => ?_)
            · have hkn : rx (nI kin) dayn 399 = false := rx_no2 c_d (by omega)
              refine n_iconst (v := 0) hx hb dX9_look_59 (by decide) ?_
              refine lv_istore (lv' := [(7, .int (nI 0)), (6, .ref (ad.1 6 pin)), (0, .ref (ad.1 0 0)), (1, .int (nI pin)), (2, .int (nI dayn)), (3, .int (nI sin)), (4, .int (nI ein)), (5, .int (nI kin))]) hx hb dX9_look_60 hl (by decide) rfl (fun ls hl => ?_)
              refine lv_iload hx hb dX9_look_62 (lv_at hl 0 rfl) ?_
              refine n_if_eq (tgt := 79) hx hb (by omega) dX9_look_64 (by decide) (fun c_r => ?_) (fun c_r => ?_)
              · refine lv_iconst (v := -1) hx hb dX9_look_79 (by decide) ?_
                refine W.widen (k := 2) (n := 80) (by decide) (by decide) ?_
                exact o_iretA hx hb hr hlocks hW hS (⟨by first | (simp only [aLook, ix_nI hpin (by omega), nx_nI (j := pin) (by omega), ix_nI hdayn (by omega), nx_nI (j := dayn) (by omega), ix_nI hsin (by omega), nx_nI (j := sin) (by omega), ix_nI hein (by omega), nx_nI (j := ein) (by omega), nx_nI (j := kin) (by omega), hkn, eq_self, ↓reduceIte, Bool.false_eq_true]; done) | (simp only [aLook, ix_nI hpin (by omega), nx_nI (j := pin) (by omega), ix_nI hdayn (by omega), nx_nI (j := dayn) (by omega), ix_nI hsin (by omega), nx_nI (j := sin) (by omega), ix_nI hein (by omega), nx_nI (j := ein) (by omega), nx_nI (j := kin) (by omega), hkn, eq_self, ↓reduceIte, Bool.false_eq_true]; rfl), by simp only [nLook, ix_nI hpin (by omega), nx_nI (j := pin) (by omega), ix_nI hdayn (by omega), nx_nI (j := dayn) (by omega), ix_nI hsin (by omega), nx_nI (j := sin) (by omega), ix_nI hein (by omega), nx_nI (j := ein) (by omega), nx_nI (j := kin) (by omega), hkn, eq_self, ↓reduceIte, Bool.false_eq_true]; exact hI.pub hR, AFr.refl ad⟩) dX9_look_80
              · exact absurd rfl c_r
            · have hkn : rx (nI kin) dayn 399 = true := rx_nI (by omega) (by omega) (by omega)
              refine n_iconst (v := 1) hx hb dX9_look_55 (by decide) ?_
              refine lv_goto (tgt := 60) hx hb dX9_look_56 (by decide) ?_
              refine lv_istore (lv' := [(7, .int (nI 1)), (6, .ref (ad.1 6 pin)), (0, .ref (ad.1 0 0)), (1, .int (nI pin)), (2, .int (nI dayn)), (3, .int (nI sin)), (4, .int (nI ein)), (5, .int (nI kin))]) hx hb dX9_look_60 hl (by decide) rfl (fun ls hl => ?_)
              refine lv_iload hx hb dX9_look_62 (lv_at hl 0 rfl) ?_
              refine n_if_eq (tgt := 79) hx hb (by omega) dX9_look_64 (by decide) (fun c_r => ?_) (fun c_r => ?_)
              · exact absurd c_r (by decide)
              · refine lv_aload_n hx hb dX9_look_67 rfl (lv_at hl 2 rfl) ?_
                refine x_gr hx hb hu in_X9 hown hK hW (hA.o (k := 0) rfl) (kX_0 _ _ _ _) rfl 3 (by decide) uF_X9_25 (hA.f 3 (k := 4) (i := 1) (by decide) (hA.li (by omega))) dX9_look_68 ?_
                refine o_calli (o_runV (As := []) (rest := []) ⟨hx, hb, hml, hown, hu⟩ (c_Jx4a65c_size_8abf5 l D cA B0 ad hal S d0 hI.1.1 1 (by decide)) (gV_X9_105 (fun _ h => h)) (n0 := 0) rfl (by decide +kernel) rfl ⟨Nat.le_of_ble_eq_true rfl, Nat.le_of_ble_eq_true rfl⟩ (o_recv hK hW (hA.li (by omega)) (kX_4 _ _ _ _) rfl) hK hW hB hS hl.1 rfl (lv_room (Nat.le_of_ble_eq_true rfl)) ⟨Nat.zero_le _, Nat.zero_le _⟩ dX9_look_71) hS (fun r_21 d_20 q_22 H locs hW hS => ?_)
                obtain ⟨rfl, rfl⟩ := q_22
                refine n_topi (y := nI (S 18 0)) rfl ?_
                refine n_bipush (v := 40) hx hb dX9_look_74 (by decide) ?_
                refine n_icmp_lt (tgt := 81) hx hb (by omega) (by omega) dX9_look_76 (by decide) (fun c_f => ?_) (fun c_f => ?_)
                · have hne : ¬ S 18 0 = 40 := by omega
                  refine lv_aload_n hx hb dX9_look_81 rfl (lv_at hl 2 rfl) ?_
                  refine x_gr hx hb hu in_X9 hown hK hW (hA.o (k := 0) rfl) (kX_0 _ _ _ _) rfl 3 (by decide) uF_X9_25 (hA.f 3 (k := 4) (i := 1) (by decide) (hA.li (by omega))) dX9_look_82 ?_
                  have hdn : ad.1 8 (S 18 0) = 0 := hA.2.2.2.2.2.2.2.2.2.2.2.1 1 (by decide) (S 18 0) (Nat.le_refl _)
                  refine x_new hx hb hu in_X2 tyX2 tyX2_ok hown uL_X9_116 uO_X2 uI_X2 hK hW hS hB (k := 8) (i := (S 18 0)) (by decide) hdn (fun _ _ _ => rfl) rfl (fun j hj => match j, hj with | 0, _ => rfl | 1, _ => rfl | 2, _ => rfl | 3, _ => rfl | 4, _ => rfl | 5, _ => rfl | 6, _ => rfl | 7, _ => rfl | (j + 8), hj => absurd hj (by omega)) ⟨Nat.le_of_ble_eq_true rfl, Nat.le_of_ble_eq_true rfl⟩ dX9_look_85 (fun q H hq hW hS => ?_)
                  generalize haN : ad1 (zA ad 8 (S 18 0)) 8 (S 18 0) q = aN at hW
                  generalize hdN : zD d0 8 (S 18 0) = dN at hW
                  have n1 : ∀ k i, ¬ (k = 8 ∧ i = (S 18 0)) → aN.1 k i = ad.1 k i := fun k i h => by rw [← haN]; exact ad1_n _ _ h
                  have nq : aN.1 8 (S 18 0) = q := by rw [← haN]; exact ad1_s _ _ _ _
                  have n2 : ∀ k i, ¬ (k = 8 ∧ i = (S 18 0)) → aN.2 k i = ad.2 k i := fun k i h => by rw [← haN]; exact zA_n ad h
                  have n3 : ∀ k i, ¬ (k = 8 ∧ i = (S 18 0)) → dN.1 k i = d0.1 k i := fun k i h => by rw [← hdN]; exact zD_n1 d0 h
                  have n4 : ∀ k i, ¬ (k = 8 ∧ i = (S 18 0)) → dN.2.1 k i = d0.2.1 k i := fun k i h => by rw [← hdN]; exact zD_n2 d0 h
                  have n5 : dN.2.2 = d0.2.2 := by rw [← hdN]; rfl
                  refine lv_dup hx hb dX9_look_88 rfl ?_
                  refine lv_aload hx hb dX9_look_89 (lv_at hl 1 rfl) ?_
                  refine lv_iload_n hx hb dX9_look_91 rfl (lv_at hl 4 rfl) ?_
                  refine lv_iload_n hx hb dX9_look_92 rfl (lv_at hl 5 rfl) ?_
                  refine lv_iload hx hb dX9_look_93 (lv_at hl 6 rfl) ?_
                  refine lv_iload hx hb dX9_look_95 (lv_at hl 7 rfl) ?_
                  refine W.eq (g2 := F0 m 97 ls [.int (nI kin), .int (nI ein), .int (nI sin), .int (nI dayn), .ref (ad.1 6 pin), .ref (aN.1 8 (S 18 0)), .ref (aN.1 8 (S 18 0)), .ref (ad.1 4 1)]) (by rw [nq]) ?_
                  refine o_callvA (x_runI (As := [.ref (ad.1 6 pin), .int (nI dayn), .int (nI sin), .int (nI ein), .int (nI kin)]) (rest := [.ref (aN.1 8 (S 18 0)), .ref (ad.1 4 1)]) ⟨hx, hb, hml, hown, hu⟩ (c_X2_init l D cA B0 aN dN (S 18 0) (by rw [nq]; exact hq) (ad.1 6 pin) (hA.pier (by omega)) (nI dayn) (nI sin) (nI ein) (nI kin)) uC_X2_init uN_X2_init uI_X2 uM_X9_219 (n0 := 5) (by decide +kernel) rfl ⟨Nat.le_of_ble_eq_true rfl, Nat.le_of_ble_eq_true rfl⟩ hK hW hB hS hl.1 rfl (lv_room (Nat.le_of_ble_eq_true rfl)) ⟨Nat.le_of_ble_eq_true rfl, Nat.le_of_ble_eq_true rfl⟩ dX9_look_97) hS (fun u hp H locs hW hS => ?_)
                  obtain ⟨aI, dI⟩ := u
                  obtain ⟨haI, hdI⟩ := Prod.mk.inj hp
                  have i1 : aI.1 = aN.1 := by rw [haI]; first | done | rfl
                  have i2 : ∀ k i, ¬ (k = 8 ∧ i = (S 18 0)) → aI.2 k i = ad.2 k i := fun k i h => by rw [haI]; rw [ad2_n _ _ h]; exact n2 k i h
                  have j1 : ∀ k i f, ¬ (k = 8 ∧ i = (S 18 0)) → dI.1 k i f = d0.1 k i f := fun k i f h => by rw [hdI]; rw [uI_n _ _ (by omega)]; rw [uI_n _ _ (by omega)]; rw [uI_n _ _ (by omega)]; rw [uI_n _ _ (by omega)]; rw [uJ_1]; rw [uI_n _ _ (by omega)]; rw [uI_n _ _ (by omega)]; rw [n3 k i h]
                  have j2 : ∀ k i f, ¬ (k = 8 ∧ i = (S 18 0)) → dI.2.1 k i f = d0.2.1 k i f := fun k i f h => by rw [hdI]; rw [uI_2]; rw [uI_2]; rw [uI_2]; rw [uI_2]; rw [uJ_n _ _ (by omega)]; rw [uI_2]; rw [uI_2]; rw [n4 k i h]
                  have j3 : dI.2.2 = d0.2.2 := by rw [hdI]; exact n5
                  have aF : AFr ad aI := ⟨fun k hk => by funext i; rw [i1]; exact n1 k i (by omega), fun k hk => by funext i; exact i2 k i (by omega)⟩
                  have h4 : aI.1 4 1 = ad.1 4 1 := by rw [i1]; exact n1 4 1 (by omega)
                  have hqI : aI.1 8 (S 18 0) ≠ 0 := by rw [i1, nq]; exact hq
                  have h4n : aI.1 4 1 ≠ 0 := by rw [h4]; exact hA.li (by decide)
                  refine W.eq (g2 := F0 m 100 ls [.ref (aI.1 8 (S 18 0)), .ref (aI.1 4 1)]) (by rw [h4, i1]) ?_
                  refine o_calliA (o_runV (As := [.ref (aI.1 8 (S 18 0))]) (rest := []) ⟨hx, hb, hml, hown, hu⟩ (c_Jx4a65c_add_9ea2d l D cA B0 aI (aF.mal hal) dI 1 (S 18 0) 8 3 8 (fs := fun i => xO (aI.2 8 i) (dI.1 8 i) (dI.2.1 8 i) [2, 0, 0, 0, 0, 0, 0, 1]) h4n (by rw [i1, n1 28 0 (by omega)]; exact hA.2.2.2.2.2.2.2.2.2.2.2.2.2) (by rw [i2 4 1 (by omega), i2 5 1 (by omega), i1, n1 5 1 (by omega)]; exact (hA.ls (j := 1) (by decide)).1) (by omega) (fun i hi => by have h := (hA.ls (j := 1) (by decide)).2 i hi; rw [i2 5 1 (by omega), i1, n1 8 i (by omega)]; exact ⟨h.2, h.1⟩) hqI (by decide) (fun a d ha h1 h2 i => by rw [kX_8, ha, h1, h2]) rfl uX_1453 (by rw [j1 4 1 2 (by omega)]; exact hM.1.2.1.size (j := 1) (by decide))) (gV_X9_122 (fun _ h => h)) (n0 := 1) rfl (by decide +kernel) rfl ⟨Nat.le_of_ble_eq_true rfl, Nat.le_of_ble_eq_true rfl⟩ (o_recv hK hW h4n (kX_4 _ _ _ _) rfl) hK hW hB hS hl.1 rfl (lv_room (Nat.le_of_ble_eq_true rfl)) ⟨Nat.le_of_ble_eq_true rfl, Nat.le_of_ble_eq_true rfl⟩ dX9_look_100) hS (fun r u hp H locs hW hS => ?_)
                  obtain ⟨a3, d3⟩ := u
                  obtain ⟨rfl, hAd, hd3⟩ := hp
                  have hGw : GwP ad 1 8 (S 18 0) a3 := GwP.of (by decide) n1 (by rw [nq]; exact hq) i1 i2 hAd
                  have hGd : GwD d0 1 8 (S 18 0) d3 := by rw [show d3 = _ from hd3]; exact GwD.of (by decide) j1 j2 j3
                  have hGS : GwS S 12 17 18 (S 18 0) (upS (upS (upS (upS (upS (upS (upS S 12 (S 18 0) pin) 13 (S 18 0) dayn) 14 (S 18 0) sin) 15 (S 18 0) ein) 16 (S 18 0) kin) 17 (S 18 0) 400) 18 0 (S 18 0 + 1)) := ⟨fun f i h1 h2 => by rw [upS_n _ _ (by omega), upS_n _ _ (by omega), upS_n _ _ (by omega), upS_n _ _ (by omega), upS_n _ _ (by omega), upS_n _ _ (by omega), upS_n _ _ (by omega)], upS_s _ _ _ _⟩
                  have dv : ∀ f, d3.1 8 (S 18 0) f = dI.1 8 (S 18 0) f := fun f => by rw [show d3 = _ from hd3, uI_n _ _ (by omega), uI_n _ _ (by omega)]
                  have r1 : d3.1 8 (S 18 0) 1 = nI dayn := by rw [dv, hdI]; rw [uI_n _ _ (by omega)]; rw [uI_n _ _ (by omega)]; rw [uI_n _ _ (by omega)]; exact uI_s _ _ _ _ _
                  have r2 : d3.1 8 (S 18 0) 2 = nI sin := by rw [dv, hdI]; rw [uI_n _ _ (by omega)]; rw [uI_n _ _ (by omega)]; exact uI_s _ _ _ _ _
                  have r3 : d3.1 8 (S 18 0) 3 = nI ein := by rw [dv, hdI]; rw [uI_n _ _ (by omega)]; exact uI_s _ _ _ _ _
                  have r4 : d3.1 8 (S 18 0) 4 = nI kin := by rw [dv, hdI]; exact uI_s _ _ _ _ _
                  have r6 : d3.1 8 (S 18 0) 6 = nI 0 := by rw [dv, hdI]; rw [uI_n _ _ (by omega)]; rw [uI_n _ _ (by omega)]; rw [uI_n _ _ (by omega)]; rw [uI_n _ _ (by omega)]; rw [uJ_1]; exact uI_s _ _ _ _ _
                  have r5 : d3.1 8 (S 18 0) 5 = nI 400 := by rw [dv, hdI]; rw [uI_n _ _ (by omega)]; rw [uI_n _ _ (by omega)]; rw [uI_n _ _ (by omega)]; rw [uI_n _ _ (by omega)]; rw [uJ_1]; rw [uI_n _ _ (by omega)]; exact uI_s _ _ _ _ _
                  have t12 : (upS (upS (upS (upS (upS (upS (upS S 12 (S 18 0) pin) 13 (S 18 0) dayn) 14 (S 18 0) sin) 15 (S 18 0) ein) 16 (S 18 0) kin) 17 (S 18 0) 400) 18 0 (S 18 0 + 1)) 12 (S 18 0) = pin := by rw [upS_n _ _ (by omega), upS_n _ _ (by omega), upS_n _ _ (by omega), upS_n _ _ (by omega), upS_n _ _ (by omega), upS_n _ _ (by omega), upS_s]
                  have t13 : (upS (upS (upS (upS (upS (upS (upS S 12 (S 18 0) pin) 13 (S 18 0) dayn) 14 (S 18 0) sin) 15 (S 18 0) ein) 16 (S 18 0) kin) 17 (S 18 0) 400) 18 0 (S 18 0 + 1)) 13 (S 18 0) = dayn := by rw [upS_n _ _ (by omega), upS_n _ _ (by omega), upS_n _ _ (by omega), upS_n _ _ (by omega), upS_n _ _ (by omega), upS_s]
                  have t14 : (upS (upS (upS (upS (upS (upS (upS S 12 (S 18 0) pin) 13 (S 18 0) dayn) 14 (S 18 0) sin) 15 (S 18 0) ein) 16 (S 18 0) kin) 17 (S 18 0) 400) 18 0 (S 18 0 + 1)) 14 (S 18 0) = sin := by rw [upS_n _ _ (by omega), upS_n _ _ (by omega), upS_n _ _ (by omega), upS_n _ _ (by omega), upS_s]
                  have t15 : (upS (upS (upS (upS (upS (upS (upS S 12 (S 18 0) pin) 13 (S 18 0) dayn) 14 (S 18 0) sin) 15 (S 18 0) ein) 16 (S 18 0) kin) 17 (S 18 0) 400) 18 0 (S 18 0 + 1)) 15 (S 18 0) = ein := by rw [upS_n _ _ (by omega), upS_n _ _ (by omega), upS_n _ _ (by omega), upS_s]
                  have t16 : (upS (upS (upS (upS (upS (upS (upS S 12 (S 18 0) pin) 13 (S 18 0) dayn) 14 (S 18 0) sin) 15 (S 18 0) ein) 16 (S 18 0) kin) 17 (S 18 0) 400) 18 0 (S 18 0 + 1)) 16 (S 18 0) = kin := by rw [upS_n _ _ (by omega), upS_n _ _ (by omega), upS_s]
                  have t17 : (upS (upS (upS (upS (upS (upS (upS S 12 (S 18 0) pin) 13 (S 18 0) dayn) 14 (S 18 0) sin) 15 (S 18 0) ein) 16 (S 18 0) kin) 17 (S 18 0) 400) 18 0 (S 18 0 + 1)) 17 (S 18 0) = 400 := by rw [upS_n _ _ (by omega), upS_s]
                  have q5 : a3.2 8 (S 18 0) = aI.2 8 (S 18 0) := hAd.2.2.2.2.2.2.1 8 (S 18 0) (by omega) (by omega) (by omega)
                  have q9 : aI.2 8 (S 18 0) = va_up (aN.2 8 (S 18 0)) 0 (ad.1 6 pin) := by rw [haI, ad2_s]
                  have hrec : (∀ f, f < 5 → d3.1 8 (S 18 0) (1 + f) = nI ((upS (upS (upS (upS (upS (upS (upS S 12 (S 18 0) pin) 13 (S 18 0) dayn) 14 (S 18 0) sin) 15 (S 18 0) ein) 16 (S 18 0) kin) 17 (S 18 0) 400) 18 0 (S 18 0 + 1)) (13 + f) (S 18 0))) ∧ d3.1 8 (S 18 0) 6 = 0 ∧ a3.2 8 (S 18 0) 0 = a3.1 6 ((upS (upS (upS (upS (upS (upS (upS S 12 (S 18 0) pin) 13 (S 18 0) dayn) 14 (S 18 0) sin) 15 (S 18 0) ein) 16 (S 18 0) kin) 17 (S 18 0) 400) 18 0 (S 18 0 + 1)) 12 (S 18 0)) := ⟨fun f hf => match f, hf with | 0, _ => by rw [r1, t13] | 1, _ => by rw [r2, t14] | 2, _ => by rw [r3, t15] | 3, _ => by rw [r4, t16] | 4, _ => by rw [r5, t17] | (f + 5), hf => absurd hf (by omega), r6, by rw [q5, q9, t12, hGw.2.1 6 pin (by omega) (by omega)]; rfl⟩
                  have hP : PX cA a3 (upS (upS (upS (upS (upS (upS (upS S 12 (S 18 0) pin) 13 (S 18 0) dayn) 14 (S 18 0) sin) 15 (S 18 0) ein) 16 (S 18 0) kin) 17 (S 18 0) 400) 18 0 (S 18 0 + 1)) sr d0 d3 := xg1 hM hR rfl (by omega) ((((((((hG.b.up 12 _ (mx := 7) rfl (by omega)).up 13 _ (mx := 399) rfl (by omega)).up 14 _ (mx := 200) rfl (by omega)).up 15 _ (mx := 50) rfl (by omega)).up 16 _ (mx := 399) rfl (by omega)).up 17 _ (mx := 400) rfl (by omega)).up 18 0 (mx := 40) rfl (by omega)).g ⟨hG.2.2.1, hG.2.2.2.1, fun k hk => up_lt (f := 12) (g := S 12) hpin (fun hk => hG.2.2.2.2.1 k hk) hk, hG.2.2.2.2.2⟩) hGw hGd hGS hrec
                  refine lv_pop hx hb dX9_look_103 rfl ?_
                  have hA3 := hP.1.1.1
                  have h00 : a3.1 0 0 = ad.1 0 0 := hGw.2.1 0 0 (by omega) (by omega)
                  refine lv_aload_n hx hb dX9_look_104 rfl (lv_at hl 2 rfl) ?_
                  refine W.eq (g2 := F0 m 105 ls [.ref (a3.1 0 0)]) (by rw [h00]) ?_
                  refine x_gr hx hb hu in_X9 hown hK hW (hA3.o (k := 0) rfl) (kX_0 _ _ _ _) rfl 3 (by decide) uF_X9_25 (hA3.f 3 (k := 4) (i := 1) (by decide) (hA3.li (by decide))) dX9_look_105 ?_
                  refine o_calli (o_runV (As := []) (rest := []) ⟨hx, hb, hml, hown, hu⟩ (c_Jx4a65c_size_8abf5 l D cA B0 a3 ((hGw.afr (by decide)).mal hal) (upS (upS (upS (upS (upS (upS (upS S 12 (S 18 0) pin) 13 (S 18 0) dayn) 14 (S 18 0) sin) 15 (S 18 0) ein) 16 (S 18 0) kin) 17 (S 18 0) 400) 18 0 (S 18 0 + 1)) d3 hP.1.1 1 (by decide)) (gV_X9_105 (fun _ h => h)) (n0 := 0) rfl (by decide +kernel) rfl ⟨Nat.le_of_ble_eq_true rfl, Nat.le_of_ble_eq_true rfl⟩ (o_recv hK hW (hA3.li (by decide)) (kX_4 _ _ _ _) rfl) hK hW hB hS hl.1 rfl (lv_room (Nat.le_of_ble_eq_true rfl)) ⟨Nat.le_of_ble_eq_true rfl, Nat.le_of_ble_eq_true rfl⟩ dX9_look_108) hS (fun r d4 hp H locs hW hS => ?_)
                  obtain ⟨rfl, rfl⟩ := hp
                  refine n_topi (y := nI (S 18 0 + 1)) rfl ?_
                  refine n_iconst (v := 1) hx hb dX9_look_111 (by decide) ?_
                  refine n_isub hx hb (by omega) dX9_look_112 ?_
                  refine n_top (b := S 18 0) (by omega) ?_
                  refine W.widen (k := 2) (n := 80) (by decide) (by decide) ?_
                  exact o_iretA hx hb hr hlocks hW hS ⟨by simp only [aLook, ix_nI hpin (by omega), nx_nI (j := pin) (by omega), ix_nI hdayn (by omega), nx_nI (j := dayn) (by omega), ix_nI hsin (by omega), nx_nI (j := sin) (by omega), ix_nI hein (by omega), nx_nI (j := ein) (by omega), nx_nI (j := kin) (by omega), hkn, hne, eq_self, ↓reduceIte, Bool.false_eq_true], by simp only [nLook, ix_nI hpin (by omega), nx_nI (j := pin) (by omega), ix_nI hdayn (by omega), nx_nI (j := dayn) (by omega), ix_nI hsin (by omega), nx_nI (j := sin) (by omega), ix_nI hein (by omega), nx_nI (j := ein) (by omega), nx_nI (j := kin) (by omega), hkn, hne, eq_self, ↓reduceIte, Bool.false_eq_true]; exact hP, hGw.afr (by decide)⟩ dX9_look_113
                · have hne : S 18 0 = 40 := by omega
                  refine lv_iconst (v := -1) hx hb dX9_look_79 (by decide) ?_
                  refine W.widen (k := 2) (n := 80) (by decide) (by decide) ?_
                  exact o_iretA hx hb hr hlocks hW hS (⟨by first | (simp only [aLook, ix_nI hpin (by omega), nx_nI (j := pin) (by omega), ix_nI hdayn (by omega), nx_nI (j := dayn) (by omega), ix_nI hsin (by omega), nx_nI (j := sin) (by omega), ix_nI hein (by omega), nx_nI (j := ein) (by omega), nx_nI (j := kin) (by omega), hkn, hne, eq_self, ↓reduceIte, Bool.false_eq_true]; done) | (simp only [aLook, ix_nI hpin (by omega), nx_nI (j := pin) (by omega), ix_nI hdayn (by omega), nx_nI (j := dayn) (by omega), ix_nI hsin (by omega), nx_nI (j := sin) (by omega), ix_nI hein (by omega), nx_nI (j := ein) (by omega), nx_nI (j := kin) (by omega), hkn, hne, eq_self, ↓reduceIte, Bool.false_eq_true]; rfl), by simp only [nLook, ix_nI hpin (by omega), nx_nI (j := pin) (by omega), ix_nI hdayn (by omega), nx_nI (j := dayn) (by omega), ix_nI hsin (by omega), nx_nI (j := sin) (by omega), ix_nI hein (by omega), nx_nI (j := ein) (by omega), nx_nI (j := kin) (by omega), hkn, hne, eq_self, ↓reduceIte, Bool.false_eq_true]; exact hI.pub hR, AFr.refl ad⟩) dX9_look_80
