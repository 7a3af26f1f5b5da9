set_option maxHeartbeats 400000 in
set_option maxRecDepth 100000 in
theorem c_X9_tree (l : Launch) (D : va_G) (cA : Nat → ClassId) (B0 : Nat) (ad : kA) (hal : mAl ad) (S : sS) (sr : Nat → Int32) (d0 : kD) (hM : InvX cA ad S d0) (hR : RowX S sr d0) (h31 : d0.2.1 31 0 0 = 0) (pi day wi : Int32) : oM l yX9_tree wX9_tree 8 2 80 D cA B0 ad d0 ([.ref (ad.1 0 0), .int pi, .int day, .int wi] : List Value) (oQiA D cA B0 (fun r u => r = aTree S pi day wi ∧ PX cA u.1 (nTree S pi day wi) sr d0 u.2 ∧ AFr ad u.1)) := by
  refine o_ofW (cc := cX9_tree) (maxL := 5) (ret := some .int) (by decide) rfl (Nat.le_of_ble_eq_true rfl) ?_
  intro p e s m below meth c hx hb hr hml hts hown hlocks hnm hK hW hB hS ls hl
  have hu : ∀ w ∈ UW, w.before _ s = true := fun w h => hts w (uw_c w h)
  have hl : lv_has ls 5 [(0, .ref (ad.1 0 0)), (1, .int pi), (2, .int day), (3, .int wi)] := hl
  have hX := hM.1
  have hA := hX.1
  have hG := hX.2.2
  have hb7 : S 7 0 ≤ 8 := hG.f 7 (mx := 8) (by decide)
  have hb11 : S 11 0 ≤ 20 := hG.f 11 (mx := 20) (by decide)
  have hb18 : S 18 0 ≤ 40 := hG.f 18 (mx := 40) (by decide)
  have hI : XX cA ad S d0 d0 := XX.start hM
  have hb1 : S 1 0 ≤ 4 := hG.f 1 (mx := 4) (by decide)
  have hb19 : S 19 0 ≤ 399 := hG.f 19 (mx := 399) (by decide)
  have hb22 : S 22 0 ≤ 64 := hG.f 22 (mx := 64) (by decide)
  have hb25 : S 25 0 ≤ 4 := hG.f 25 (mx := 4) (by decide)
  have hb30 : S 30 0 ≤ 10 := hG.f 30 (mx := 10) (by decide)
  have hb32 : S 32 0 ≤ 64 := hG.f 32 (mx := 64) (by decide)
  refine lv_aload_n hx hb dX9_tree_0 rfl (lv_at hl 0 rfl) ?_
  refine lv_iload_n hx hb dX9_tree_1 rfl (lv_at hl 1 rfl) ?_
  refine o_callq (o_runV (As := [.int pi]) (rest := []) ⟨hx, hb, hml, hown, hu⟩ (c_X9_pierOf l D cA B0 ad hal S d0 hI.1.1 pi) (gV_X9_126 (fun _ h => h)) (n0 := 1) rfl (by decide +kernel) rfl ⟨Nat.le_of_ble_eq_true rfl, Nat.le_of_ble_eq_true rfl⟩ (o_recv hK hW (hA.o (k := 0) rfl) (kX_0 _ _ _ _) rfl) hK hW hB hS hl.1 rfl (lv_room (Nat.le_of_ble_eq_true rfl)) ⟨Nat.zero_le _, Nat.zero_le _⟩ dX9_tree_2) hS (fun r_2 d_1 q_3 H locs hW hS => ?_)
  obtain ⟨rfl, rfl⟩ := q_3
  cases o_4 : ix pi (S 7 0) with
  | false =>
    refine W.eq (g2 := F0 m 5 ls [.null]) rfl ?_
    refine lv_astoreN (lv' := [(4, .null), (0, .ref (ad.1 0 0)), (1, .int pi), (2, .int day), (3, .int wi)]) hx hb dX9_tree_5 hl (by decide) rfl (fun ls hl => ?_)
    refine lv_aloadN hx hb dX9_tree_7 (lv_at hl 0 rfl) ?_
    refine lv_ifnullN (tgt := 38) hx hb dX9_tree_9 (by decide) ?_
    refine lv_iconst (v := -1) hx hb dX9_tree_38 (by decide) ?_
    refine W.widen (k := 2) (n := 80) (by decide) (by decide) ?_
    exact o_iretA hx hb hr hlocks hW hS (⟨by first | (simp only [aTree, o_4, eq_self, ↓reduceIte, Bool.false_eq_true]; done) | (simp only [aTree, o_4, eq_self, ↓reduceIte, Bool.false_eq_true]; rfl), by simp only [nTree, o_4, eq_self, ↓reduceIte, Bool.false_eq_true]; exact hI.pub hR, AFr.refl ad⟩) dX9_tree_39
  | true =>
    obtain ⟨pin, hpin, rfl⟩ := ix_t o_4 (by omega)
    refine W.eq (g2 := F0 m 5 ls [.ref (ad.1 6 pin)]) (by rw [if_pos rfl, nx_nI (by omega)]; rfl) ?_
    refine lv_astore (lv' := [(4, .ref (ad.1 6 pin)), (0, .ref (ad.1 0 0)), (1, .int (nI pin)), (2, .int day), (3, .int wi)]) hx hb dX9_tree_5 hl (by decide) rfl (fun ls hl => ?_)
    refine lv_aload hx hb dX9_tree_7 (lv_at hl 0 rfl) ?_
    refine lv_ifnull hx hb dX9_tree_9 ?_
    refine lv_iload_n hx hb dX9_tree_12 rfl (lv_at hl 3 rfl) ?_
    refine o_calli (o_runS (As := [.int day]) (rest := []) ⟨hx, hb, hml, hown, hu⟩ (c_X9_isDay l D cA B0 ad hal d0 day) (gS_X9_81 (fun _ h => h)) (n0 := 1) rfl (by decide +kernel) rfl ⟨Nat.le_of_ble_eq_true rfl, Nat.le_of_ble_eq_true rfl⟩ hK hW hB hS hl.1 rfl (lv_room (Nat.le_of_ble_eq_true rfl)) ⟨Nat.zero_le _, Nat.zero_le _⟩ dX9_tree_13) hS (fun r_6 d_5 q_7 H locs hW hS => ?_)
    obtain ⟨rfl, rfl⟩ := q_7
    refine lv_if_eq (tgt := 38) hx hb dX9_tree_16 (by decide) (fun c_8 => ?_) (fun c_8 => ?_)
    · refine lv_iconst (v := -1) hx hb dX9_tree_38 (by decide) ?_
      refine W.widen (k := 2) (n := 80) (by decide) (by decide) ?_
      exact o_iretA hx hb hr hlocks hW hS (⟨by first | (simp only [aTree, ix_nI hpin (by omega), nx_nI (j := pin) (by omega), bI_z c_8, eq_self, ↓reduceIte, Bool.false_eq_true]; done) | (simp only [aTree, ix_nI hpin (by omega), nx_nI (j := pin) (by omega), bI_z c_8, eq_self, ↓reduceIte, Bool.false_eq_true]; rfl), by simp only [nTree, ix_nI hpin (by omega), nx_nI (j := pin) (by omega), bI_z c_8, eq_self, ↓reduceIte, Bool.false_eq_true]; exact hI.pub hR, AFr.refl ad⟩) dX9_tree_39
    · obtain ⟨dayn, hdayn, rfl⟩ := ix_t (bI_n c_8) (by omega)
      refine lv_iload_n hx hb dX9_tree_19 rfl (lv_at hl 4 rfl) ?_
      refine n_iconst (v := 1) hx hb dX9_tree_20 (by decide) ?_
      refine n_bipush (v := 20) hx hb dX9_tree_21 (by decide) ?_
      refine o_calli (o_runS (As := [.int wi, .int (nI 1), .int (nI 20)]) (rest := []) ⟨hx, hb, hml, hown, hu⟩ (c_X9_within l D cA B0 ad hal d0 wi (nI 1) (nI 20)) (gS_X9_85 (fun _ h => h)) (n0 := 3) rfl (by decide +kernel) rfl ⟨Nat.le_of_ble_eq_true rfl, Nat.le_of_ble_eq_true rfl⟩ hK hW hB hS hl.1 rfl (lv_room (Nat.le_of_ble_eq_true rfl)) ⟨Nat.zero_le _, Nat.zero_le _⟩ dX9_tree_23) hS (fun r_10 d_9 q_11 H locs hW hS => ?_)
      obtain ⟨rfl, rfl⟩ := q_11
      refine n_topi (y := bI (rx wi 1 20)) (in_rx (by omega) (by omega)) ?_
      refine lv_if_eq (tgt := 38) hx hb dX9_tree_26 (by decide) (fun c_12 => ?_) (fun c_12 => ?_)
      · refine lv_iconst (v := -1) hx hb dX9_tree_38 (by decide) ?_
        refine W.widen (k := 2) (n := 80) (by decide) (by decide) ?_
        exact o_iretA hx hb hr hlocks hW hS (⟨by first | (simp only [aTree, ix_nI hpin (by omega), nx_nI (j := pin) (by omega), ix_nI hdayn (by omega), nx_nI (j := dayn) (by omega), bI_z c_12, eq_self, ↓reduceIte, Bool.false_eq_true]; done) | (simp only [aTree, ix_nI hpin (by omega), nx_nI (j := pin) (by omega), ix_nI hdayn (by omega), nx_nI (j := dayn) (by omega), bI_z c_12, eq_self, ↓reduceIte, Bool.false_eq_true]; rfl), by simp only [nTree, ix_nI hpin (by omega), nx_nI (j := pin) (by omega), ix_nI hdayn (by omega), nx_nI (j := dayn) (by omega), bI_z c_12, eq_self, ↓reduceIte, Bool.false_eq_true]; exact hI.pub hR, AFr.refl ad⟩) dX9_tree_39
      · obtain ⟨win, hwina, hwin, rfl⟩ := rx_t (bI_n c_12) (by omega)
        refine lv_aload_n hx hb dX9_tree_29 rfl (lv_at hl 1 rfl) ?_
        refine x_gi hx hb hu in_X9 hown hK hW (hA.o (k := 0) rfl) (kX_0 _ _ _ _) rfl 14 (by decide) uF_X9_75 dX9_tree_30 ?_
        refine n_topi (y := nI (S 11 0)) (hI.1.1.2.1.trees h31) ?_
        have b_13 : S 11 0 ≤ 20 := hG.f 11 (mx := 20) (by decide)
        refine n_bipush (v := 20) hx hb dX9_tree_33 (by decide) ?_
        refine n_icmp_lt (tgt := 40) hx hb (by omega) (by omega) dX9_tree_35 (by decide) (fun c_f => ?_) (fun c_f => ?_)
        · have hne : ¬ S 11 0 = 20 := by omega
          refine lv_aload hx hb dX9_tree_40 (lv_at hl 0 rfl) ?_
          have hdn : ad.1 7 (S 11 0) = 0 := hA.2.2.2.2.2.2.2.2.2.2.2.2.1 (S 11 0) (Nat.le_refl _)
          refine x_new hx hb hu in_X7 tyX7 tyX7_ok hown uL_X9_130 uO_X7 uI_X7 hK hW hS hB (k := 7) (i := (S 11 0)) (by decide) hdn (fun _ _ _ => rfl) rfl (fun j hj => match j, hj with | 0, _ => rfl | 1, _ => rfl | 2, _ => rfl | (j + 3), hj => absurd hj (by omega)) ⟨Nat.le_of_ble_eq_true rfl, Nat.le_of_ble_eq_true rfl⟩ dX9_tree_42 (fun q H hq hW hS => ?_)
          generalize haN : ad1 (zA ad 7 (S 11 0)) 7 (S 11 0) q = aN at hW
          generalize hdN : zD d0 7 (S 11 0) = dN at hW
          have n1 : ∀ k i, ¬ (k = 7 ∧ i = (S 11 0)) → aN.1 k i = ad.1 k i := fun k i h => by rw [← haN]; exact ad1_n _ _ h
          have nq : aN.1 7 (S 11 0) = q := by rw [← haN]; exact ad1_s _ _ _ _
          have n2 : ∀ k i, ¬ (k = 7 ∧ i = (S 11 0)) → aN.2 k i = ad.2 k i := fun k i h => by rw [← haN]; exact zA_n ad h
          have n3 : ∀ k i, ¬ (k = 7 ∧ i = (S 11 0)) → dN.1 k i = d0.1 k i := fun k i h => by rw [← hdN]; exact zD_n1 d0 h
          have n4 : ∀ k i, ¬ (k = 7 ∧ i = (S 11 0)) → dN.2.1 k i = d0.2.1 k i := fun k i h => by rw [← hdN]; exact zD_n2 d0 h
          have n5 : dN.2.2 = d0.2.2 := by rw [← hdN]; rfl
          refine lv_dup hx hb dX9_tree_45 rfl ?_
          refine lv_iload_n hx hb dX9_tree_46 rfl (lv_at hl 3 rfl) ?_
          refine lv_iload_n hx hb dX9_tree_47 rfl (lv_at hl 4 rfl) ?_
          refine lv_aload hx hb dX9_tree_48 (lv_at hl 0 rfl) ?_
          refine W.eq (g2 := F0 m 50 ls [.ref (aN.1 6 pin), .int (nI win), .int (nI dayn), .ref (aN.1 7 (S 11 0)), .ref (aN.1 7 (S 11 0)), .ref (ad.1 6 pin)]) (by rw [nq, n1 6 pin (by omega)]) ?_
          refine x_gq hx hb hu in_X5 hown hK hW (by rw [n1 6 pin (by omega)]; exact hA.pier hpin) (kX_6 _ _ _ _) rfl 9 (by decide) uF_X9_132 dX9_tree_50 ?_
          refine n_topq (b := ad.2 6 pin 9) (by rw [n2 6 pin (by omega)]) ?_
          refine o_callvA (x_runI (As := [.int (nI dayn), .int (nI win), va_rf (rf (ad.2 6 pin 9))]) (rest := [.ref (aN.1 7 (S 11 0)), .ref (ad.1 6 pin)]) ⟨hx, hb, hml, hown, hu⟩ (c_X7_initQ l D cA B0 aN dN (S 11 0) (by rw [nq]; exact hq) (nI dayn) (nI win) (ad.2 6 pin 9)) uC_X7_init uN_X7_init uI_X7 uM_X9_135 (n0 := 3) (by decide +kernel) rfl ⟨Nat.le_of_ble_eq_true rfl, Nat.le_of_ble_eq_true rfl⟩ hK hW hB hS hl.1 rfl (lv_room (Nat.le_of_ble_eq_true rfl)) ⟨Nat.le_of_ble_eq_true rfl, Nat.le_of_ble_eq_true rfl⟩ dX9_tree_53) hS (fun u hp H locs hW hS => ?_)
          obtain ⟨aI, dI⟩ := u
          obtain ⟨haI, hdI⟩ := Prod.mk.inj hp
          have i1 : aI.1 = aN.1 := by rw [haI]; rfl
          have i6 : aI.1 6 pin = ad.1 6 pin := by rw [i1]; exact n1 6 pin (by omega)
          refine W.eq (g2 := F0 m 56 ls [.ref (aI.1 7 (S 11 0)), .ref (aI.1 6 pin)]) (by rw [i6, i1]) ?_
          have hqI : aI.1 7 (S 11 0) ≠ 0 := by rw [i1, nq]; exact hq
          refine x_putF hx hb hu in_X5 tyX5 tyX5_ok nmX5 hown hK hW hS (ad' := ad2 aI 6 pin 9 (aI.1 7 (S 11 0))) (d' := dI) rfl (k := 6) (i := pin) (by rw [i6]; exact hA.pier hpin) rfl 9 (kX_6 _ _ _ _) (by rw [kX_6, ad2_s, xO_setR (by decide), rf_ne hqI]) (fun k1 i1 h1 => kC_adX (by decide) k1 i1 h1) (by decide) uF_X9_132 (Or.inl (by decide +kernel)) (ty := .object "RiverFeet$Tree") (by decide +kernel) rfl rfl (by rw [xO_len]; decide) dX9_tree_56 (fun H locs hW hS => ?_)
          generalize haP : ad2 aI 6 pin 9 (aI.1 7 (S 11 0)) = aP at hW
          have p1 : aP.1 = aI.1 := by rw [← haP]; rfl
          have hTP : TrP ad (S 11 0) pin aP := ⟨fun k i h => by rw [p1, i1]; exact n1 k i h, by rw [p1]; exact hqI, fun k i f h1 h2 => ?_, by rw [p1, ← haP, ad2_s]; simp [va_up], by rw [← haP, ad2_n _ _ (by omega), haI, ad2_s]; simp [va_up]⟩
          rotate_left
          · rw [← haP]
            by_cases hk : k = 6 ∧ i = pin
            · obtain ⟨rfl, rfl⟩ := hk
              rw [ad2_s]; simp only [va_up]; rw [if_neg (by omega), haI, ad2_n _ _ (by omega), n2 6 i (by omega)]
            · rw [ad2_n _ _ hk, haI, ad2_n _ _ h1, n2 k i h1]
          have hTD : TrD d0 (S 11 0) dayn win (uJ dI 31 0 0 1) := ⟨fun k i f h => by rw [uJ_1, hdI, uI_n _ _ (by omega), uI_n _ _ (by omega), n3 k i h], fun k i f h h2 => by rw [uJ_n _ _ h2, hdI, uI_2, uI_2, n4 k i h], by rw [hdI]; exact n5, by rw [uJ_1, hdI, uI_n _ _ (by omega)]; exact uI_s _ _ _ _ _, by rw [uJ_1, hdI]; exact uI_s _ _ _ _ _⟩
          have hTS : TrS S (S 11 0) pin dayn win (upS (upS (upS (upS S 8 (S 11 0) pin) 9 (S 11 0) dayn) 10 (S 11 0) win) 11 0 (S 11 0 + 1)) := ⟨fun f i h1 h2 => by rw [upS_n _ _ (by omega), upS_n _ _ (by omega), upS_n _ _ (by omega), upS_n _ _ (by omega)], upS_s _ _ _ _, by rw [upS_n _ _ (by omega), upS_n _ _ (by omega), upS_n _ _ (by omega), upS_s], by rw [upS_n _ _ (by omega), upS_n _ _ (by omega), upS_s], by rw [upS_n _ _ (by omega), upS_s]⟩
          have hXB : XB cA aP (upS (upS (upS (upS S 8 (S 11 0) pin) 9 (S 11 0) dayn) 10 (S 11 0) win) 11 0 (S 11 0 + 1)) (uJ dI 31 0 0 1) := ⟨xt_al hA hG rfl hpin hTP hTS, xt_d hM.1.2.1 rfl hTD hTS rfl, ((((hG.b.up 8 _ (mx := 7) rfl (by omega)).up 9 _ (mx := 399) rfl (by omega)).up 10 _ (mx := 20) rfl (by omega)).up 11 0 (mx := 20) rfl (by omega)).g ⟨hG.2.2.1, fun k hk => up_lt (f := 8) (g := S 8) hpin (fun hk => hG.2.2.2.1 k hk) hk, hG.2.2.2.2⟩⟩
          have hW := hW.ghost 1
          have h00 : aP.1 0 0 = ad.1 0 0 := hTP.1 0 0 (by omega)
          refine lv_aload_n hx hb dX9_tree_59 rfl (lv_at hl 1 rfl) ?_
          refine lv_iload_n hx hb dX9_tree_60 rfl (lv_at hl 3 rfl) ?_
          refine W.eq (g2 := F0 m 61 ls [.int (nI dayn), .ref (aP.1 0 0)]) (by rw [h00]) ?_
          have hA3 := hXB.1
          refine o_callv (o_runV (As := [.int (nI dayn)]) (rest := []) ⟨hx, hb, hml, hown, hu⟩ (c_X9_forgetFrom l D cA B0 aP (hTP.afr.mal hal) (upS (upS (upS (upS S 8 (S 11 0) pin) 9 (S 11 0) dayn) 10 (S 11 0) win) 11 0 (S 11 0 + 1)) (uJ dI 31 0 0 1) hXB dayn (by omega) (xt_pf hM rfl hTD hTS) (xt_lf hM rfl hTD hTS) (xt_z hM hTD hTS)) (gV_X9_101 (fun _ h => h)) (n0 := 1) rfl (by decide +kernel) rfl ⟨Nat.le_of_ble_eq_true rfl, Nat.le_of_ble_eq_true rfl⟩ (o_recv hK hW (hA3.o (k := 0) rfl) (kX_0 _ _ _ _) rfl) hK hW hB hS hl.1 rfl (lv_room (Nat.le_of_ble_eq_true rfl)) ⟨Nat.le_of_ble_eq_true rfl, Nat.le_of_ble_eq_true rfl⟩ dX9_tree_61) hS (fun d6 hp H locs hW hS => ?_)
          obtain ⟨hM2, hFr2⟩ := hp
          have ht : d6.1 0 0 14 = nI (S 11 0) := by rw [hFr2.1 0 0 14 rfl, hTD.1 0 0 14 (by omega)]; exact hM.1.2.1.trees h31
          refine lv_aload_n hx hb dX9_tree_64 rfl (lv_at hl 1 rfl) ?_
          refine W.eq (g2 := F0 m 65 ls [.ref (aP.1 0 0)]) (by rw [h00]) ?_
          refine lv_dup hx hb dX9_tree_65 rfl ?_
          refine x_gi hx hb hu in_X9 hown hK hW (hA3.o (k := 0) rfl) (kX_0 _ _ _ _) rfl 14 (by decide) uF_X9_75 dX9_tree_66 ?_
          refine n_topi (y := nI (S 11 0)) ht ?_
          refine n_iconst (v := 1) hx hb dX9_tree_69 (by decide) ?_
          refine n_iadd hx hb dX9_tree_70 ?_
          refine x_pi hx hb hu in_X9 tyX9 tyX9_ok nmX9 hown hK hW hS (hA3.o (k := 0) rfl) (kI_0 _ _ _ _) rfl 14 (ty := .int) (by decide +kernel) uF_X9_75 ⟨rfl, rfl⟩ dX9_tree_71 (fun H locs hW hS => ?_)
          refine lv_aload_n hx hb dX9_tree_74 rfl (lv_at hl 1 rfl) ?_
          refine W.eq (g2 := F0 m 75 ls [.ref (aP.1 0 0)]) (by rw [h00]) ?_
          refine x_gi hx hb hu in_X9 hown hK hW (hA3.o (k := 0) rfl) (kX_0 _ _ _ _) rfl 14 (by decide) uF_X9_75 dX9_tree_75 ?_
          refine n_topi (y := nI (S 11 0 + 1)) (uI_s _ _ _ _ _) ?_
          refine W.widen (k := 2) (n := 80) (by decide) (by decide) ?_
          exact o_iretA hx hb hr hlocks (hW.ghost 0) hS ⟨by simp only [aTree, ix_nI hpin (by omega), nx_nI (j := pin) (by omega), ix_nI hdayn (by omega), nx_nI (j := dayn) (by omega), rx_nI hwina hwin (by omega), nx_nI (j := win) (by omega), hne, eq_self, ↓reduceIte, Bool.false_eq_true], by simp only [nTree, ix_nI hpin (by omega), nx_nI (j := pin) (by omega), ix_nI hdayn (by omega), nx_nI (j := dayn) (by omega), rx_nI hwina hwin (by omega), nx_nI (j := win) (by omega), hne, eq_self, ↓reduceIte, Bool.false_eq_true]; exact xt_px hR h31 hTD hTS hM2 hFr2, hTP.afr⟩ dX9_tree_78
        · have hne : S 11 0 = 20 := by omega
          refine lv_iconst (v := -1) hx hb dX9_tree_38 (by decide) ?_
          refine W.widen (k := 2) (n := 80) (by decide) (by decide) ?_
          exact o_iretA hx hb hr hlocks hW hS (⟨by first | (simp only [aTree, ix_nI hpin (by omega), nx_nI (j := pin) (by omega), ix_nI hdayn (by omega), nx_nI (j := dayn) (by omega), rx_nI hwina hwin (by omega), nx_nI (j := win) (by omega), hne, eq_self, ↓reduceIte, Bool.false_eq_true]; done) | (simp only [aTree, ix_nI hpin (by omega), nx_nI (j := pin) (by omega), ix_nI hdayn (by omega), nx_nI (j := dayn) (by omega), rx_nI hwina hwin (by omega), nx_nI (j := win) (by omega), hne, eq_self, ↓reduceIte, Bool.false_eq_true]; rfl), by simp only [nTree, ix_nI hpin (by omega), nx_nI (j := pin) (by omega), ix_nI hdayn (by omega), nx_nI (j := dayn) (by omega), rx_nI hwina hwin (by omega), nx_nI (j := win) (by omega), hne, eq_self, ↓reduceIte, Bool.false_eq_true]; exact hI.pub hR, AFr.refl ad⟩) dX9_tree_39
