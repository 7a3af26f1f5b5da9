set_option maxHeartbeats 400000 in
set_option maxRecDepth 100000 in
theorem c_X10_best (l : Launch) (D : va_G) (cA : Nat → ClassId) (B0 : Nat) (ad : kA) (hal : mAl ad) (S : sS) (sr : Nat → Int32) (d0 : kD) (hM : InvM S d0) (hR : RowM S sr d0) (bi fr to wi : Int32) : oM l yX10_best wX10_best 11 0 0 D cA B0 ad d0 ([.ref (ad.1 40 0), .int bi, .int fr, .int to, .int wi] : List Value) (oQi D cA B0 ad (fun r d1 => r = aBest S bi fr to wi ∧ PI (nBest S bi fr to wi) (rBest S sr bi fr to wi) d0 d1)) := by
  refine o_ofW (cc := cX10_best) (maxL := 9) (ret := some .int) (by decide) rfl (Nat.le_of_ble_eq_true rfl) ?_
  intro p e s m below meth c hx hb hr hml hts hown hlocks hnm hK hW hB hS ls hl
  have hu : ∀ w ∈ UW, w.before _ s = true := fun w h => hts w (uw_c w h)
  have hl : lv_has ls 9 [(0, .ref (ad.1 40 0)), (1, .int bi), (2, .int fr), (3, .int to), (4, .int wi)] := hl
  refine lv_aload_n hx hb dX10_best_0 rfl (lv_at hl 0 rfl) ?_
  refine n_iconst (v := 0) hx hb dX10_best_1 (by decide) ?_
  refine mo_pi hx hb hu hown hK hal hW hS 33 (by decide +kernel) uF_X10_113 dX10_best_2 (fun H locs hW hS => ?_)
  have hI : MI S (uI d0 40 0 33 (nI 0)) (uI d0 40 0 33 (nI 0)) := MI.start (hM.thr 33 _ rfl)
  have hG : sG S := hM.2.1
  have hb1 : S 1 0 ≤ 4 := hG.f 1 (mx := 4) (by decide)
  have hb7 : S 7 0 ≤ 8 := hG.f 7 (mx := 8) (by decide)
  have hb11 : S 11 0 ≤ 20 := hG.f 11 (mx := 20) (by decide)
  have hb18 : S 18 0 ≤ 40 := hG.f 18 (mx := 40) (by decide)
  have hb19 : S 19 0 ≤ 399 := hG.f 19 (mx := 399) (by decide)
  have hb22 : S 22 0 ≤ 64 := hG.f 22 (mx := 64) (by decide)
  have hb25 : S 25 0 ≤ 4 := hG.f 25 (mx := 4) (by decide)
  have hb30 : S 30 0 ≤ 10 := hG.f 30 (mx := 10) (by decide)
  have hb32 : S 32 0 ≤ 64 := hG.f 32 (mx := 64) (by decide)
  refine lv_aload_n hx hb dX10_best_5 rfl (lv_at hl 0 rfl) ?_
  refine lv_iload_n hx hb dX10_best_6 rfl (lv_at hl 1 rfl) ?_
  refine o_calli (o_runV (As := [.int bi]) (rest := []) ⟨hx, hb, hml, hown, hu⟩ (c_X10_isBridge l D cA B0 ad hal S (uI d0 40 0 33 (nI 0)) hI.dS hG bi ) (gV_X10_278 (fun _ h => h)) (n0 := 1) rfl (by decide +kernel) rfl ⟨Nat.le_of_ble_eq_true rfl, Nat.le_of_ble_eq_true rfl⟩ (o_recv hK hW hal.1 (kC_M _ _ _) rfl) hK hW hB hS hl.1 rfl (lv_room (Nat.le_of_ble_eq_true rfl)) ⟨Nat.zero_le _, Nat.zero_le _⟩ dX10_best_7) hS (fun r_2 d_1 q_3 H locs hW hS => ?_)
  obtain ⟨rfl, rfl⟩ := q_3
  refine lv_if_eq (tgt := 34) hx hb dX10_best_10 (by decide) (fun c_4 => ?_) (fun c_4 => ?_)
  · refine lv_iconst (v := -1) hx hb dX10_best_34 (by decide) ?_
    exact o_iret hx hb hr hlocks hW hS (⟨by simp only [aBest, bI_z c_4, eq_self, ↓reduceIte, Bool.false_eq_true], by simp only [nBest, rBest, bI_z c_4, eq_self, ↓reduceIte, Bool.false_eq_true]; exact hI.pub hR⟩) dX10_best_35
  · obtain ⟨bin, hbin, rfl⟩ := ix_t (bI_n c_4) (by omega)
    refine lv_aload_n hx hb dX10_best_13 rfl (lv_at hl 0 rfl) ?_
    refine lv_iload_n hx hb dX10_best_14 rfl (lv_at hl 2 rfl) ?_
    refine lv_iload_n hx hb dX10_best_15 rfl (lv_at hl 3 rfl) ?_
    refine o_calli (o_runV (As := [.int fr, .int to]) (rest := []) ⟨hx, hb, hml, hown, hu⟩ (c_X10_isSpan l D cA B0 ad hal S (uI d0 40 0 33 (nI 0)) hI.dS hG fr to ) (gV_X10_296 (fun _ h => h)) (n0 := 2) rfl (by decide +kernel) rfl ⟨Nat.le_of_ble_eq_true rfl, Nat.le_of_ble_eq_true rfl⟩ (o_recv hK hW hal.1 (kC_M _ _ _) rfl) hK hW hB hS hl.1 rfl (lv_room (Nat.le_of_ble_eq_true rfl)) ⟨Nat.zero_le _, Nat.zero_le _⟩ dX10_best_16) hS (fun r_6 d_5 q_7 H locs hW hS => ?_)
    obtain ⟨rfl, rfl⟩ := q_7
    refine lv_if_eq (tgt := 34) hx hb dX10_best_19 (by decide) (fun c_p => ?_) (fun c_p => ?_)
    · refine lv_iconst (v := -1) hx hb dX10_best_34 (by decide) ?_
      exact o_iret hx hb hr hlocks hW hS (⟨by simp only [aBest, ix_nI hbin (by omega), nx_nI (j := bin) (by omega), bI_z c_p, eq_self, ↓reduceIte, Bool.false_eq_true], by simp only [nBest, rBest, ix_nI hbin (by omega), nx_nI (j := bin) (by omega), bI_z c_p, eq_self, ↓reduceIte, Bool.false_eq_true]; exact hI.pub hR⟩) dX10_best_35
    · have hspn := bI_n c_p
      obtain ⟨frn, ton, hfr, hft, hto, hsp6, rfl, rfl⟩ := spn_t hspn
      refine lv_iload hx hb dX10_best_22 (lv_at hl 4 rfl) ?_
      refine n_iconst (v := 0) hx hb dX10_best_24 (by decide) ?_
      refine n_sipush (v := 9999) hx hb dX10_best_25 (by decide) ?_
      refine o_calli (o_runS (As := [.int wi, .int (nI 0), .int (nI 9999)]) (rest := []) ⟨hx, hb, hml, hown, hu⟩ (c_X10_in l D cA B0 ad hal (uI d0 40 0 33 (nI 0)) wi (nI 0) (nI 9999)) (gS_X10_119 (fun _ h => h)) (n0 := 3) rfl (by decide +kernel) rfl ⟨Nat.le_of_ble_eq_true rfl, Nat.le_of_ble_eq_true rfl⟩ hK hW hB hS hl.1 rfl (lv_room (Nat.le_of_ble_eq_true rfl)) ⟨Nat.zero_le _, Nat.zero_le _⟩ dX10_best_28) hS (fun r_9 d_8 q_10 H locs hW hS => ?_)
      obtain ⟨rfl, rfl⟩ := q_10
      refine n_topi (y := bI (ix wi 10000)) (in_ixc 10000 rfl (by decide)) ?_
      refine lv_if_ne (tgt := 36) hx hb dX10_best_31 (by decide) (fun c_11 => ?_) (fun c_11 => ?_)
      · obtain ⟨win, hwin, rfl⟩ := ix_t (bI_n c_11) (by omega)
        have hP := hI.pub hR
        refine lv_iconst (v := -1) hx hb dX10_best_36 (by decide) ?_
        refine lv_istore (lv' := [(5, .int (-1)), (0, .ref (ad.1 40 0)), (1, .int (nI bin)), (2, .int (nI frn)), (3, .int (nI ton)), (4, .int (nI win))]) hx hb dX10_best_37 hl (by decide) rfl (fun ls hl => ?_)
        refine n_iconst (v := 0) hx hb dX10_best_39 (by decide) ?_
        refine lv_istore (lv' := [(6, .int (nI 0)), (5, .int (-1)), (0, .ref (ad.1 40 0)), (1, .int (nI bin)), (2, .int (nI frn)), (3, .int (nI ton)), (4, .int (nI win))]) hx hb dX10_best_40 hl (by decide) rfl (fun ls hl => ?_)
        refine n_sipush (v := 1000) hx hb dX10_best_42 (by decide) ?_
        refine lv_istore (lv' := [(7, .int (nI 1000)), (6, .int (nI 0)), (5, .int (-1)), (0, .ref (ad.1 40 0)), (1, .int (nI bin)), (2, .int (nI frn)), (3, .int (nI ton)), (4, .int (nI win))]) hx hb dX10_best_45 hl (by decide) rfl (fun ls hl => ?_)
        have lp47 : ∀ (n : Nat) (be : Int32) (le : Nat) (pv : Int32) (j : Nat) (d : kD) (H : Heap) (locs : List Loc) (ls : Array Slot), 11 - j < n → ((j ≤ 10 ∧ pv = nI (1000 - 100 * j)) ∨ (j = 11 ∧ pv = -100)) → (PI S sr d0 d) → (be = (btL S bin frn ton win j).1) → (le = (btL S bin frn ton win j).2) → oW D cA B0 ad d H → va_S (oA B0) s.heap H locs → lv_has ls 9 [(0, .ref (ad.1 40 0)), (1, .int (nI bin)), (2, .int (nI frn)), (3, .int (nI ton)), (4, .int (nI win)), (5, .int be), (6, .int (nI le)), (7, .int pv)] → W p l e (oR 11 0 0) s m ([.ref (ad.1 40 0), .int (nI bin), .int (nI frn), .int (nI ton), .int (nI win)] : List Value).toArray below meth c H locs 0 0 (MQ below (oQi D cA B0 ad (fun r d1 => r = aBest S (nI bin) (nI frn) (nI ton) (nI win) ∧ PI (nBest S (nI bin) (nI frn) (nI ton) (nI win)) (rBest S sr (nI bin) (nI frn) (nI ton) (nI win)) d0 d1)) ([.ref (ad.1 40 0), .int (nI bin), .int (nI frn), .int (nI ton), .int (nI win)] : List Value).toArray s 0 0 (oA B0)) (F0 m 47 ls []) := by
          intro n
          induction n with
          | zero => intro be le pv j d H locs ls hmu; exact absurd hmu (Nat.not_lt_zero _)
          | succ n ih_lp47 =>
            intro be le pv j d H locs ls hmu hpv hP hbe hle hW hS hl
            have hbl := btL_le hG (b := bin) (a := frn) (z := ton) (w := win) (by omega) (by omega) (by omega) j
            refine lv_iload hx hb dX10_best_47 (lv_at hl 7 rfl) ?_
            refine lv_if_lt (tgt := 112) hx hb dX10_best_49 (by decide) (fun c_0 => ?_) (fun c_0 => ?_)
            · have hj11 := btje hpv c_0
              refine lv_aload_n hx hb dX10_best_112 rfl (lv_at hl 0 rfl) ?_
              refine n_iconst (v := 0) hx hb dX10_best_113 (by decide) ?_
              refine mo_pi hx hb hu hown hK hal hW hS 32 (by decide +kernel) uF_X10_123 dX10_best_114 (fun H locs hW hS => ?_)
              have hP := hP.row0 (fun _ => 0)
              refine lv_aload_n hx hb dX10_best_117 rfl (lv_at hl 0 rfl) ?_
              refine lv_iload hx hb dX10_best_118 (lv_at hl 6 rfl) ?_
              refine o_callv (o_runV (As := [.int (nI le)]) (rest := []) ⟨hx, hb, hml, hown, hu⟩ (c_X10_tell l D cA B0 ad hal (upS S 32 0 0) (uI d 40 0 32 (nI 0)) hP.1.1 hP.1.2.1 (nI le) (show 0 < 64 from by omega)) (gV_X10_211 (fun _ h => h)) (n0 := 1) rfl (by decide +kernel) rfl ⟨Nat.le_of_ble_eq_true rfl, Nat.le_of_ble_eq_true rfl⟩ (o_recv hK hW hal.1 (kC_M _ _ _) rfl) hK hW hB hS hl.1 rfl (lv_room (Nat.le_of_ble_eq_true rfl)) ⟨Nat.zero_le _, Nat.zero_le _⟩ dX10_best_120) hS (fun d_12 q_14 H locs hW hS => ?_)
              subst q_14
              have hP := hP.tell (show 0 < 64 from by omega) (nI le)
              refine lv_iload hx hb dX10_best_123 (lv_at hl 5 rfl) ?_
              exact o_iret hx hb hr hlocks hW hS (⟨by simp only [aBest, ix_nI hbin (by omega), nx_nI (j := bin) (by omega), hspn, nx_nI (j := frn) (by omega), nx_nI (j := ton) (by omega), ix_nI hwin (by omega), nx_nI (j := win) (by omega), eq_self, ↓reduceIte, Bool.false_eq_true]; rw [hbe, hj11], by simp only [nBest, rBest, ix_nI hbin (by omega), nx_nI (j := bin) (by omega), hspn, nx_nI (j := frn) (by omega), nx_nI (j := ton) (by omega), ix_nI hwin (by omega), nx_nI (j := win) (by omega), eq_self, ↓reduceIte, Bool.false_eq_true]; rw [show (btL S bin frn ton win 11).2 = le by rw [hle, hj11]]; exact hP⟩) dX10_best_125
            · obtain ⟨hj10, rfl⟩ := btj hpv c_0
              refine lv_aload_n hx hb dX10_best_52 rfl (lv_at hl 0 rfl) ?_
              refine lv_iload_n hx hb dX10_best_53 rfl (lv_at hl 1 rfl) ?_
              refine lv_iload_n hx hb dX10_best_54 rfl (lv_at hl 2 rfl) ?_
              refine lv_iload_n hx hb dX10_best_55 rfl (lv_at hl 3 rfl) ?_
              refine lv_iload hx hb dX10_best_56 (lv_at hl 7 rfl) ?_
              refine o_callv (o_runV (As := [.int (nI bin), .int (nI frn), .int (nI ton), .int (nI (1000 - 100 * j))]) (rest := []) ⟨hx, hb, hml, hown, hu⟩ (c_X10_goDays l D cA B0 ad hal S d hP.1 bin frn ton (1000 - 100 * j) (by omega) (by omega) (by omega) (by omega)) (gV_X10_299 (fun _ h => h)) (n0 := 4) rfl (by decide +kernel) rfl ⟨Nat.le_of_ble_eq_true rfl, Nat.le_of_ble_eq_true rfl⟩ (o_recv hK hW hal.1 (kC_M _ _ _) rfl) hK hW hB hS hl.1 rfl (lv_room (Nat.le_of_ble_eq_true rfl)) ⟨Nat.zero_le _, Nat.zero_le _⟩ dX10_best_58) hS (fun d_15 q_17 H locs hW hS => ?_)
              have hGD := q_17
              have hP := hGD.pi2 hP
              refine lv_aload_n hx hb dX10_best_61 rfl (lv_at hl 0 rfl) ?_
              refine mo_ga hx hb hu hown hK hal hW 24 (by decide) uF_X10_68 dX10_best_62 ?_
              refine lv_iload_n hx hb dX10_best_65 rfl (lv_at hl 1 rfl) ?_
              refine mo_ld hx hb hK hal hW hP.1.1 24 (n := 4) (by decide) (by omega) dX10_best_66 ?_
              have b_18 : S 24 bin ≤ 999 := hG.a 24 bin (n := 4) (mx := 999) (by decide) (by omega)
              refine lv_aload_n hx hb dX10_best_67 rfl (lv_at hl 0 rfl) ?_
              refine mo_gr hx hb hu hown hK hal hW 43 (by decide) uF_X10_287 dX10_best_68 ?_
              refine n_topi (y := nI ((gdR S bin frn ton (1000 - 100 * j)).1)) (hGD.2.2.2.1) ?_
              refine n_imul hx hb dX10_best_71 ?_
              refine lv_iload hx hb dX10_best_72 (lv_at hl 4 rfl) ?_
              refine lv_aload_n hx hb dX10_best_74 rfl (lv_at hl 0 rfl) ?_
              refine mo_gr hx hb hu hown hK hal hW 44 (by decide) uF_X10_290 dX10_best_75 ?_
              refine n_topi (y := nI ((gdR S bin frn ton (1000 - 100 * j)).2.1)) (hGD.2.2.2.2.1) ?_
              refine n_imul hx hb dX10_best_78 ?_
              refine n_iadd hx hb dX10_best_79 ?_
              refine n_top (b := btS S bin frn ton win j) (rfl) ?_
              have hsl := btS_le hG (b := bin) (a := frn) (z := ton) (w := win) (j := j) (by omega) (by omega) (by omega)
              refine lv_istore (lv' := [(8, .int (nI (btS S bin frn ton win j))), (0, .ref (ad.1 40 0)), (1, .int (nI bin)), (2, .int (nI frn)), (3, .int (nI ton)), (4, .int (nI win)), (5, .int be), (6, .int (nI le)), (7, .int (nI (1000 - 100 * j)))]) hx hb dX10_best_80 hl (by decide) rfl (fun ls hl => ?_)
              refine lv_iload hx hb dX10_best_82 (lv_at hl 6 rfl) ?_
              refine lv_iconst (v := -1) hx hb dX10_best_84 (by decide) ?_
              refine lv_icmp_eq (tgt := 98) hx hb dX10_best_85 (by decide) (fun c_b => ?_) (fun c_b => ?_)
              · have hst : btL S bin frn ton win (j + 1) = (nI (1000 - 100 * j), btS S bin frn ton win j) := by rw [btL, if_pos (Or.inl (by rw [← hbe]; exact c_b))]
                refine lv_iload hx hb dX10_best_98 (lv_at hl 8 rfl) ?_
                refine lv_istore (lv' := [(5, .int (nI (1000 - 100 * j))), (8, .int (nI (btS S bin frn ton win j))), (0, .ref (ad.1 40 0)), (1, .int (nI bin)), (2, .int (nI frn)), (3, .int (nI ton)), (4, .int (nI win)), (6, .int (nI le)), (7, .int (nI (1000 - 100 * j)))]) hx hb dX10_best_100 hl (by decide) rfl (fun ls hl => ?_)
                refine lv_iload hx hb dX10_best_102 (lv_at hl 1 rfl) ?_
                refine lv_istore (lv' := [(6, .int (nI (btS S bin frn ton win j))), (5, .int (nI (1000 - 100 * j))), (8, .int (nI (btS S bin frn ton win j))), (0, .ref (ad.1 40 0)), (1, .int (nI bin)), (2, .int (nI frn)), (3, .int (nI ton)), (4, .int (nI win)), (7, .int (nI (1000 - 100 * j)))]) hx hb dX10_best_104 hl (by decide) rfl (fun ls hl => ?_)
                refine lv_iinc (v := (nI (1000 - 100 * j)) + (-100)) (lv' := [(7, .int ((nI (1000 - 100 * j)) + (-100))), (6, .int (nI (btS S bin frn ton win j))), (5, .int (nI (1000 - 100 * j))), (8, .int (nI (btS S bin frn ton win j))), (0, .ref (ad.1 40 0)), (1, .int (nI bin)), (2, .int (nI frn)), (3, .int (nI ton)), (4, .int (nI win))]) hx hb dX10_best_106 hl (k := 8) rfl (by rfl) (by decide) rfl (fun ls hl => ?_)
                refine lv_goto (tgt := 47) hx hb dX10_best_109 (by decide) ?_
                exact ih_lp47 (nI (1000 - 100 * j)) (btS S bin frn ton win j) ((nI (1000 - 100 * j)) + (-100)) (j + 1) d_15 _ _ ls (by omega) (btn j (by omega)) hP (by first | (rw [hst]; done) | (rw [hst]; exact hbe)) (by first | (rw [hst]; done) | (rw [hst]; exact hle)) hW hS (lv_sub hl [4, 5, 6, 7, 8, 2, 1, 0] rfl)
              · refine lv_iload hx hb dX10_best_88 (lv_at hl 0 rfl) ?_
                refine lv_iload hx hb dX10_best_90 (lv_at hl 7 rfl) ?_
                refine n_icmp_lt (tgt := 98) hx hb (by omega) (by omega) dX10_best_92 (by decide) (fun c_l => ?_) (fun c_l => ?_)
                · have hst : btL S bin frn ton win (j + 1) = (nI (1000 - 100 * j), btS S bin frn ton win j) := by rw [btL, if_pos (Or.inr (by rw [← hle]; exact c_l))]
                  refine lv_iload hx hb dX10_best_98 (lv_at hl 8 rfl) ?_
                  refine lv_istore (lv' := [(5, .int (nI (1000 - 100 * j))), (8, .int (nI (btS S bin frn ton win j))), (0, .ref (ad.1 40 0)), (1, .int (nI bin)), (2, .int (nI frn)), (3, .int (nI ton)), (4, .int (nI win)), (6, .int (nI le)), (7, .int (nI (1000 - 100 * j)))]) hx hb dX10_best_100 hl (by decide) rfl (fun ls hl => ?_)
                  refine lv_iload hx hb dX10_best_102 (lv_at hl 1 rfl) ?_
                  refine lv_istore (lv' := [(6, .int (nI (btS S bin frn ton win j))), (5, .int (nI (1000 - 100 * j))), (8, .int (nI (btS S bin frn ton win j))), (0, .ref (ad.1 40 0)), (1, .int (nI bin)), (2, .int (nI frn)), (3, .int (nI ton)), (4, .int (nI win)), (7, .int (nI (1000 - 100 * j)))]) hx hb dX10_best_104 hl (by decide) rfl (fun ls hl => ?_)
                  refine lv_iinc (v := (nI (1000 - 100 * j)) + (-100)) (lv' := [(7, .int ((nI (1000 - 100 * j)) + (-100))), (6, .int (nI (btS S bin frn ton win j))), (5, .int (nI (1000 - 100 * j))), (8, .int (nI (btS S bin frn ton win j))), (0, .ref (ad.1 40 0)), (1, .int (nI bin)), (2, .int (nI frn)), (3, .int (nI ton)), (4, .int (nI win))]) hx hb dX10_best_106 hl (k := 8) rfl (by rfl) (by decide) rfl (fun ls hl => ?_)
                  refine lv_goto (tgt := 47) hx hb dX10_best_109 (by decide) ?_
                  exact ih_lp47 (nI (1000 - 100 * j)) (btS S bin frn ton win j) ((nI (1000 - 100 * j)) + (-100)) (j + 1) d_15 _ _ ls (by omega) (btn j (by omega)) hP (by first | (rw [hst]; done) | (rw [hst]; exact hbe)) (by first | (rw [hst]; done) | (rw [hst]; exact hle)) hW hS (lv_sub hl [4, 5, 6, 7, 8, 2, 1, 0] rfl)
                · have hst : btL S bin frn ton win (j + 1) = btL S bin frn ton win j := by rw [btL, if_neg (fun q => q.elim (fun z => c_b (by rw [hbe]; exact z)) (fun z => c_l (by rw [hle]; exact z)))]
                  refine lv_goto (tgt := 106) hx hb dX10_best_95 (by decide) ?_
                  refine lv_iinc (v := (nI (1000 - 100 * j)) + (-100)) (lv' := [(7, .int ((nI (1000 - 100 * j)) + (-100))), (8, .int (nI (btS S bin frn ton win j))), (0, .ref (ad.1 40 0)), (1, .int (nI bin)), (2, .int (nI frn)), (3, .int (nI ton)), (4, .int (nI win)), (5, .int be), (6, .int (nI le))]) hx hb dX10_best_106 hl (k := 8) rfl (by rfl) (by decide) rfl (fun ls hl => ?_)
                  refine lv_goto (tgt := 47) hx hb dX10_best_109 (by decide) ?_
                  exact ih_lp47 be le ((nI (1000 - 100 * j)) + (-100)) (j + 1) d_15 _ _ ls (by omega) (btn j (by omega)) hP (by first | (rw [hst]; done) | (rw [hst]; exact hbe)) (by first | (rw [hst]; done) | (rw [hst]; exact hle)) hW hS (lv_sub hl [2, 3, 4, 5, 6, 7, 8, 0] rfl)
        exact lp47 (12) (-1) 0 (nI 1000) 0 (uI d0 40 0 33 (nI 0)) _ _ ls (by omega) (Or.inl ⟨by omega, rfl⟩) hP rfl rfl hW hS (lv_sub hl [3, 4, 5, 6, 7, 2, 1, 0] rfl)
      · refine lv_iconst (v := -1) hx hb dX10_best_34 (by decide) ?_
        exact o_iret hx hb hr hlocks hW hS (⟨by simp only [aBest, ix_nI hbin (by omega), nx_nI (j := bin) (by omega), hspn, nx_nI (j := frn) (by omega), nx_nI (j := ton) (by omega), bI_z c_11, eq_self, ↓reduceIte, Bool.false_eq_true], by simp only [nBest, rBest, ix_nI hbin (by omega), nx_nI (j := bin) (by omega), hspn, nx_nI (j := frn) (by omega), nx_nI (j := ton) (by omega), bI_z c_11, eq_self, ↓reduceIte, Bool.false_eq_true]; exact hI.pub hR⟩) dX10_best_35
