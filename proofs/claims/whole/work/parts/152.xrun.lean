set_option maxHeartbeats 400000 in
set_option maxRecDepth 100000 in
theorem c_X9_isRun (l : Launch) (D : va_G) (cA : Nat → ClassId) (B0 : Nat) (ad : kA) (hal : mAl ad) (d0 : kD) (fr : Int32) (to : Int32)  : oM l yX9_isRun wX9_isRun 3 0 0 D cA B0 ad d0 ([.int fr, .int to] : List Value) (oQi D cA B0 ad (fun r d1 => r = bI (spn fr to) ∧ d0 = d1)) := by
  refine o_ofW (cc := cX9_isRun) (maxL := 2) (ret := some .boolean) (by decide) rfl (Nat.le_of_ble_eq_true rfl) ?_
  intro p e s m below meth c hx hb hr hml hts hown hlocks hnm hK hW hB hS ls hl
  have hu : ∀ w ∈ UW, w.before _ s = true := fun w h => hts w (uw_c w h)
  have hl : lv_has ls 2 [(0, .int fr), (1, .int to)] := hl
  refine lv_iload_n hx hb dX9_isRun_0 rfl (lv_at hl 0 rfl) ?_
  refine o_calli (o_runS (As := [.int fr]) (rest := []) ⟨hx, hb, hml, hown, hu⟩ (c_X9_isDay l D cA B0 ad hal d0 fr) (gS_X9_81 (fun _ h => h)) (n0 := 1) rfl (by decide +kernel) rfl ⟨Nat.le_of_ble_eq_true rfl, Nat.le_of_ble_eq_true rfl⟩ hK hW hB hS hl.1 rfl (lv_room (Nat.le_of_ble_eq_true rfl)) ⟨Nat.zero_le _, Nat.zero_le _⟩ dX9_isRun_1) hS (fun r_2 d_1 q_3 H locs hW hS => ?_)
  obtain ⟨rfl, rfl⟩ := q_3
  refine lv_if_eq (tgt := 31) hx hb dX9_isRun_4 (by decide) (fun c_4 => ?_) (fun c_4 => ?_)
  · refine n_iconst (v := 0) hx hb dX9_isRun_31 (by decide) ?_
    exact o_zret hx hb hr hlocks (by first | rfl | exact z_bI _ | (split <;> first | rfl | (split <;> rfl))) hW hS (⟨by first | (simp only [spn, bI_z c_4, eq_self, ↓reduceIte, Bool.false_eq_true, Bool.false_and, Bool.and_false, Bool.true_and]; done) | (simp only [spn, bI_z c_4, eq_self, ↓reduceIte, Bool.false_eq_true, Bool.false_and, Bool.and_false, Bool.true_and]; rfl) | (simp only [spn, bI_z c_4, eq_self, ↓reduceIte, Bool.false_eq_true, Bool.false_and, Bool.and_false, Bool.true_and]; rw [decide_eq_true (by omega)]; rfl) | (simp only [spn, bI_z c_4, eq_self, ↓reduceIte, Bool.false_eq_true, Bool.false_and, Bool.and_false, Bool.true_and]; rw [decide_eq_false (by omega)]; rfl), rfl⟩) dX9_isRun_32
  · obtain ⟨frn, hfrn, rfl⟩ := ix_t (bI_n c_4) (by omega)
    refine lv_iload_n hx hb dX9_isRun_7 rfl (lv_at hl 1 rfl) ?_
    refine o_calli (o_runS (As := [.int to]) (rest := []) ⟨hx, hb, hml, hown, hu⟩ (c_X9_isDay l D cA B0 ad hal d0 to) (gS_X9_81 (fun _ h => h)) (n0 := 1) rfl (by decide +kernel) rfl ⟨Nat.le_of_ble_eq_true rfl, Nat.le_of_ble_eq_true rfl⟩ hK hW hB hS hl.1 rfl (lv_room (Nat.le_of_ble_eq_true rfl)) ⟨Nat.zero_le _, Nat.zero_le _⟩ dX9_isRun_8) hS (fun r_6 d_5 q_7 H locs hW hS => ?_)
    obtain ⟨rfl, rfl⟩ := q_7
    refine lv_if_eq (tgt := 31) hx hb dX9_isRun_11 (by decide) (fun c_t => ?_) (fun c_t => ?_)
    · have hrx : rx to frn 399 = false := rx_no (bI_z c_t)
      refine n_iconst (v := 0) hx hb dX9_isRun_31 (by decide) ?_
      exact o_zret hx hb hr hlocks (by first | rfl | exact z_bI _ | (split <;> first | rfl | (split <;> rfl))) hW hS (⟨by first | (simp only [spn, ix_nI hfrn (by omega), nx_nI (j := frn) (by omega), hrx, bI_z c_t, eq_self, ↓reduceIte, Bool.false_eq_true, Bool.false_and, Bool.and_false, Bool.true_and]; done) | (simp only [spn, ix_nI hfrn (by omega), nx_nI (j := frn) (by omega), hrx, bI_z c_t, eq_self, ↓reduceIte, Bool.false_eq_true, Bool.false_and, Bool.and_false, Bool.true_and]; rfl) | (simp only [spn, ix_nI hfrn (by omega), nx_nI (j := frn) (by omega), hrx, bI_z c_t, eq_self, ↓reduceIte, Bool.false_eq_true, Bool.false_and, Bool.and_false, Bool.true_and]; rw [decide_eq_true (by omega)]; rfl) | (simp only [spn, ix_nI hfrn (by omega), nx_nI (j := frn) (by omega), hrx, bI_z c_t, eq_self, ↓reduceIte, Bool.false_eq_true, Bool.false_and, Bool.and_false, Bool.true_and]; rw [decide_eq_false (by omega)]; rfl), rfl⟩) dX9_isRun_32
    · obtain ⟨ton, hton, rfl⟩ := ix_t (bI_n c_t) (by omega)
      refine lv_iload_n hx hb dX9_isRun_14 rfl (lv_at hl 0 rfl) ?_
      refine lv_iload_n hx hb dX9_isRun_15 rfl (lv_at hl 1 rfl) ?_
      refine n_icmp_gt (tgt := 31) hx hb (by omega) (by omega) dX9_isRun_16 (by decide) (fun c_ft => ?_) (fun c_ft => ?_)
      · have hrx : rx (nI ton) frn 399 = false := decide_eq_false (fun q => by rw [nI_toInt (by omega)] at q; omega)
        refine n_iconst (v := 0) hx hb dX9_isRun_31 (by decide) ?_
        exact o_zret hx hb hr hlocks (by first | rfl | exact z_bI _ | (split <;> first | rfl | (split <;> rfl))) hW hS (⟨by first | (simp only [spn, ix_nI hfrn (by omega), nx_nI (j := frn) (by omega), ix_nI hton (by omega), nx_nI (j := ton) (by omega), hrx, eq_self, ↓reduceIte, Bool.false_eq_true, Bool.false_and, Bool.and_false, Bool.true_and]; done) | (simp only [spn, ix_nI hfrn (by omega), nx_nI (j := frn) (by omega), ix_nI hton (by omega), nx_nI (j := ton) (by omega), hrx, eq_self, ↓reduceIte, Bool.false_eq_true, Bool.false_and, Bool.and_false, Bool.true_and]; rfl) | (simp only [spn, ix_nI hfrn (by omega), nx_nI (j := frn) (by omega), ix_nI hton (by omega), nx_nI (j := ton) (by omega), hrx, eq_self, ↓reduceIte, Bool.false_eq_true, Bool.false_and, Bool.and_false, Bool.true_and]; rw [decide_eq_true (by omega)]; rfl) | (simp only [spn, ix_nI hfrn (by omega), nx_nI (j := frn) (by omega), ix_nI hton (by omega), nx_nI (j := ton) (by omega), hrx, eq_self, ↓reduceIte, Bool.false_eq_true, Bool.false_and, Bool.and_false, Bool.true_and]; rw [decide_eq_false (by omega)]; rfl), rfl⟩) dX9_isRun_32
      · have hrx : rx (nI ton) frn 399 = true := rx_nI (by omega) (by omega) (by omega)
        refine lv_iload_n hx hb dX9_isRun_19 rfl (lv_at hl 1 rfl) ?_
        refine lv_iload_n hx hb dX9_isRun_20 rfl (lv_at hl 0 rfl) ?_
        refine n_isub hx hb (by omega) dX9_isRun_21 ?_
        refine n_bipush (v := 60) hx hb dX9_isRun_22 (by decide) ?_
        refine n_icmp_ge (tgt := 31) hx hb (by omega) (by omega) dX9_isRun_24 (by decide) (fun c_8 => ?_) (fun c_8 => ?_)
        · refine n_iconst (v := 0) hx hb dX9_isRun_31 (by decide) ?_
          exact o_zret hx hb hr hlocks (by first | rfl | exact z_bI _ | (split <;> first | rfl | (split <;> rfl))) hW hS (⟨by first | (simp only [spn, ix_nI hfrn (by omega), nx_nI (j := frn) (by omega), ix_nI hton (by omega), nx_nI (j := ton) (by omega), hrx, eq_self, ↓reduceIte, Bool.false_eq_true, Bool.false_and, Bool.and_false, Bool.true_and]; done) | (simp only [spn, ix_nI hfrn (by omega), nx_nI (j := frn) (by omega), ix_nI hton (by omega), nx_nI (j := ton) (by omega), hrx, eq_self, ↓reduceIte, Bool.false_eq_true, Bool.false_and, Bool.and_false, Bool.true_and]; rfl) | (simp only [spn, ix_nI hfrn (by omega), nx_nI (j := frn) (by omega), ix_nI hton (by omega), nx_nI (j := ton) (by omega), hrx, eq_self, ↓reduceIte, Bool.false_eq_true, Bool.false_and, Bool.and_false, Bool.true_and]; rw [decide_eq_true (by omega)]; rfl) | (simp only [spn, ix_nI hfrn (by omega), nx_nI (j := frn) (by omega), ix_nI hton (by omega), nx_nI (j := ton) (by omega), hrx, eq_self, ↓reduceIte, Bool.false_eq_true, Bool.false_and, Bool.and_false, Bool.true_and]; rw [decide_eq_false (by omega)]; rfl), rfl⟩) dX9_isRun_32
        · refine n_iconst (v := 1) hx hb dX9_isRun_27 (by decide) ?_
          refine lv_goto (tgt := 32) hx hb dX9_isRun_28 (by decide) ?_
          exact o_zret hx hb hr hlocks (by first | rfl | exact z_bI _ | (split <;> first | rfl | (split <;> rfl))) hW hS (⟨by first | (simp only [spn, ix_nI hfrn (by omega), nx_nI (j := frn) (by omega), ix_nI hton (by omega), nx_nI (j := ton) (by omega), hrx, eq_self, ↓reduceIte, Bool.false_eq_true, Bool.false_and, Bool.and_false, Bool.true_and]; done) | (simp only [spn, ix_nI hfrn (by omega), nx_nI (j := frn) (by omega), ix_nI hton (by omega), nx_nI (j := ton) (by omega), hrx, eq_self, ↓reduceIte, Bool.false_eq_true, Bool.false_and, Bool.and_false, Bool.true_and]; rfl) | (simp only [spn, ix_nI hfrn (by omega), nx_nI (j := frn) (by omega), ix_nI hton (by omega), nx_nI (j := ton) (by omega), hrx, eq_self, ↓reduceIte, Bool.false_eq_true, Bool.false_and, Bool.and_false, Bool.true_and]; rw [decide_eq_true (by omega)]; rfl) | (simp only [spn, ix_nI hfrn (by omega), nx_nI (j := frn) (by omega), ix_nI hton (by omega), nx_nI (j := ton) (by omega), hrx, eq_self, ↓reduceIte, Bool.false_eq_true, Bool.false_and, Bool.and_false, Bool.true_and]; rw [decide_eq_false (by omega)]; rfl), rfl⟩) dX9_isRun_32

set_option maxHeartbeats 400000 in
set_option maxRecDepth 100000 in
theorem c_X9_run (l : Launch) (D : va_G) (cA : Nat → ClassId) (B0 : Nat) (ad : kA) (hal : mAl ad) (S : sS) (sr : Nat → Int32) (d0 : kD) (hM : InvX cA ad S d0) (hR : RowX S sr d0) (bi fr to si : Int32) : oM l yX9_run wX9_run 8 0 0 D cA B0 ad d0 ([.ref (ad.1 0 0), .int bi, .int fr, .int to, .int si] : List Value) (oQi D cA B0 ad (fun r d1 => r = aRun S bi fr to si ∧ PX cA ad (nRun S bi fr to si) (rRun S sr bi fr to si) d0 d1)) := by
  refine o_ofW (cc := cX9_run) (maxL := 7) (ret := some .int) (by decide) rfl (Nat.le_of_ble_eq_true rfl) ?_
  intro p e s m below meth c hx hb hr hml hts hown hlocks hnm hK hW hB hS ls hl
  have hu : ∀ w ∈ UW, w.before _ s = true := fun w h => hts w (uw_c w h)
  have hl : lv_has ls 7 [(0, .ref (ad.1 0 0)), (1, .int bi), (2, .int fr), (3, .int to), (4, .int si)] := hl
  have hX := hM.1
  have hA := hX.1
  have hG := hX.2.2
  have hb7 : S 7 0 ≤ 8 := hG.f 7 (mx := 8) (by decide)
  have hb11 : S 11 0 ≤ 20 := hG.f 11 (mx := 20) (by decide)
  have hb18 : S 18 0 ≤ 40 := hG.f 18 (mx := 40) (by decide)
  have hI : XX cA ad S d0 d0 := XX.start hM
  have hb1 : S 1 0 ≤ 4 := hG.f 1 (mx := 4) (by decide)
  have hb19 : S 19 0 ≤ 399 := hG.f 19 (mx := 399) (by decide)
  have hb22 : S 22 0 ≤ 64 := hG.f 22 (mx := 64) (by decide)
  have hb25 : S 25 0 ≤ 4 := hG.f 25 (mx := 4) (by decide)
  have hb30 : S 30 0 ≤ 10 := hG.f 30 (mx := 10) (by decide)
  have hb32 : S 32 0 ≤ 64 := hG.f 32 (mx := 64) (by decide)
  refine lv_aload_n hx hb dX9_run_0 rfl (lv_at hl 0 rfl) ?_
  refine lv_iload_n hx hb dX9_run_1 rfl (lv_at hl 1 rfl) ?_
  refine o_callq (o_runV (As := [.int bi]) (rest := []) ⟨hx, hb, hml, hown, hu⟩ (c_X9_bridgeOf l D cA B0 ad hal S d0 hI.1.1 bi) (gV_X9_297 (fun _ h => h)) (n0 := 1) rfl (by decide +kernel) rfl ⟨Nat.le_of_ble_eq_true rfl, Nat.le_of_ble_eq_true rfl⟩ (o_recv hK hW (hA.o (k := 0) rfl) (kX_0 _ _ _ _) rfl) hK hW hB hS hl.1 rfl (lv_room (Nat.le_of_ble_eq_true rfl)) ⟨Nat.zero_le _, Nat.zero_le _⟩ dX9_run_2) hS (fun r_2 d_1 q_3 H locs hW hS => ?_)
  obtain ⟨rfl, rfl⟩ := q_3
  cases o_4 : ix bi (S 25 0) with
  | false =>
    refine W.eq (g2 := F0 m 5 ls [.null]) rfl ?_
    refine lv_astoreN (lv' := [(5, .null), (0, .ref (ad.1 0 0)), (1, .int bi), (2, .int fr), (3, .int to), (4, .int si)]) hx hb dX9_run_5 hl (by decide) rfl (fun ls hl => ?_)
    refine lv_aloadN hx hb dX9_run_7 (lv_at hl 0 rfl) ?_
    refine lv_ifnullN (tgt := 32) hx hb dX9_run_9 (by decide) ?_
    refine lv_iconst (v := -1) hx hb dX9_run_32 (by decide) ?_
    exact o_iret hx hb hr hlocks hW hS (⟨by simp only [aRun, o_4, eq_self, ↓reduceIte, Bool.false_eq_true], by simp only [nRun, rRun, o_4, eq_self, ↓reduceIte, Bool.false_eq_true]; exact hI.pub hR⟩) dX9_run_33
  | true =>
    obtain ⟨bin, hbin, rfl⟩ := ix_t o_4 (by omega)
    refine W.eq (g2 := F0 m 5 ls [.ref (ad.1 9 bin)]) (by rw [if_pos rfl, nx_nI (by omega)]; rfl) ?_
    refine lv_astore (lv' := [(5, .ref (ad.1 9 bin)), (0, .ref (ad.1 0 0)), (1, .int (nI bin)), (2, .int fr), (3, .int to), (4, .int si)]) hx hb dX9_run_5 hl (by decide) rfl (fun ls hl => ?_)
    refine lv_aload hx hb dX9_run_7 (lv_at hl 0 rfl) ?_
    refine lv_ifnull hx hb dX9_run_9 ?_
    refine lv_iload_n hx hb dX9_run_12 rfl (lv_at hl 3 rfl) ?_
    refine lv_iload_n hx hb dX9_run_13 rfl (lv_at hl 4 rfl) ?_
    refine o_calli (o_runS (As := [.int fr, .int to]) (rest := []) ⟨hx, hb, hml, hown, hu⟩ (c_X9_isRun l D cA B0 ad hal d0 fr to ) (gS_X9_305 (fun _ h => h)) (n0 := 2) rfl (by decide +kernel) rfl ⟨Nat.le_of_ble_eq_true rfl, Nat.le_of_ble_eq_true rfl⟩ hK hW hB hS hl.1 rfl (lv_room (Nat.le_of_ble_eq_true rfl)) ⟨Nat.zero_le _, Nat.zero_le _⟩ dX9_run_14) hS (fun r_6 d_5 q_7 H locs hW hS => ?_)
    obtain ⟨rfl, rfl⟩ := q_7
    refine lv_if_eq (tgt := 32) hx hb dX9_run_17 (by decide) (fun c_p => ?_) (fun c_p => ?_)
    · refine lv_iconst (v := -1) hx hb dX9_run_32 (by decide) ?_
      exact o_iret hx hb hr hlocks hW hS (⟨by simp only [aRun, ix_nI hbin (by omega), nx_nI (j := bin) (by omega), bI_z c_p, eq_self, ↓reduceIte, Bool.false_eq_true], by simp only [nRun, rRun, ix_nI hbin (by omega), nx_nI (j := bin) (by omega), bI_z c_p, eq_self, ↓reduceIte, Bool.false_eq_true]; exact hI.pub hR⟩) dX9_run_33
    · have hspn := bI_n c_p
      obtain ⟨frn, ton, hfr, hft, hto, hsp6, rfl, rfl⟩ := spn_t hspn
      refine lv_iload hx hb dX9_run_20 (lv_at hl 5 rfl) ?_
      refine n_iconst (v := 0) hx hb dX9_run_22 (by decide) ?_
      refine n_sipush (v := 1000) hx hb dX9_run_23 (by decide) ?_
      refine o_calli (o_runS (As := [.int si, .int (nI 0), .int (nI 1000)]) (rest := []) ⟨hx, hb, hml, hown, hu⟩ (c_X9_within l D cA B0 ad hal d0 si (nI 0) (nI 1000)) (gS_X9_85 (fun _ h => h)) (n0 := 3) rfl (by decide +kernel) rfl ⟨Nat.le_of_ble_eq_true rfl, Nat.le_of_ble_eq_true rfl⟩ hK hW hB hS hl.1 rfl (lv_room (Nat.le_of_ble_eq_true rfl)) ⟨Nat.zero_le _, Nat.zero_le _⟩ dX9_run_26) hS (fun r_9 d_8 q_10 H locs hW hS => ?_)
      obtain ⟨rfl, rfl⟩ := q_10
      refine n_topi (y := bI (ix si 1001)) (in_ixc 1001 rfl (by decide)) ?_
      refine lv_if_ne (tgt := 34) hx hb dX9_run_29 (by decide) (fun c_11 => ?_) (fun c_11 => ?_)
      · obtain ⟨sin, hsin, rfl⟩ := ix_t (bI_n c_11) (by omega)
        refine lv_aload_n hx hb dX9_run_34 rfl (lv_at hl 1 rfl) ?_
        refine lv_aload hx hb dX9_run_35 (lv_at hl 0 rfl) ?_
        refine lv_iload_n hx hb dX9_run_37 rfl (lv_at hl 3 rfl) ?_
        refine lv_iload_n hx hb dX9_run_38 rfl (lv_at hl 4 rfl) ?_
        refine o_callv (o_runV (As := [.ref (ad.1 9 bin), .int (nI frn), .int (nI ton)]) (rest := []) ⟨hx, hb, hml, hown, hu⟩ (c_X9_watchDays l D cA B0 ad hal S d0 hI.1 bin frn ton (by omega) (by omega) (by omega) (by omega)) (gV_X9_309 (fun _ h => h)) (n0 := 3) rfl (by decide +kernel) rfl ⟨Nat.le_of_ble_eq_true rfl, Nat.le_of_ble_eq_true rfl⟩ (o_recv hK hW (hA.o (k := 0) rfl) (kX_0 _ _ _ _) rfl) hK hW hB hS hl.1 rfl (lv_room (Nat.le_of_ble_eq_true rfl)) ⟨Nat.zero_le _, Nat.zero_le _⟩ dX9_run_39) hS (fun d_12 q_14 H locs hW hS => ?_)
        obtain ⟨hq, hWt⟩ := q_14
        have hI := hI.trans hq
        refine lv_aload_n hx hb dX9_run_42 rfl (lv_at hl 1 rfl) ?_
        refine x_gr hx hb hu in_X9 hown hK hW (hA.o (k := 0) rfl) (kX_0 _ _ _ _) rfl 9 (by decide) uF_X9_58 (hA.f 9 (k := 22) (i := 0) (by decide) (hA.o (k := 22) rfl)) dX9_run_43 ?_
        refine lv_iload hx hb dX9_run_46 (lv_at hl 5 rfl) ?_
        refine o_calli (o_runV (As := [.int (nI sin)]) (rest := []) ⟨hx, hb, hml, hown, hu⟩ (c_X8_shutDays l D cA B0 ad hal S d_12 hI.1.1 sin bin frn (ton + 1 - frn) hWt (by omega) (by omega)) (gV_X9_313 (fun _ h => h)) (n0 := 1) rfl (by decide +kernel) rfl ⟨Nat.le_of_ble_eq_true rfl, Nat.le_of_ble_eq_true rfl⟩ (o_recv hK hW (hA.o (k := 22) rfl) (kX_22 _ _ _ _) rfl) hK hW hB hS hl.1 rfl (lv_room (Nat.le_of_ble_eq_true rfl)) ⟨Nat.zero_le _, Nat.zero_le _⟩ dX9_run_48) hS (fun r_16 d_15 q_17 H locs hW hS => ?_)
        obtain ⟨rfl, rfl⟩ := q_17
        have hgl := gdL_le S bin sin frn (ton + 1 - frn)
        refine lv_istore (lv' := [(6, .int (nI ((gdL S bin sin frn (ton + 1 - frn)).1))), (5, .ref (ad.1 9 bin)), (0, .ref (ad.1 0 0)), (1, .int (nI bin)), (2, .int (nI frn)), (3, .int (nI ton)), (4, .int (nI sin))]) hx hb dX9_run_51 hl (by decide) rfl (fun ls hl => ?_)
        have hSp := hR.2.fr hI.2
        have hI := hI.r
        refine lv_aload_n hx hb dX9_run_53 rfl (lv_at hl 2 rfl) ?_
        refine x_gr hx hb hu in_X9 hown hK hW (hA.o (k := 0) rfl) (kX_0 _ _ _ _) rfl 6 (by decide) uF_X9_37 (hA.f 6 (k := 11) (i := 0) (by decide) (hA.o (k := 11) rfl)) dX9_run_54 ?_
        refine o_callv (o_runV (As := []) (rest := []) ⟨hx, hb, hml, hown, hu⟩ (c_X3_clear l D cA B0 ad hal S d_12 hI.1.1) (gV_X9_174 (fun _ h => h)) (n0 := 0) rfl (by decide +kernel) rfl ⟨Nat.le_of_ble_eq_true rfl, Nat.le_of_ble_eq_true rfl⟩ (o_recv hK hW (hA.o (k := 11) rfl) (kX_11 _ _ _ _) rfl) hK hW hB hS hl.1 rfl (lv_room (Nat.le_of_ble_eq_true rfl)) ⟨Nat.zero_le _, Nat.zero_le _⟩ dX9_run_57) hS (fun d_18 q_20 H locs hW hS => ?_)
        subst q_20
        have hI := hI.k12 11 0 1 (nI 0) (by decide)
        have hT := TR.zero (fun _ => 0) d_12
        have hSp := hSp.k 11 0 1 (nI 0) (by decide)
        have hWt := hWt.k 11 0 1 (nI 0) (by decide)
        refine lv_aload_n hx hb dX9_run_60 rfl (lv_at hl 2 rfl) ?_
        refine x_gr hx hb hu in_X9 hown hK hW (hA.o (k := 0) rfl) (kX_0 _ _ _ _) rfl 6 (by decide) uF_X9_37 (hA.f 6 (k := 11) (i := 0) (by decide) (hA.o (k := 11) rfl)) dX9_run_61 ?_
        refine lv_aload_n hx hb dX9_run_64 rfl (lv_at hl 2 rfl) ?_
        refine x_gr hx hb hu in_X9 hown hK hW (hA.o (k := 0) rfl) (kX_0 _ _ _ _) rfl 9 (by decide) uF_X9_58 (hA.f 9 (k := 22) (i := 0) (by decide) (hA.o (k := 22) rfl)) dX9_run_65 ?_
        refine lv_iload hx hb dX9_run_68 (lv_at hl 6 rfl) ?_
        refine o_calli (o_runV (As := [.int (nI sin)]) (rest := [.ref (ad.1 11 0)]) ⟨hx, hb, hml, hown, hu⟩ (c_X8_lateDays l D cA B0 ad hal S (uI d_12 11 0 1 (nI 0)) hI.1.1 sin bin frn (ton + 1 - frn) hWt (by omega) (by omega)) (gV_X9_316 (fun _ h => h)) (n0 := 1) rfl (by decide +kernel) rfl ⟨Nat.le_of_ble_eq_true rfl, Nat.le_of_ble_eq_true rfl⟩ (o_recv hK hW (hA.o (k := 22) rfl) (kX_22 _ _ _ _) rfl) hK hW hB hS hl.1 rfl (lv_room (Nat.le_of_ble_eq_true rfl)) ⟨Nat.zero_le _, Nat.zero_le _⟩ dX9_run_70) hS (fun r_22 d_21 q_23 H locs hW hS => ?_)
        obtain ⟨rfl, rfl⟩ := q_23
        refine o_callv (o_runV (As := [.int (nI ((gdL S bin sin frn (ton + 1 - frn)).2.1))]) (rest := []) ⟨hx, hb, hml, hown, hu⟩ (c_X3_put l D cA B0 ad hal S (uI d_12 11 0 1 (nI 0)) hI.1.1 0 (nI ((gdL S bin sin frn (ton + 1 - frn)).2.1)) (by omega) hT.1) (gV_X9_177 (fun _ h => h)) (n0 := 1) rfl (by decide +kernel) rfl ⟨Nat.le_of_ble_eq_true rfl, Nat.le_of_ble_eq_true rfl⟩ (o_recv hK hW (hA.o (k := 11) rfl) (kX_11 _ _ _ _) rfl) hK hW hB hS hl.1 rfl (lv_room (Nat.le_of_ble_eq_true rfl)) ⟨Nat.zero_le _, Nat.zero_le _⟩ dX9_run_73) hS (fun d_24 q_26 H locs hW hS => ?_)
        subst q_26
        have hI := hI.k12 12 0 0 (nI ((gdL S bin sin frn (ton + 1 - frn)).2.1)) (by decide)
        have hI := hI.k12 11 0 1 (nI (0 + 1)) (by decide)
        have hT := hT.tell (nI ((gdL S bin sin frn (ton + 1 - frn)).2.1))
        have hSp := (hSp.k 12 0 0 (nI ((gdL S bin sin frn (ton + 1 - frn)).2.1)) (by decide)).k 11 0 1 (nI (0 + 1)) (by decide)
        refine lv_aload_n hx hb dX9_run_76 rfl (lv_at hl 2 rfl) ?_
        refine x_gr hx hb hu in_X9 hown hK hW (hA.o (k := 0) rfl) (kX_0 _ _ _ _) rfl 6 (by decide) uF_X9_37 (hA.f 6 (k := 11) (i := 0) (by decide) (hA.o (k := 11) rfl)) dX9_run_77 ?_
        refine lv_aload_n hx hb dX9_run_80 rfl (lv_at hl 2 rfl) ?_
        refine x_gr hx hb hu in_X9 hown hK hW (hA.o (k := 0) rfl) (kX_0 _ _ _ _) rfl 9 (by decide) uF_X9_58 (hA.f 9 (k := 22) (i := 0) (by decide) (hA.o (k := 22) rfl)) dX9_run_81 ?_
        refine lv_iload hx hb dX9_run_84 (lv_at hl 6 rfl) ?_
        refine o_calli (o_runV (As := [.int (nI sin)]) (rest := [.ref (ad.1 11 0)]) ⟨hx, hb, hml, hown, hu⟩ (c_X8_falseDays l D cA B0 ad hal S (uI (uI (uI d_12 11 0 1 (nI 0)) 12 0 0 (nI ((gdL S bin sin frn (ton + 1 - frn)).2.1))) 11 0 1 (nI (0 + 1))) hI.1.1 sin bin frn (ton + 1 - frn) ((hWt.k _ _ _ _ (by decide)).k _ _ _ _ (by decide)) (by omega) (by omega)) (gV_X9_319 (fun _ h => h)) (n0 := 1) rfl (by decide +kernel) rfl ⟨Nat.le_of_ble_eq_true rfl, Nat.le_of_ble_eq_true rfl⟩ (o_recv hK hW (hA.o (k := 22) rfl) (kX_22 _ _ _ _) rfl) hK hW hB hS hl.1 rfl (lv_room (Nat.le_of_ble_eq_true rfl)) ⟨Nat.zero_le _, Nat.zero_le _⟩ dX9_run_86) hS (fun r_28 d_27 q_29 H locs hW hS => ?_)
        obtain ⟨rfl, rfl⟩ := q_29
        refine o_callv (o_runV (As := [.int (nI ((gdL S bin sin frn (ton + 1 - frn)).2.2))]) (rest := []) ⟨hx, hb, hml, hown, hu⟩ (c_X3_put l D cA B0 ad hal S (uI (uI (uI d_12 11 0 1 (nI 0)) 12 0 0 (nI ((gdL S bin sin frn (ton + 1 - frn)).2.1))) 11 0 1 (nI (0 + 1))) hI.1.1 1 (nI ((gdL S bin sin frn (ton + 1 - frn)).2.2)) (by omega) hT.1) (gV_X9_177 (fun _ h => h)) (n0 := 1) rfl (by decide +kernel) rfl ⟨Nat.le_of_ble_eq_true rfl, Nat.le_of_ble_eq_true rfl⟩ (o_recv hK hW (hA.o (k := 11) rfl) (kX_11 _ _ _ _) rfl) hK hW hB hS hl.1 rfl (lv_room (Nat.le_of_ble_eq_true rfl)) ⟨Nat.zero_le _, Nat.zero_le _⟩ dX9_run_89) hS (fun d_30 q_32 H locs hW hS => ?_)
        subst q_32
        have hI := hI.k12 12 0 1 (nI ((gdL S bin sin frn (ton + 1 - frn)).2.2)) (by decide)
        have hI := hI.k12 11 0 1 (nI (1 + 1)) (by decide)
        have hT := hT.tell (nI ((gdL S bin sin frn (ton + 1 - frn)).2.2))
        have hSp := (hSp.k 12 0 1 (nI ((gdL S bin sin frn (ton + 1 - frn)).2.2)) (by decide)).k 11 0 1 (nI (1 + 1)) (by decide)
        refine lv_aload_n hx hb dX9_run_92 rfl (lv_at hl 2 rfl) ?_
        refine x_gr hx hb hu in_X9 hown hK hW (hA.o (k := 0) rfl) (kX_0 _ _ _ _) rfl 6 (by decide) uF_X9_37 (hA.f 6 (k := 11) (i := 0) (by decide) (hA.o (k := 11) rfl)) dX9_run_93 ?_
        refine lv_aload hx hb dX9_run_96 (lv_at hl 1 rfl) ?_
        refine x_gi hx hb hu in_X1 hown hK hW (hA.brid (by omega)) (kX_9 _ _ _ _) rfl 1 (by decide) uF_X9_322 dX9_run_98 ?_
        refine n_topi (y := nI (S 24 bin)) ((hI.1.1.2.1.brid (by omega)).2) ?_
        have b_33 : S 24 bin ≤ 999 := hG.a 24 bin (n := 4) (mx := 999) (by decide) (by omega)
        refine lv_iload hx hb dX9_run_101 (lv_at hl 0 rfl) ?_
        refine n_imul hx hb dX9_run_103 ?_
        refine o_callv (o_runV (As := [.int (nI ((S 24 bin) * ((gdL S bin sin frn (ton + 1 - frn)).1)))]) (rest := []) ⟨hx, hb, hml, hown, hu⟩ (c_X3_put l D cA B0 ad hal S (uI (uI (uI (uI (uI d_12 11 0 1 (nI 0)) 12 0 0 (nI ((gdL S bin sin frn (ton + 1 - frn)).2.1))) 11 0 1 (nI (0 + 1))) 12 0 1 (nI ((gdL S bin sin frn (ton + 1 - frn)).2.2))) 11 0 1 (nI (1 + 1))) hI.1.1 2 (nI ((S 24 bin) * ((gdL S bin sin frn (ton + 1 - frn)).1))) (by omega) hT.1) (gV_X9_177 (fun _ h => h)) (n0 := 1) rfl (by decide +kernel) rfl ⟨Nat.le_of_ble_eq_true rfl, Nat.le_of_ble_eq_true rfl⟩ (o_recv hK hW (hA.o (k := 11) rfl) (kX_11 _ _ _ _) rfl) hK hW hB hS hl.1 rfl (lv_room (Nat.le_of_ble_eq_true rfl)) ⟨Nat.zero_le _, Nat.zero_le _⟩ dX9_run_104) hS (fun d_34 q_36 H locs hW hS => ?_)
        subst q_36
        have hI := hI.k12 12 0 2 (nI ((S 24 bin) * ((gdL S bin sin frn (ton + 1 - frn)).1))) (by decide)
        have hI := hI.k12 11 0 1 (nI (2 + 1)) (by decide)
        have hT := hT.tell (nI ((S 24 bin) * ((gdL S bin sin frn (ton + 1 - frn)).1)))
        have hSp := (hSp.k 12 0 2 (nI ((S 24 bin) * ((gdL S bin sin frn (ton + 1 - frn)).1))) (by decide)).k 11 0 1 (nI (2 + 1)) (by decide)
        refine lv_iload hx hb dX9_run_107 (lv_at hl 0 rfl) ?_
        exact o_iret hx hb hr hlocks hW hS (⟨by simp only [aRun, ix_nI hbin (by omega), nx_nI (j := bin) (by omega), hspn, nx_nI (j := frn) (by omega), nx_nI (j := ton) (by omega), ix_nI hsin (by omega), nx_nI (j := sin) (by omega), eq_self, ↓reduceIte, Bool.false_eq_true]; rfl, by simp only [nRun, rRun, ix_nI hbin (by omega), nx_nI (j := bin) (by omega), hspn, nx_nI (j := frn) (by omega), nx_nI (j := ton) (by omega), ix_nI hsin (by omega), nx_nI (j := sin) (by omega), eq_self, ↓reduceIte, Bool.false_eq_true]; exact hI.end (by omega) hT hSp⟩) dX9_run_109
      · refine lv_iconst (v := -1) hx hb dX9_run_32 (by decide) ?_
        exact o_iret hx hb hr hlocks hW hS (⟨by simp only [aRun, ix_nI hbin (by omega), nx_nI (j := bin) (by omega), hspn, nx_nI (j := frn) (by omega), nx_nI (j := ton) (by omega), bI_z c_11, eq_self, ↓reduceIte, Bool.false_eq_true], by simp only [nRun, rRun, ix_nI hbin (by omega), nx_nI (j := bin) (by omega), hspn, nx_nI (j := frn) (by omega), nx_nI (j := ton) (by omega), bI_z c_11, eq_self, ↓reduceIte, Bool.false_eq_true]; exact hI.pub hR⟩) dX9_run_33

set_option maxHeartbeats 400000 in
set_option maxRecDepth 100000 in
theorem c_X9_best (l : Launch) (D : va_G) (cA : Nat → ClassId) (B0 : Nat) (ad : kA) (hal : mAl ad) (S : sS) (sr : Nat → Int32) (d0 : kD) (hM : InvX cA ad S d0) (hR : RowX S sr d0) (bi fr to wi : Int32) : oM l yX9_best wX9_best 8 0 0 D cA B0 ad d0 ([.ref (ad.1 0 0), .int bi, .int fr, .int to, .int wi] : List Value) (oQi D cA B0 ad (fun r d1 => r = aBest S bi fr to wi ∧ PX cA ad (nBest S bi fr to wi) (rBest S sr bi fr to wi) d0 d1)) := by
  refine o_ofW (cc := cX9_best) (maxL := 10) (ret := some .int) (by decide) rfl (Nat.le_of_ble_eq_true rfl) ?_
  intro p e s m below meth c hx hb hr hml hts hown hlocks hnm hK hW hB hS ls hl
  have hu : ∀ w ∈ UW, w.before _ s = true := fun w h => hts w (uw_c w h)
  have hl : lv_has ls 10 [(0, .ref (ad.1 0 0)), (1, .int bi), (2, .int fr), (3, .int to), (4, .int wi)] := hl
  have hX := hM.1
  have hA := hX.1
  have hG := hX.2.2
  have hb7 : S 7 0 ≤ 8 := hG.f 7 (mx := 8) (by decide)
  have hb11 : S 11 0 ≤ 20 := hG.f 11 (mx := 20) (by decide)
  have hb18 : S 18 0 ≤ 40 := hG.f 18 (mx := 40) (by decide)
  have hI : XX cA ad S d0 d0 := XX.start hM
  have hb1 : S 1 0 ≤ 4 := hG.f 1 (mx := 4) (by decide)
  have hb19 : S 19 0 ≤ 399 := hG.f 19 (mx := 399) (by decide)
  have hb22 : S 22 0 ≤ 64 := hG.f 22 (mx := 64) (by decide)
  have hb25 : S 25 0 ≤ 4 := hG.f 25 (mx := 4) (by decide)
  have hb30 : S 30 0 ≤ 10 := hG.f 30 (mx := 10) (by decide)
  have hb32 : S 32 0 ≤ 64 := hG.f 32 (mx := 64) (by decide)
  refine lv_aload_n hx hb dX9_best_0 rfl (lv_at hl 0 rfl) ?_
  refine lv_iload_n hx hb dX9_best_1 rfl (lv_at hl 1 rfl) ?_
  refine o_callq (o_runV (As := [.int bi]) (rest := []) ⟨hx, hb, hml, hown, hu⟩ (c_X9_bridgeOf l D cA B0 ad hal S d0 hI.1.1 bi) (gV_X9_297 (fun _ h => h)) (n0 := 1) rfl (by decide +kernel) rfl ⟨Nat.le_of_ble_eq_true rfl, Nat.le_of_ble_eq_true rfl⟩ (o_recv hK hW (hA.o (k := 0) rfl) (kX_0 _ _ _ _) rfl) hK hW hB hS hl.1 rfl (lv_room (Nat.le_of_ble_eq_true rfl)) ⟨Nat.zero_le _, Nat.zero_le _⟩ dX9_best_2) hS (fun r_2 d_1 q_3 H locs hW hS => ?_)
  obtain ⟨rfl, rfl⟩ := q_3
  cases o_4 : ix bi (S 25 0) with
  | false =>
    refine W.eq (g2 := F0 m 5 ls [.null]) rfl ?_
    refine lv_astoreN (lv' := [(5, .null), (0, .ref (ad.1 0 0)), (1, .int bi), (2, .int fr), (3, .int to), (4, .int wi)]) hx hb dX9_best_5 hl (by decide) rfl (fun ls hl => ?_)
    refine lv_aloadN hx hb dX9_best_7 (lv_at hl 0 rfl) ?_
    refine lv_ifnullN (tgt := 32) hx hb dX9_best_9 (by decide) ?_
    refine lv_iconst (v := -1) hx hb dX9_best_32 (by decide) ?_
    exact o_iret hx hb hr hlocks hW hS (⟨by simp only [aBest, o_4, eq_self, ↓reduceIte, Bool.false_eq_true], by simp only [nBest, rBest, o_4, eq_self, ↓reduceIte, Bool.false_eq_true]; exact hI.pub hR⟩) dX9_best_33
  | true =>
    obtain ⟨bin, hbin, rfl⟩ := ix_t o_4 (by omega)
    refine W.eq (g2 := F0 m 5 ls [.ref (ad.1 9 bin)]) (by rw [if_pos rfl, nx_nI (by omega)]; rfl) ?_
    refine lv_astore (lv' := [(5, .ref (ad.1 9 bin)), (0, .ref (ad.1 0 0)), (1, .int (nI bin)), (2, .int fr), (3, .int to), (4, .int wi)]) hx hb dX9_best_5 hl (by decide) rfl (fun ls hl => ?_)
    refine lv_aload hx hb dX9_best_7 (lv_at hl 0 rfl) ?_
    refine lv_ifnull hx hb dX9_best_9 ?_
    refine lv_iload_n hx hb dX9_best_12 rfl (lv_at hl 3 rfl) ?_
    refine lv_iload_n hx hb dX9_best_13 rfl (lv_at hl 4 rfl) ?_
    refine o_calli (o_runS (As := [.int fr, .int to]) (rest := []) ⟨hx, hb, hml, hown, hu⟩ (c_X9_isRun l D cA B0 ad hal d0 fr to ) (gS_X9_305 (fun _ h => h)) (n0 := 2) rfl (by decide +kernel) rfl ⟨Nat.le_of_ble_eq_true rfl, Nat.le_of_ble_eq_true rfl⟩ hK hW hB hS hl.1 rfl (lv_room (Nat.le_of_ble_eq_true rfl)) ⟨Nat.zero_le _, Nat.zero_le _⟩ dX9_best_14) hS (fun r_6 d_5 q_7 H locs hW hS => ?_)
    obtain ⟨rfl, rfl⟩ := q_7
    refine lv_if_eq (tgt := 32) hx hb dX9_best_17 (by decide) (fun c_p => ?_) (fun c_p => ?_)
    · refine lv_iconst (v := -1) hx hb dX9_best_32 (by decide) ?_
      exact o_iret hx hb hr hlocks hW hS (⟨by simp only [aBest, ix_nI hbin (by omega), nx_nI (j := bin) (by omega), bI_z c_p, eq_self, ↓reduceIte, Bool.false_eq_true], by simp only [nBest, rBest, ix_nI hbin (by omega), nx_nI (j := bin) (by omega), bI_z c_p, eq_self, ↓reduceIte, Bool.false_eq_true]; exact hI.pub hR⟩) dX9_best_33
    · have hspn := bI_n c_p
      obtain ⟨frn, ton, hfr, hft, hto, hsp6, rfl, rfl⟩ := spn_t hspn
      refine lv_iload hx hb dX9_best_20 (lv_at hl 5 rfl) ?_
      refine n_iconst (v := 0) hx hb dX9_best_22 (by decide) ?_
      refine n_sipush (v := 9999) hx hb dX9_best_23 (by decide) ?_
      refine o_calli (o_runS (As := [.int wi, .int (nI 0), .int (nI 9999)]) (rest := []) ⟨hx, hb, hml, hown, hu⟩ (c_X9_within l D cA B0 ad hal d0 wi (nI 0) (nI 9999)) (gS_X9_85 (fun _ h => h)) (n0 := 3) rfl (by decide +kernel) rfl ⟨Nat.le_of_ble_eq_true rfl, Nat.le_of_ble_eq_true rfl⟩ hK hW hB hS hl.1 rfl (lv_room (Nat.le_of_ble_eq_true rfl)) ⟨Nat.zero_le _, Nat.zero_le _⟩ dX9_best_26) hS (fun r_9 d_8 q_10 H locs hW hS => ?_)
      obtain ⟨rfl, rfl⟩ := q_10
      refine n_topi (y := bI (ix wi 10000)) (in_ixc 10000 rfl (by decide)) ?_
      refine lv_if_ne (tgt := 34) hx hb dX9_best_29 (by decide) (fun c_11 => ?_) (fun c_11 => ?_)
      · obtain ⟨win, hwin, rfl⟩ := ix_t (bI_n c_11) (by omega)
        refine lv_aload_n hx hb dX9_best_34 rfl (lv_at hl 1 rfl) ?_
        refine lv_aload hx hb dX9_best_35 (lv_at hl 0 rfl) ?_
        refine lv_iload_n hx hb dX9_best_37 rfl (lv_at hl 3 rfl) ?_
        refine lv_iload_n hx hb dX9_best_38 rfl (lv_at hl 4 rfl) ?_
        refine o_callv (o_runV (As := [.ref (ad.1 9 bin), .int (nI frn), .int (nI ton)]) (rest := []) ⟨hx, hb, hml, hown, hu⟩ (c_X9_watchDays l D cA B0 ad hal S d0 hI.1 bin frn ton (by omega) (by omega) (by omega) (by omega)) (gV_X9_309 (fun _ h => h)) (n0 := 3) rfl (by decide +kernel) rfl ⟨Nat.le_of_ble_eq_true rfl, Nat.le_of_ble_eq_true rfl⟩ (o_recv hK hW (hA.o (k := 0) rfl) (kX_0 _ _ _ _) rfl) hK hW hB hS hl.1 rfl (lv_room (Nat.le_of_ble_eq_true rfl)) ⟨Nat.zero_le _, Nat.zero_le _⟩ dX9_best_39) hS (fun d_12 q_14 H locs hW hS => ?_)
        obtain ⟨hq, hWt⟩ := q_14
        have hI := hI.trans hq
        refine n_iconst (v := 0) hx hb dX9_best_42 (by decide) ?_
        refine lv_istore (lv' := [(6, .int (nI 0)), (5, .ref (ad.1 9 bin)), (0, .ref (ad.1 0 0)), (1, .int (nI bin)), (2, .int (nI frn)), (3, .int (nI ton)), (4, .int (nI win))]) hx hb dX9_best_43 hl (by decide) rfl (fun ls hl => ?_)
        refine n_iconst (v := 0) hx hb dX9_best_45 (by decide) ?_
        refine lv_istore (lv' := [(7, .int (nI 0)), (6, .int (nI 0)), (5, .ref (ad.1 9 bin)), (0, .ref (ad.1 0 0)), (1, .int (nI bin)), (2, .int (nI frn)), (3, .int (nI ton)), (4, .int (nI win))]) hx hb dX9_best_46 hl (by decide) rfl (fun ls hl => ?_)
        refine n_iconst (v := 0) hx hb dX9_best_48 (by decide) ?_
        refine lv_istore (lv' := [(8, .int (nI 0)), (7, .int (nI 0)), (6, .int (nI 0)), (5, .ref (ad.1 9 bin)), (0, .ref (ad.1 0 0)), (1, .int (nI bin)), (2, .int (nI frn)), (3, .int (nI ton)), (4, .int (nI win))]) hx hb dX9_best_49 hl (by decide) rfl (fun ls hl => ?_)
        have lp51 : ∀ (n : Nat) (bs : Nat) (le : Nat) (pv : Nat) (i1 : Nat) (H : Heap) (locs : List Loc) (ls : Array Slot), 11 - i1 < n → (i1 ≤ 11) → (pv = 100 * i1) → (BS S bin frn ton win i1 bs le) → oW D cA B0 ad d_12 H → va_S (oA B0) s.heap H locs → lv_has ls 10 [(0, .ref (ad.1 0 0)), (1, .int (nI bin)), (2, .int (nI frn)), (3, .int (nI ton)), (4, .int (nI win)), (5, .ref (ad.1 9 bin)), (6, .int (nI bs)), (7, .int (nI le)), (8, .int (nI pv))] → W p l e (oR 8 0 0) s m ([.ref (ad.1 0 0), .int (nI bin), .int (nI frn), .int (nI ton), .int (nI win)] : List Value).toArray below meth c H locs 0 0 (MQ below (oQi D cA B0 ad (fun r d1 => r = aBest S (nI bin) (nI frn) (nI ton) (nI win) ∧ PX cA ad (nBest S (nI bin) (nI frn) (nI ton) (nI win)) (rBest S sr (nI bin) (nI frn) (nI ton) (nI win)) d0 d1)) ([.ref (ad.1 0 0), .int (nI bin), .int (nI frn), .int (nI ton), .int (nI win)] : List Value).toArray s 0 0 (oA B0)) (F0 m 51 ls []) := by
          intro n
          induction n with
          | zero => intro bs le pv i1 H locs ls hmu; exact absurd hmu (Nat.not_lt_zero _)
          | succ n ih_lp51 =>
            intro bs le pv i1 H locs ls hmu hi1 hpv hBS hW hS hl
            have hbl := hBS.le hG (by omega) (by omega) (by omega)
            refine lv_iload hx hb dX9_best_51 (lv_at hl 8 rfl) ?_
            refine n_sipush (v := 1000) hx hb dX9_best_53 (by decide) ?_
            refine n_icmp_gt (tgt := 115) hx hb (by omega) (by omega) dX9_best_56 (by decide) (fun c_15 => ?_) (fun c_15 => ?_)
            · have hi11 : i1 = 11 := by omega
              subst hi11
              have hbe := hBS.end
              have hSp := hR.2.fr hI.2
              have hI := hI.r
              refine lv_aload_n hx hb dX9_best_115 rfl (lv_at hl 0 rfl) ?_
              refine x_gr hx hb hu in_X9 hown hK hW (hA.o (k := 0) rfl) (kX_0 _ _ _ _) rfl 6 (by decide) uF_X9_37 (hA.f 6 (k := 11) (i := 0) (by decide) (hA.o (k := 11) rfl)) dX9_best_116 ?_
              refine o_callv (o_runV (As := []) (rest := []) ⟨hx, hb, hml, hown, hu⟩ (c_X3_clear l D cA B0 ad hal S d_12 hI.1.1) (gV_X9_174 (fun _ h => h)) (n0 := 0) rfl (by decide +kernel) rfl ⟨Nat.le_of_ble_eq_true rfl, Nat.le_of_ble_eq_true rfl⟩ (o_recv hK hW (hA.o (k := 11) rfl) (kX_11 _ _ _ _) rfl) hK hW hB hS hl.1 rfl (lv_room (Nat.le_of_ble_eq_true rfl)) ⟨Nat.zero_le _, Nat.zero_le _⟩ dX9_best_119) hS (fun d_16 q_18 H locs hW hS => ?_)
              subst q_18
              have hI := hI.k12 11 0 1 (nI 0) (by decide)
              have hT := TR.zero (fun _ => 0) d_12
              have hSp := hSp.k 11 0 1 (nI 0) (by decide)
              refine lv_aload_n hx hb dX9_best_122 rfl (lv_at hl 0 rfl) ?_
              refine x_gr hx hb hu in_X9 hown hK hW (hA.o (k := 0) rfl) (kX_0 _ _ _ _) rfl 6 (by decide) uF_X9_37 (hA.f 6 (k := 11) (i := 0) (by decide) (hA.o (k := 11) rfl)) dX9_best_123 ?_
              refine lv_iload hx hb dX9_best_126 (lv_at hl 7 rfl) ?_
              refine o_callv (o_runV (As := [.int (nI le)]) (rest := []) ⟨hx, hb, hml, hown, hu⟩ (c_X3_put l D cA B0 ad hal S (uI d_12 11 0 1 (nI 0)) hI.1.1 0 (nI le) (by omega) hT.1) (gV_X9_177 (fun _ h => h)) (n0 := 1) rfl (by decide +kernel) rfl ⟨Nat.le_of_ble_eq_true rfl, Nat.le_of_ble_eq_true rfl⟩ (o_recv hK hW (hA.o (k := 11) rfl) (kX_11 _ _ _ _) rfl) hK hW hB hS hl.1 rfl (lv_room (Nat.le_of_ble_eq_true rfl)) ⟨Nat.zero_le _, Nat.zero_le _⟩ dX9_best_128) hS (fun d_19 q_21 H locs hW hS => ?_)
              subst q_21
              have hI := hI.k12 12 0 0 (nI le) (by decide)
              have hI := hI.k12 11 0 1 (nI (0 + 1)) (by decide)
              have hT := hT.tell (nI le)
              have hSp := (hSp.k 12 0 0 (nI le) (by decide)).k 11 0 1 (nI (0 + 1)) (by decide)
              refine lv_iload hx hb dX9_best_131 (lv_at hl 6 rfl) ?_
              exact o_iret hx hb hr hlocks hW hS (⟨by simp only [aBest, ix_nI hbin (by omega), nx_nI (j := bin) (by omega), hspn, nx_nI (j := frn) (by omega), nx_nI (j := ton) (by omega), ix_nI hwin (by omega), nx_nI (j := win) (by omega), eq_self, ↓reduceIte, Bool.false_eq_true]; rw [hbe], by simp only [nBest, rBest, ix_nI hbin (by omega), nx_nI (j := bin) (by omega), hspn, nx_nI (j := frn) (by omega), nx_nI (j := ton) (by omega), ix_nI hwin (by omega), nx_nI (j := win) (by omega), eq_self, ↓reduceIte, Bool.false_eq_true]; rw [hbe]; exact hI.end (by omega) hT hSp⟩) dX9_best_133
            · refine lv_aload hx hb dX9_best_59 (lv_at hl 5 rfl) ?_
              refine x_gi hx hb hu in_X1 hown hK hW (hA.brid (by omega)) (kX_9 _ _ _ _) rfl 1 (by decide) uF_X9_322 dX9_best_61 ?_
              refine n_topi (y := nI (S 24 bin)) ((hI.1.1.2.1.brid (by omega)).2) ?_
              have b_22 : S 24 bin ≤ 999 := hG.a 24 bin (n := 4) (mx := 999) (by decide) (by omega)
              refine lv_aload_n hx hb dX9_best_64 rfl (lv_at hl 0 rfl) ?_
              refine x_gr hx hb hu in_X9 hown hK hW (hA.o (k := 0) rfl) (kX_0 _ _ _ _) rfl 9 (by decide) uF_X9_58 (hA.f 9 (k := 22) (i := 0) (by decide) (hA.o (k := 22) rfl)) dX9_best_65 ?_
              refine lv_iload hx hb dX9_best_68 (lv_at hl 8 rfl) ?_
              refine o_calli (o_runV (As := [.int (nI pv)]) (rest := [.int (nI (S 24 bin))]) ⟨hx, hb, hml, hown, hu⟩ (c_X8_shutDays l D cA B0 ad hal S d_12 hI.1.1 pv bin frn (ton + 1 - frn) hWt (by omega) (by omega)) (gV_X9_313 (fun _ h => h)) (n0 := 1) rfl (by decide +kernel) rfl ⟨Nat.le_of_ble_eq_true rfl, Nat.le_of_ble_eq_true rfl⟩ (o_recv hK hW (hA.o (k := 22) rfl) (kX_22 _ _ _ _) rfl) hK hW hB hS hl.1 rfl (lv_room (Nat.le_of_ble_eq_true rfl)) ⟨Nat.zero_le _, Nat.zero_le _⟩ dX9_best_70) hS (fun r_24 d_23 q_25 H locs hW hS => ?_)
              obtain ⟨rfl, rfl⟩ := q_25
              refine n_imul hx hb dX9_best_73 ?_
              refine lv_iload hx hb dX9_best_74 (lv_at hl 4 rfl) ?_
              refine lv_aload_n hx hb dX9_best_76 rfl (lv_at hl 0 rfl) ?_
              refine x_gr hx hb hu in_X9 hown hK hW (hA.o (k := 0) rfl) (kX_0 _ _ _ _) rfl 9 (by decide) uF_X9_58 (hA.f 9 (k := 22) (i := 0) (by decide) (hA.o (k := 22) rfl)) dX9_best_77 ?_
              refine lv_iload hx hb dX9_best_80 (lv_at hl 8 rfl) ?_
              refine o_calli (o_runV (As := [.int (nI pv)]) (rest := [.int (nI win), .int (nI ((S 24 bin) * ((gdL S bin pv frn (ton + 1 - frn)).1)))]) ⟨hx, hb, hml, hown, hu⟩ (c_X8_lateDays l D cA B0 ad hal S d_12 hI.1.1 pv bin frn (ton + 1 - frn) hWt (by omega) (by omega)) (gV_X9_316 (fun _ h => h)) (n0 := 1) rfl (by decide +kernel) rfl ⟨Nat.le_of_ble_eq_true rfl, Nat.le_of_ble_eq_true rfl⟩ (o_recv hK hW (hA.o (k := 22) rfl) (kX_22 _ _ _ _) rfl) hK hW hB hS hl.1 rfl (lv_room (Nat.le_of_ble_eq_true rfl)) ⟨Nat.zero_le _, Nat.zero_le _⟩ dX9_best_82) hS (fun r_27 d_26 q_28 H locs hW hS => ?_)
              obtain ⟨rfl, rfl⟩ := q_28
              refine n_imul hx hb dX9_best_85 ?_
              refine n_iadd hx hb dX9_best_86 ?_
              refine n_top (b := btS S bin frn ton win (10 - i1)) (by unfold btS gdR; rw [show 1000 - 100 * (10 - i1) = pv by omega]) ?_
              have hsl := btS_le hG (b := bin) (a := frn) (z := ton) (w := win) (j := 10 - i1) (by omega) (by omega) (by omega)
              refine lv_istore (lv' := [(9, .int (nI (btS S bin frn ton win (10 - i1)))), (0, .ref (ad.1 0 0)), (1, .int (nI bin)), (2, .int (nI frn)), (3, .int (nI ton)), (4, .int (nI win)), (5, .ref (ad.1 9 bin)), (6, .int (nI bs)), (7, .int (nI le)), (8, .int (nI pv))]) hx hb dX9_best_87 hl (by decide) rfl (fun ls hl => ?_)
              refine lv_iload hx hb dX9_best_89 (lv_at hl 9 rfl) ?_
              refine n_if_eq (tgt := 101) hx hb (by omega) dX9_best_91 (by decide) (fun c_0 => ?_) (fun c_0 => ?_)
              · have hBS := hBS.yes (Or.inl (by omega))
                refine lv_iload hx hb dX9_best_101 (lv_at hl 0 rfl) ?_
                refine lv_istore (lv' := [(7, .int (nI (btS S bin frn ton win (10 - i1)))), (9, .int (nI (btS S bin frn ton win (10 - i1)))), (0, .ref (ad.1 0 0)), (1, .int (nI bin)), (2, .int (nI frn)), (3, .int (nI ton)), (4, .int (nI win)), (5, .ref (ad.1 9 bin)), (6, .int (nI bs)), (8, .int (nI pv))]) hx hb dX9_best_103 hl (by decide) rfl (fun ls hl => ?_)
                refine lv_iload hx hb dX9_best_105 (lv_at hl 9 rfl) ?_
                refine lv_istore (lv' := [(6, .int (nI pv)), (7, .int (nI (btS S bin frn ton win (10 - i1)))), (9, .int (nI (btS S bin frn ton win (10 - i1)))), (0, .ref (ad.1 0 0)), (1, .int (nI bin)), (2, .int (nI frn)), (3, .int (nI ton)), (4, .int (nI win)), (5, .ref (ad.1 9 bin)), (8, .int (nI pv))]) hx hb dX9_best_107 hl (by decide) rfl (fun ls hl => ?_)
                refine n_iinc (q := 100) (lv' := [(8, .int (nI (pv + 100))), (6, .int (nI pv)), (7, .int (nI (btS S bin frn ton win (10 - i1)))), (9, .int (nI (btS S bin frn ton win (10 - i1)))), (0, .ref (ad.1 0 0)), (1, .int (nI bin)), (2, .int (nI frn)), (3, .int (nI ton)), (4, .int (nI win)), (5, .ref (ad.1 9 bin))]) hx hb dX9_best_109 hl (k := 9) rfl (by decide) (by decide) rfl (fun ls hl => ?_)
                refine lv_goto (tgt := 51) hx hb dX9_best_112 (by decide) ?_
                exact ih_lp51 pv (btS S bin frn ton win (10 - i1)) (pv + 100) (i1 + 1) _ _ ls (by omega) (by omega) (by omega) (by first | exact hBS | (rw [hpv]; exact hBS)) hW hS (lv_sub hl [4, 5, 6, 7, 8, 9, 1, 2, 0] rfl)
              · refine lv_iload hx hb dX9_best_94 (lv_at hl 0 rfl) ?_
                refine lv_iload hx hb dX9_best_96 (lv_at hl 8 rfl) ?_
                refine n_icmp_gt (tgt := 109) hx hb (by omega) (by omega) dX9_best_98 (by decide) (fun c_l => ?_) (fun c_l => ?_)
                · have hBS := hBS.no (by omega) (by omega)
                  refine n_iinc (q := 100) (lv' := [(8, .int (nI (pv + 100))), (9, .int (nI (btS S bin frn ton win (10 - i1)))), (0, .ref (ad.1 0 0)), (1, .int (nI bin)), (2, .int (nI frn)), (3, .int (nI ton)), (4, .int (nI win)), (5, .ref (ad.1 9 bin)), (6, .int (nI bs)), (7, .int (nI le))]) hx hb dX9_best_109 hl (k := 9) rfl (by decide) (by decide) rfl (fun ls hl => ?_)
                  refine lv_goto (tgt := 51) hx hb dX9_best_112 (by decide) ?_
                  exact ih_lp51 bs le (pv + 100) (i1 + 1) _ _ ls (by omega) (by omega) (by omega) (by first | exact hBS | (rw [hpv]; exact hBS)) hW hS (lv_sub hl [2, 3, 4, 5, 6, 7, 8, 9, 0] rfl)
                · have hBS := hBS.yes (Or.inr (by omega))
                  refine lv_iload hx hb dX9_best_101 (lv_at hl 0 rfl) ?_
                  refine lv_istore (lv' := [(7, .int (nI (btS S bin frn ton win (10 - i1)))), (9, .int (nI (btS S bin frn ton win (10 - i1)))), (0, .ref (ad.1 0 0)), (1, .int (nI bin)), (2, .int (nI frn)), (3, .int (nI ton)), (4, .int (nI win)), (5, .ref (ad.1 9 bin)), (6, .int (nI bs)), (8, .int (nI pv))]) hx hb dX9_best_103 hl (by decide) rfl (fun ls hl => ?_)
                  refine lv_iload hx hb dX9_best_105 (lv_at hl 9 rfl) ?_
                  refine lv_istore (lv' := [(6, .int (nI pv)), (7, .int (nI (btS S bin frn ton win (10 - i1)))), (9, .int (nI (btS S bin frn ton win (10 - i1)))), (0, .ref (ad.1 0 0)), (1, .int (nI bin)), (2, .int (nI frn)), (3, .int (nI ton)), (4, .int (nI win)), (5, .ref (ad.1 9 bin)), (8, .int (nI pv))]) hx hb dX9_best_107 hl (by decide) rfl (fun ls hl => ?_)
                  refine n_iinc (q := 100) (lv' := [(8, .int (nI (pv + 100))), (6, .int (nI pv)), (7, .int (nI (btS S bin frn ton win (10 - i1)))), (9, .int (nI (btS S bin frn ton win (10 - i1)))), (0, .ref (ad.1 0 0)), (1, .int (nI bin)), (2, .int (nI frn)), (3, .int (nI ton)), (4, .int (nI win)), (5, .ref (ad.1 9 bin))]) hx hb dX9_best_109 hl (k := 9) rfl (by decide) (by decide) rfl (fun ls hl => ?_)
                  refine lv_goto (tgt := 51) hx hb dX9_best_112 (by decide) ?_
                  exact ih_lp51 pv (btS S bin frn ton win (10 - i1)) (pv + 100) (i1 + 1) _ _ ls (by omega) (by omega) (by omega) (by first | exact hBS | (rw [hpv]; exact hBS)) hW hS (lv_sub hl [4, 5, 6, 7, 8, 9, 1, 2, 0] rfl)
        exact lp51 (12) 0 0 0 0 _ _ ls (by omega) (by omega) rfl (Or.inl ⟨rfl, rfl, rfl⟩) hW hS (lv_sub hl [4, 5, 6, 7, 8, 3, 2, 1, 0] rfl)
      · refine lv_iconst (v := -1) hx hb dX9_best_32 (by decide) ?_
        exact o_iret hx hb hr hlocks hW hS (⟨by simp only [aBest, ix_nI hbin (by omega), nx_nI (j := bin) (by omega), hspn, nx_nI (j := frn) (by omega), nx_nI (j := ton) (by omega), bI_z c_11, eq_self, ↓reduceIte, Bool.false_eq_true], by simp only [nBest, rBest, ix_nI hbin (by omega), nx_nI (j := bin) (by omega), hspn, nx_nI (j := frn) (by omega), nx_nI (j := ton) (by omega), bI_z c_11, eq_self, ↓reduceIte, Bool.false_eq_true]; exact hI.pub hR⟩) dX9_best_33
