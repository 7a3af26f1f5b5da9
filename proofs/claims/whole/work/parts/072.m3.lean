set_option maxHeartbeats 400000 in
set_option maxRecDepth 100000 in
theorem c_X10_has (l : Launch) (D : va_G) (cA : Nat → ClassId) (B0 : Nat) (ad : kA) (hal : mAl ad) (d0 : kD) (x : Int64) (mm : Nat)  : oM l yX10_has wX10_has 1 0 0 D cA B0 ad d0 ([.long x, .int (nI mm)] : List Value) (oQi D cA B0 ad (fun r d1 => r = bI (hasB x mm) ∧ d0 = d1)) := by
  refine o_ofW (cc := cX10_has) (maxL := 3) (ret := some .boolean) (by decide) rfl (Nat.le_of_ble_eq_true rfl) ?_
  intro p e s m below meth c hx hb hr hml hts hown hlocks hnm hK hW hB hS ls hl
  have hu : ∀ w ∈ UW, w.before _ s = true := fun w h => hts w (uw_c w h)
  have hl : lv_has ls 3 [(0, .long x), (2, .int (nI mm))] := hl
  refine lv_lload_n hx hb dX10_has_0 rfl (lv_at hl 0 rfl) ?_
  refine lv_iload_n hx hb dX10_has_1 rfl (lv_at hl 1 rfl) ?_
  refine lv_lushr (v := lsr x mm) hx hb dX10_has_2 rfl ?_
  refine lv_lconst (v := 1) hx hb dX10_has_3 (by decide) ?_
  refine lv_land hx hb dX10_has_4 ?_
  refine lv_lconst (v := 1) hx hb dX10_has_5 (by decide) ?_
  refine W.lcmp hx hb dX10_has_6 ?_
  refine lv_if_ne (tgt := 14) hx hb dX10_has_7 (by decide) (fun c_1 => ?_) (fun c_1 => ?_)
  · refine n_iconst (v := 0) hx hb dX10_has_14 (by decide) ?_
    exact o_zret hx hb hr hlocks (by first | rfl | exact z_bI _ | (split <;> first | rfl | (split <;> rfl))) hW hS (⟨by unfold hasB; first | (rw [decide_eq_true ((lg_cmp_eq _ _).mp c_1)]; rfl) | (rw [decide_eq_false (fun q => c_1 ((lg_cmp_eq _ _).mpr q))]; rfl), rfl⟩) dX10_has_15
  · refine n_iconst (v := 1) hx hb dX10_has_10 (by decide) ?_
    refine lv_goto (tgt := 15) hx hb dX10_has_11 (by decide) ?_
    exact o_zret hx hb hr hlocks (by first | rfl | exact z_bI _ | (split <;> first | rfl | (split <;> rfl))) hW hS (⟨by unfold hasB; first | (rw [decide_eq_true ((lg_cmp_eq _ _).mp c_1)]; rfl) | (rw [decide_eq_false (fun q => c_1 ((lg_cmp_eq _ _).mpr q))]; rfl), rfl⟩) dX10_has_15

set_option maxHeartbeats 400000 in
set_option maxRecDepth 100000 in
theorem c_X10_barsOf (l : Launch) (D : va_G) (cA : Nat → ClassId) (B0 : Nat) (ad : kA) (hal : mAl ad) (S : sS) (d0 : kD) (hM : InvM S d0) (ll : Nat) (hl0 : ll < S 18 0) : oM l yX10_barsOf wX10_barsOf 5 0 0 D cA B0 ad d0 ([.ref (ad.1 40 0), .int (nI ll)] : List Value) (oQl D cA B0 ad (fun r d1 => r = sBars S ll ∧ MI S d0 d1)) := by
  refine o_ofW (cc := cX10_barsOf) (maxL := 5) (ret := some .long) (by decide) rfl (Nat.le_of_ble_eq_true rfl) ?_
  intro p e s m below meth c hx hb hr hml hts hown hlocks hnm hK hW hB hS ls hl
  have hu : ∀ w ∈ UW, w.before _ s = true := fun w h => hts w (uw_c w h)
  have hl : lv_has ls 5 [(0, .ref (ad.1 40 0)), (1, .int (nI ll))] := hl
  have hI : MI S d0 d0 := MI.start hM
  have hG : sG S := hM.2.1
  have hb7 : S 7 0 ≤ 8 := hG.f 7 (mx := 8) (by decide)
  have hb18 : S 18 0 ≤ 40 := hG.f 18 (mx := 40) (by decide)
  have hlp : S 12 ll < S 7 0 := hG.2.2.2.2.1 ll hl0
  refine lv_aload_n hx hb dX10_barsOf_0 rfl (lv_at hl 0 rfl) ?_
  refine mo_ga hx hb hu hown hK hal hW 38 (by decide) uF_X10_101 dX10_barsOf_1 ?_
  refine lv_iload_n hx hb dX10_barsOf_4 rfl (lv_at hl 1 rfl) ?_
  refine mo_zl hx hb hK hal hW 38 (n := 40) (by decide) (by omega) dX10_barsOf_5 ?_
  refine lv_if_eq (tgt := 16) hx hb dX10_barsOf_6 (by decide) (fun c_1 => ?_) (fun c_1 => ?_)
  · refine lv_lconst (v := 0) hx hb dX10_barsOf_16 (by decide) ?_
    refine lv_lstore_n (lv' := [(2, .long 0), (0, .ref (ad.1 40 0)), (1, .int (nI ll))]) hx hb dX10_barsOf_17 rfl hl (by decide) rfl (fun ls hl => ?_)
    refine n_iconst (v := 0) hx hb dX10_barsOf_18 (by decide) ?_
    refine lv_istore (lv' := [(4, .int (nI 0)), (2, .long 0), (0, .ref (ad.1 40 0)), (1, .int (nI ll))]) hx hb dX10_barsOf_19 hl (by decide) rfl (fun ls hl => ?_)
    have lp21 : ∀ (n : Nat) (bt : Int64) (k : Nat)  (d : kD) (H : Heap) (locs : List Loc) (ls : Array Slot), 64 - k < n → (k ≤ 64) → (MI S d0 d) → (bt = sBits (sBar S ll) k) → oW D cA B0 ad d H → va_S (oA B0) s.heap H locs → lv_has ls 5 [(0, .ref (ad.1 40 0)), (1, .int (nI ll)), (2, .long bt), (4, .int (nI k))] → W p l e (oR 5 0 0) s m ([.ref (ad.1 40 0), .int (nI ll)] : List Value).toArray below meth c H locs 0 0 (MQ below (oQl D cA B0 ad (fun r d1 => r = sBars S ll ∧ MI S d0 d1)) ([.ref (ad.1 40 0), .int (nI ll)] : List Value).toArray s 0 0 (oA B0)) (F0 m 21 ls []) := by
      intro n
      induction n with
      | zero => intro bt k  d H locs ls hmu; exact absurd hmu (Nat.not_lt_zero _)
      | succ n ih_lp21 =>
        intro bt k  d H locs ls hmu hk hI hbt hW hS hl
        refine lv_iload hx hb dX10_barsOf_21 (lv_at hl 3 rfl) ?_
        refine n_bipush (v := 64) hx hb dX10_barsOf_23 (by decide) ?_
        refine n_icmp_ge (tgt := 78) hx hb (by omega) (by omega) dX10_barsOf_25 (by decide) (fun c_1 => ?_) (fun c_1 => ?_)
        · refine lv_aload_n hx hb dX10_barsOf_78 rfl (lv_at hl 0 rfl) ?_
          refine mo_ga hx hb hu hown hK hal hW 38 (by decide) uF_X10_101 dX10_barsOf_79 ?_
          refine lv_iload_n hx hb dX10_barsOf_82 rfl (lv_at hl 1 rfl) ?_
          refine n_iconst (v := 1) hx hb dX10_barsOf_83 (by decide) ?_
          refine mo_zs hx hb hK hal hW hS 38 (n := 40) (by decide) (by omega) (by decide) dX10_barsOf_84 (fun H locs hW hS => ?_)
          refine lv_aload_n hx hb dX10_barsOf_85 rfl (lv_at hl 0 rfl) ?_
          refine mo_ga hx hb hu hown hK hal hW 37 (by decide) uF_X10_97 dX10_barsOf_86 ?_
          refine lv_iload_n hx hb dX10_barsOf_89 rfl (lv_at hl 1 rfl) ?_
          refine lv_lload_n hx hb dX10_barsOf_90 rfl (lv_at hl 2 rfl) ?_
          refine mo_ls hx hb hK hal hW hS 37 (n := 40) (by decide) (by omega) dX10_barsOf_91 (fun H locs hW hS => ?_)
          refine lv_lload_n hx hb dX10_barsOf_92 rfl (lv_at hl 2 rfl) ?_
          exact o_lret hx hb hr hlocks hW hS (⟨by rw [hbt, show k = 64 by omega]; rfl, by rw [hbt, show k = 64 by omega]; exact hI.bar hl0 _⟩) dX10_barsOf_93
        · refine lv_aload_n hx hb dX10_barsOf_28 rfl (lv_at hl 0 rfl) ?_
          refine lv_aload_n hx hb dX10_barsOf_29 rfl (lv_at hl 0 rfl) ?_
          refine mo_ga hx hb hu hown hK hal hW 12 (by decide) uF_X10_37 dX10_barsOf_30 ?_
          refine lv_iload_n hx hb dX10_barsOf_33 rfl (lv_at hl 1 rfl) ?_
          refine mo_ld hx hb hK hal hW hI.dS 12 (n := 40) (by decide) (by omega) dX10_barsOf_34 ?_
          have b_2 : S 12 ll ≤ 7 := hG.a 12 ll (n := 40) (mx := 7) (by decide) (by omega)
          refine lv_iload hx hb dX10_barsOf_35 (lv_at hl 3 rfl) ?_
          refine lv_aload_n hx hb dX10_barsOf_37 rfl (lv_at hl 0 rfl) ?_
          refine mo_ga hx hb hu hown hK hal hW 13 (by decide) uF_X10_40 dX10_barsOf_38 ?_
          refine lv_iload_n hx hb dX10_barsOf_41 rfl (lv_at hl 1 rfl) ?_
          refine mo_ld hx hb hK hal hW hI.dS 13 (n := 40) (by decide) (by omega) dX10_barsOf_42 ?_
          have b_3 : S 13 ll ≤ 399 := hG.a 13 ll (n := 40) (mx := 399) (by decide) (by omega)
          refine o_calli (o_runV (As := [.int (nI (S 12 ll)), .int (nI k), .int (nI (S 13 ll))]) (rest := []) ⟨hx, hb, hml, hown, hu⟩ (c_X10_holeOf l D cA B0 ad hal S d hI.1 (S 12 ll) k (S 13 ll) (by omega) (by omega) (by omega)) (gV_X10_165 (fun _ h => h)) (n0 := 3) rfl (by decide +kernel) rfl ⟨Nat.le_of_ble_eq_true rfl, Nat.le_of_ble_eq_true rfl⟩ (o_recv hK hW hal.1 (kC_M _ _ _) rfl) hK hW hB hS hl.1 rfl (lv_room (Nat.le_of_ble_eq_true rfl)) ⟨Nat.zero_le _, Nat.zero_le _⟩ dX10_barsOf_43) hS (fun r_5 d_4 q_6 H locs hW hS => ?_)
          obtain ⟨rfl, hq⟩ := q_6
          have hI := hI.trans hq
          have hho : sHole S (S 12 ll) k (S 13 ll) ≤ 200 := (sHE_le hG (by omega) _).1
          refine lv_aload_n hx hb dX10_barsOf_46 rfl (lv_at hl 0 rfl) ?_
          refine mo_ga hx hb hu hown hK hal hW 14 (by decide) uF_X10_43 dX10_barsOf_47 ?_
          refine lv_iload_n hx hb dX10_barsOf_50 rfl (lv_at hl 1 rfl) ?_
          refine mo_ld hx hb hK hal hW hI.dS 14 (n := 40) (by decide) (by omega) dX10_barsOf_51 ?_
          have b_7 : S 14 ll ≤ 200 := hG.a 14 ll (n := 40) (mx := 200) (by decide) (by omega)
          refine lv_isub hx hb dX10_barsOf_52 ?_
          refine va_mabs hx hb (hml.trans hl.1.symm) hown (hu _ uM_X10_171) (hu _ uT_J9_abs_0f7a4) (hu _ uI_J9) (hu _ uC_J9_abs_0f7a4) (Nat.le_of_ble_eq_true rfl) (Nat.le_of_ble_eq_true rfl) (Nat.le_of_ble_eq_true rfl) (Nat.le_of_ble_eq_true rfl) dX10_barsOf_53 ?_
          refine n_topi (y := nI (sHole S (S 12 ll) k (S 13 ll) - S 14 ll + (S 14 ll - sHole S (S 12 ll) k (S 13 ll)))) (n_abs (by omega) (by omega)) ?_
          refine lv_aload_n hx hb dX10_barsOf_56 rfl (lv_at hl 0 rfl) ?_
          refine mo_ga hx hb hu hown hK hal hW 15 (by decide) uF_X10_46 dX10_barsOf_57 ?_
          refine lv_iload_n hx hb dX10_barsOf_60 rfl (lv_at hl 1 rfl) ?_
          refine mo_ld hx hb hK hal hW hI.dS 15 (n := 40) (by decide) (by omega) dX10_barsOf_61 ?_
          have b_8 : S 15 ll ≤ 50 := hG.a 15 ll (n := 40) (mx := 50) (by decide) (by omega)
          refine n_icmp_le (tgt := 72) hx hb (by omega) (by omega) dX10_barsOf_62 (by decide) (fun c_2 => ?_) (fun c_2 => ?_)
          · refine n_iinc (q := 1) (lv' := [(4, .int (nI (k + 1))), (0, .ref (ad.1 40 0)), (1, .int (nI ll)), (2, .long bt)]) hx hb dX10_barsOf_72 hl (k := 3) rfl (by decide) (by decide) rfl (fun ls hl => ?_)
            refine lv_goto (tgt := 21) hx hb dX10_barsOf_75 (by decide) ?_
            exact ih_lp21 bt (k + 1) d_4 _ _ ls (by omega) (by omega) hI (by rw [sBits]; first | rw [if_pos (show sBar S ll k = true from decide_eq_true (by omega)), ← hbt] | rw [if_neg (show ¬ sBar S ll k = true from fun q => absurd (of_decide_eq_true q) (by omega)), ← hbt]) hW hS (lv_sub hl [1, 2, 3, 0] rfl)
          · refine lv_lload_n hx hb dX10_barsOf_65 rfl (lv_at hl 2 rfl) ?_
            refine lv_lconst (v := 1) hx hb dX10_barsOf_66 (by decide) ?_
            refine lv_iload hx hb dX10_barsOf_67 (lv_at hl 3 rfl) ?_
            refine lv_lshl (v := lsl 1 k) hx hb dX10_barsOf_69 rfl ?_
            refine lv_lor hx hb dX10_barsOf_70 ?_
            refine lv_lstore_n (lv' := [(2, .long (bt ||| (lsl 1 k))), (0, .ref (ad.1 40 0)), (1, .int (nI ll)), (4, .int (nI k))]) hx hb dX10_barsOf_71 rfl hl (by decide) rfl (fun ls hl => ?_)
            refine n_iinc (q := 1) (lv' := [(4, .int (nI (k + 1))), (2, .long (bt ||| (lsl 1 k))), (0, .ref (ad.1 40 0)), (1, .int (nI ll))]) hx hb dX10_barsOf_72 hl (k := 3) rfl (by decide) (by decide) rfl (fun ls hl => ?_)
            refine lv_goto (tgt := 21) hx hb dX10_barsOf_75 (by decide) ?_
            exact ih_lp21 (bt ||| (lsl 1 k)) (k + 1) d_4 _ _ ls (by omega) (by omega) hI (by rw [sBits]; first | rw [if_pos (show sBar S ll k = true from decide_eq_true (by omega)), ← hbt] | rw [if_neg (show ¬ sBar S ll k = true from fun q => absurd (of_decide_eq_true q) (by omega)), ← hbt]) hW hS (lv_sub hl [2, 3, 1, 0] rfl)
    exact lp21 (65) 0 0 d0 _ _ ls (by omega) (by omega) hI rfl hW hS (lv_sub hl [2, 3, 1, 0] rfl)
  · refine lv_aload_n hx hb dX10_barsOf_9 rfl (lv_at hl 0 rfl) ?_
    refine mo_ga hx hb hu hown hK hal hW 37 (by decide) uF_X10_97 dX10_barsOf_10 ?_
    refine lv_iload_n hx hb dX10_barsOf_13 rfl (lv_at hl 1 rfl) ?_
    refine mo_ll hx hb hK hal hW 37 (n := 40) (by decide) (by omega) dX10_barsOf_14 ?_
    exact o_lret hx hb hr hlocks hW hS (⟨(hI.1.2.2.2 ll (by omega) c_1).2, hI⟩) dX10_barsOf_15

set_option maxHeartbeats 400000 in
set_option maxRecDepth 100000 in
theorem c_X10_bars (l : Launch) (D : va_G) (cA : Nat → ClassId) (B0 : Nat) (ad : kA) (hal : mAl ad) (S : sS) (d0 : kD) (hM : InvM S d0) (ll : Nat) (mm : Nat) (hl0 : ll < S 18 0) : oM l yX10_bars wX10_bars 6 0 0 D cA B0 ad d0 ([.ref (ad.1 40 0), .int (nI ll), .int (nI mm)] : List Value) (oQi D cA B0 ad (fun r d1 => r = bI (hasB (sBars S ll) mm) ∧ MI S d0 d1)) := by
  refine o_ofW (cc := cX10_bars) (maxL := 3) (ret := some .boolean) (by decide) rfl (Nat.le_of_ble_eq_true rfl) ?_
  intro p e s m below meth c hx hb hr hml hts hown hlocks hnm hK hW hB hS ls hl
  have hu : ∀ w ∈ UW, w.before _ s = true := fun w h => hts w (uw_c w h)
  have hl : lv_has ls 3 [(0, .ref (ad.1 40 0)), (1, .int (nI ll)), (2, .int (nI mm))] := hl
  have hI : MI S d0 d0 := MI.start hM
  have hG : sG S := hM.2.1
  have hb7 : S 7 0 ≤ 8 := hG.f 7 (mx := 8) (by decide)
  have hb18 : S 18 0 ≤ 40 := hG.f 18 (mx := 40) (by decide)
  refine lv_aload_n hx hb dX10_bars_0 rfl (lv_at hl 0 rfl) ?_
  refine lv_iload_n hx hb dX10_bars_1 rfl (lv_at hl 1 rfl) ?_
  refine o_calll (o_runV (As := [.int (nI ll)]) (rest := []) ⟨hx, hb, hml, hown, hu⟩ (c_X10_barsOf l D cA B0 ad hal S d0 hI.1 ll (by omega)) (gV_X10_175 (fun _ h => h)) (n0 := 1) rfl (by decide +kernel) rfl ⟨Nat.le_of_ble_eq_true rfl, Nat.le_of_ble_eq_true rfl⟩ (o_recv hK hW hal.1 (kC_M _ _ _) rfl) hK hW hB hS hl.1 rfl (lv_room (Nat.le_of_ble_eq_true rfl)) ⟨Nat.zero_le _, Nat.zero_le _⟩ dX10_bars_2) hS (fun r_2 d_1 q_3 H locs hW hS => ?_)
  obtain ⟨rfl, hq⟩ := q_3
  have hI := hI.trans hq
  refine lv_iload_n hx hb dX10_bars_5 rfl (lv_at hl 2 rfl) ?_
  refine o_calli (o_runS (As := [.long (sBars S ll), .int (nI mm)]) (rest := []) ⟨hx, hb, hml, hown, hu⟩ (c_X10_has l D cA B0 ad hal d_1 (sBars S ll) mm ) (gS_X10_179 (fun _ h => h)) (n0 := 2) rfl (by decide +kernel) rfl ⟨Nat.le_of_ble_eq_true rfl, Nat.le_of_ble_eq_true rfl⟩ hK hW hB hS hl.1 rfl (lv_room (Nat.le_of_ble_eq_true rfl)) ⟨Nat.zero_le _, Nat.zero_le _⟩ dX10_bars_6) hS (fun r_5 d_4 q_6 H locs hW hS => ?_)
  obtain ⟨rfl, rfl⟩ := q_6
  exact o_zret hx hb hr hlocks (by first | rfl | exact z_bI _ | (split <;> first | rfl | (split <;> rfl))) hW hS (⟨rfl, hI⟩) dX10_bars_9

set_option maxHeartbeats 400000 in
set_option maxRecDepth 100000 in
theorem c_X10_free (l : Launch) (D : va_G) (cA : Nat → ClassId) (B0 : Nat) (ad : kA) (hal : mAl ad) (S : sS) (d0 : kD) (hM : InvM S d0) (pp : Nat) (dd : Nat) (b : Int32) (hp : pp < S 7 0) (hd : dd < 400) : oM l yX10_free wX10_free 6 0 0 D cA B0 ad d0 ([.ref (ad.1 40 0), .int (nI pp), .int (nI dd), .int b] : List Value) (oQl D cA B0 ad (fun r d1 => r = sFree S pp dd b ∧ MI S d0 d1)) := by
  refine o_ofW (cc := cX10_free) (maxL := 7) (ret := some .long) (by decide) rfl (Nat.le_of_ble_eq_true rfl) ?_
  intro p e s m below meth c hx hb hr hml hts hown hlocks hnm hK hW hB hS ls hl
  have hu : ∀ w ∈ UW, w.before _ s = true := fun w h => hts w (uw_c w h)
  have hl : lv_has ls 7 [(0, .ref (ad.1 40 0)), (1, .int (nI pp)), (2, .int (nI dd)), (3, .int b)] := hl
  have hI : MI S d0 d0 := MI.start hM
  have hG : sG S := hM.2.1
  have hb7 : S 7 0 ≤ 8 := hG.f 7 (mx := 8) (by decide)
  have hb18 : S 18 0 ≤ 40 := hG.f 18 (mx := 40) (by decide)
  refine lv_ldc2 (v := (-1)) hx hb hown (hu _ uK_X10_183) dX10_free_0 ?_
  refine lv_lstore (lv' := [(4, .long (-1)), (0, .ref (ad.1 40 0)), (1, .int (nI pp)), (2, .int (nI dd)), (3, .int b)]) hx hb dX10_free_3 hl (by decide) rfl (fun ls hl => ?_)
  refine n_iconst (v := 0) hx hb dX10_free_5 (by decide) ?_
  refine lv_istore (lv' := [(6, .int (nI 0)), (4, .long (-1)), (0, .ref (ad.1 40 0)), (1, .int (nI pp)), (2, .int (nI dd)), (3, .int b)]) hx hb dX10_free_6 hl (by decide) rfl (fun ls hl => ?_)
  have lp8 : ∀ (n : Nat) (bt : Int64) (k : Nat)  (d : kD) (H : Heap) (locs : List Loc) (ls : Array Slot), S 18 0 - k < n → (k ≤ S 18 0) → (MI S d0 d) → (bt = sFr S pp dd b k) → oW D cA B0 ad d H → va_S (oA B0) s.heap H locs → lv_has ls 7 [(0, .ref (ad.1 40 0)), (1, .int (nI pp)), (2, .int (nI dd)), (3, .int b), (4, .long bt), (6, .int (nI k))] → W p l e (oR 6 0 0) s m ([.ref (ad.1 40 0), .int (nI pp), .int (nI dd), .int b] : List Value).toArray below meth c H locs 0 0 (MQ below (oQl D cA B0 ad (fun r d1 => r = sFree S pp dd b ∧ MI S d0 d1)) ([.ref (ad.1 40 0), .int (nI pp), .int (nI dd), .int b] : List Value).toArray s 0 0 (oA B0)) (F0 m 8 ls []) := by
    intro n
    induction n with
    | zero => intro bt k  d H locs ls hmu; exact absurd hmu (Nat.not_lt_zero _)
    | succ n ih_lp8 =>
      intro bt k  d H locs ls hmu hk hI hbt hW hS hl
      refine lv_iload hx hb dX10_free_8 (lv_at hl 5 rfl) ?_
      refine lv_aload_n hx hb dX10_free_10 rfl (lv_at hl 0 rfl) ?_
      refine mo_gi hx hb hu hown hK hal hW hI.dS 18 (by decide) uF_X10_185 dX10_free_11 ?_
      have b_1 : S 18 0 ≤ 40 := hG.f 18 (mx := 40) (by decide)
      refine n_icmp_ge (tgt := 65) hx hb (by omega) (by omega) dX10_free_14 (by decide) (fun c_2 => ?_) (fun c_2 => ?_)
      · refine lv_lload hx hb dX10_free_65 (lv_at hl 4 rfl) ?_
        exact o_lret hx hb hr hlocks hW hS (⟨by rw [hbt, show k = S 18 0 by omega]; rfl, hI⟩) dX10_free_67
      · refine lv_iload hx hb dX10_free_17 (lv_at hl 5 rfl) ?_
        refine lv_iload_n hx hb dX10_free_19 rfl (lv_at hl 3 rfl) ?_
        refine lv_icmp_eq (tgt := 59) hx hb dX10_free_20 (by decide) (fun c_a => ?_) (fun c_a => ?_)
        · have hst : sFr S pp dd b (k + 1) = sFr S pp dd b k := by rw [sFr, if_neg (fun q => q.1 c_a)]
          refine n_iinc (q := 1) (lv' := [(6, .int (nI (k + 1))), (0, .ref (ad.1 40 0)), (1, .int (nI pp)), (2, .int (nI dd)), (3, .int b), (4, .long bt)]) hx hb dX10_free_59 hl (k := 5) rfl (by decide) (by decide) rfl (fun ls hl => ?_)
          refine lv_goto (tgt := 8) hx hb dX10_free_62 (by decide) ?_
          exact ih_lp8 bt (k + 1) d _ _ ls (by omega) (by omega) hI (by rw [hst, ← hbt]) hW hS (lv_sub hl [1, 2, 3, 4, 5, 0] rfl)
        · refine lv_aload_n hx hb dX10_free_23 rfl (lv_at hl 0 rfl) ?_
          refine mo_ga hx hb hu hown hK hal hW 12 (by decide) uF_X10_37 dX10_free_24 ?_
          refine lv_iload hx hb dX10_free_27 (lv_at hl 5 rfl) ?_
          refine mo_ld hx hb hK hal hW hI.dS 12 (n := 40) (by decide) (by omega) dX10_free_29 ?_
          have b_3 : S 12 k ≤ 7 := hG.a 12 k (n := 40) (mx := 7) (by decide) (by omega)
          refine lv_iload_n hx hb dX10_free_30 rfl (lv_at hl 1 rfl) ?_
          refine n_icmp_ne (tgt := 59) hx hb (by omega) (by omega) dX10_free_31 (by decide) (fun c_b => ?_) (fun c_b => ?_)
          · have hst : sFr S pp dd b (k + 1) = sFr S pp dd b k := by rw [sFr, if_neg (fun q => c_b q.2.1)]
            refine n_iinc (q := 1) (lv' := [(6, .int (nI (k + 1))), (0, .ref (ad.1 40 0)), (1, .int (nI pp)), (2, .int (nI dd)), (3, .int b), (4, .long bt)]) hx hb dX10_free_59 hl (k := 5) rfl (by decide) (by decide) rfl (fun ls hl => ?_)
            refine lv_goto (tgt := 8) hx hb dX10_free_62 (by decide) ?_
            exact ih_lp8 bt (k + 1) d _ _ ls (by omega) (by omega) hI (by rw [hst, ← hbt]) hW hS (lv_sub hl [1, 2, 3, 4, 5, 0] rfl)
          · refine lv_aload_n hx hb dX10_free_34 rfl (lv_at hl 0 rfl) ?_
            refine lv_iload hx hb dX10_free_35 (lv_at hl 5 rfl) ?_
            refine lv_iload_n hx hb dX10_free_37 rfl (lv_at hl 2 rfl) ?_
            refine o_calli (o_runV (As := [.int (nI k), .int (nI dd)]) (rest := []) ⟨hx, hb, hml, hown, hu⟩ (c_X10_isKnown l D cA B0 ad hal S d hI.dS hG k dd (by omega) (by omega)) (gV_X10_188 (fun _ h => h)) (n0 := 2) rfl (by decide +kernel) rfl ⟨Nat.le_of_ble_eq_true rfl, Nat.le_of_ble_eq_true rfl⟩ (o_recv hK hW hal.1 (kC_M _ _ _) rfl) hK hW hB hS hl.1 rfl (lv_room (Nat.le_of_ble_eq_true rfl)) ⟨Nat.zero_le _, Nat.zero_le _⟩ dX10_free_38) hS (fun r_5 d_4 q_6 H locs hW hS => ?_)
            obtain ⟨rfl, rfl⟩ := q_6
            refine lv_if_eq (tgt := 59) hx hb dX10_free_41 (by decide) (fun c_c => ?_) (fun c_c => ?_)
            · have hst : sFr S pp dd b (k + 1) = sFr S pp dd b k := by rw [sFr, if_neg (fun q => by rw [bI_z c_c] at q; exact absurd q.2.2 (by decide))]
              refine n_iinc (q := 1) (lv' := [(6, .int (nI (k + 1))), (0, .ref (ad.1 40 0)), (1, .int (nI pp)), (2, .int (nI dd)), (3, .int b), (4, .long bt)]) hx hb dX10_free_59 hl (k := 5) rfl (by decide) (by decide) rfl (fun ls hl => ?_)
              refine lv_goto (tgt := 8) hx hb dX10_free_62 (by decide) ?_
              exact ih_lp8 bt (k + 1) d _ _ ls (by omega) (by omega) hI (by rw [hst, ← hbt]) hW hS (lv_sub hl [1, 2, 3, 4, 5, 0] rfl)
            · have hst : sFr S pp dd b (k + 1) = sFr S pp dd b k &&& (sBars S k ^^^ (-1)) := by rw [sFr, if_pos ⟨c_a, c_b, bI_n c_c⟩]
              refine lv_lload hx hb dX10_free_44 (lv_at hl 4 rfl) ?_
              refine lv_aload_n hx hb dX10_free_46 rfl (lv_at hl 0 rfl) ?_
              refine lv_iload hx hb dX10_free_47 (lv_at hl 5 rfl) ?_
              refine o_calll (o_runV (As := [.int (nI k)]) (rest := [.long bt]) ⟨hx, hb, hml, hown, hu⟩ (c_X10_barsOf l D cA B0 ad hal S d hI.1 k (by omega)) (gV_X10_175 (fun _ h => h)) (n0 := 1) rfl (by decide +kernel) rfl ⟨Nat.le_of_ble_eq_true rfl, Nat.le_of_ble_eq_true rfl⟩ (o_recv hK hW hal.1 (kC_M _ _ _) rfl) hK hW hB hS hl.1 rfl (lv_room (Nat.le_of_ble_eq_true rfl)) ⟨Nat.zero_le _, Nat.zero_le _⟩ dX10_free_49) hS (fun r_8 d_7 q_9 H locs hW hS => ?_)
              obtain ⟨rfl, hq⟩ := q_9
              have hI := hI.trans hq
              refine lv_ldc2 (v := (-1)) hx hb hown (hu _ uK_X10_183) dX10_free_52 ?_
              refine lv_lxor hx hb dX10_free_55 ?_
              refine lv_land hx hb dX10_free_56 ?_
              refine lv_lstore (lv' := [(4, .long (bt &&& ((sBars S k) ^^^ (-1)))), (0, .ref (ad.1 40 0)), (1, .int (nI pp)), (2, .int (nI dd)), (3, .int b), (6, .int (nI k))]) hx hb dX10_free_57 hl (by decide) rfl (fun ls hl => ?_)
              refine n_iinc (q := 1) (lv' := [(6, .int (nI (k + 1))), (4, .long (bt &&& ((sBars S k) ^^^ (-1)))), (0, .ref (ad.1 40 0)), (1, .int (nI pp)), (2, .int (nI dd)), (3, .int b)]) hx hb dX10_free_59 hl (k := 5) rfl (by decide) (by decide) rfl (fun ls hl => ?_)
              refine lv_goto (tgt := 8) hx hb dX10_free_62 (by decide) ?_
              exact ih_lp8 (bt &&& ((sBars S k) ^^^ (-1))) (k + 1) d_7 _ _ ls (by omega) (by omega) hI (by rw [hst, ← hbt]) hW hS (lv_sub hl [2, 3, 4, 5, 1, 0] rfl)
  exact lp8 (S 18 0 + 1) (-1) 0 d0 _ _ ls (by omega) (by omega) hI rfl hW hS (lv_sub hl [2, 3, 4, 5, 1, 0] rfl)

set_option maxHeartbeats 400000 in
set_option maxRecDepth 100000 in
theorem c_X10_common (l : Launch) (D : va_G) (cA : Nat → ClassId) (B0 : Nat) (ad : kA) (hal : mAl ad) (S : sS) (d0 : kD) (hM : InvM S d0) (bb : Nat) (dd : Nat) (hb4 : bb < 4) (hd : dd < 400) : oM l yX10_common wX10_common 7 0 0 D cA B0 ad d0 ([.ref (ad.1 40 0), .int (nI bb), .int (nI dd)] : List Value) (oQi D cA B0 ad (fun r d1 => r = sCommon S bb dd ∧ MI S d0 d1)) := by
  refine o_ofW (cc := cX10_common) (maxL := 9) (ret := some .int) (by decide) rfl (Nat.le_of_ble_eq_true rfl) ?_
  intro p e s m below meth c hx hb hr hml hts hown hlocks hnm hK hW hB hS ls hl
  have hu : ∀ w ∈ UW, w.before _ s = true := fun w h => hts w (uw_c w h)
  have hl : lv_has ls 9 [(0, .ref (ad.1 40 0)), (1, .int (nI bb)), (2, .int (nI dd))] := hl
  have hI : MI S d0 d0 := MI.start hM
  have hG : sG S := hM.2.1
  have hb7 : S 7 0 ≤ 8 := hG.f 7 (mx := 8) (by decide)
  have hb18 : S 18 0 ≤ 40 := hG.f 18 (mx := 40) (by decide)
  refine n_sipush (v := 255) hx hb dX10_common_0 (by decide) ?_
  refine lv_istore_n (lv' := [(3, .int (nI 255)), (0, .ref (ad.1 40 0)), (1, .int (nI bb)), (2, .int (nI dd))]) hx hb dX10_common_3 rfl hl (by decide) rfl (fun ls hl => ?_)
  refine n_iconst (v := 0) hx hb dX10_common_4 (by decide) ?_
  refine lv_istore (lv' := [(4, .int (nI 0)), (3, .int (nI 255)), (0, .ref (ad.1 40 0)), (1, .int (nI bb)), (2, .int (nI dd))]) hx hb dX10_common_5 hl (by decide) rfl (fun ls hl => ?_)
  have lp7 : ∀ (n : Nat) (al : Int32) (k : Nat)  (d : kD) (H : Heap) (locs : List Loc) (ls : Array Slot), S 7 0 - k < n → (k ≤ S 7 0) → (MI S d0 d) → (al = sCm S bb dd k) → oW D cA B0 ad d H → va_S (oA B0) s.heap H locs → lv_has ls 9 [(0, .ref (ad.1 40 0)), (1, .int (nI bb)), (2, .int (nI dd)), (3, .int al), (4, .int (nI k))] → W p l e (oR 7 0 0) s m ([.ref (ad.1 40 0), .int (nI bb), .int (nI dd)] : List Value).toArray below meth c H locs 0 0 (MQ below (oQi D cA B0 ad (fun r d1 => r = sCommon S bb dd ∧ MI S d0 d1)) ([.ref (ad.1 40 0), .int (nI bb), .int (nI dd)] : List Value).toArray s 0 0 (oA B0)) (F0 m 7 ls []) := by
    intro n
    induction n with
    | zero => intro al k  d H locs ls hmu; exact absurd hmu (Nat.not_lt_zero _)
    | succ n ih_lp7 =>
      intro al k  d H locs ls hmu hk hI hcm hW hS hl
      refine lv_iload hx hb dX10_common_7 (lv_at hl 4 rfl) ?_
      refine lv_aload_n hx hb dX10_common_9 rfl (lv_at hl 0 rfl) ?_
      refine mo_gi hx hb hu hown hK hal hW hI.dS 7 (by decide) uF_X10_116 dX10_common_10 ?_
      have b_1 : S 7 0 ≤ 8 := hG.f 7 (mx := 8) (by decide)
      refine n_icmp_ge (tgt := 96) hx hb (by omega) (by omega) dX10_common_13 (by decide) (fun c_2 => ?_) (fun c_2 => ?_)
      · refine lv_iload_n hx hb dX10_common_96 rfl (lv_at hl 3 rfl) ?_
        exact o_iret hx hb hr hlocks hW hS (⟨by rw [hcm, show k = S 7 0 by omega]; rfl, hI⟩) dX10_common_97
      · refine lv_aload_n hx hb dX10_common_16 rfl (lv_at hl 0 rfl) ?_
        refine mo_ga hx hb hu hown hK hal hW 2 (by decide) uF_X10_13 dX10_common_17 ?_
        refine lv_iload hx hb dX10_common_20 (lv_at hl 4 rfl) ?_
        refine mo_ld hx hb hK hal hW hI.dS 2 (n := 8) (by decide) (by omega) dX10_common_22 ?_
        have b_3 : S 2 k ≤ 3 := hG.a 2 k (n := 8) (mx := 3) (by decide) (by omega)
        refine lv_iload_n hx hb dX10_common_23 rfl (lv_at hl 1 rfl) ?_
        refine n_icmp_eq (tgt := 30) hx hb (by omega) (by omega) dX10_common_24 (by decide) (fun c_a => ?_) (fun c_a => ?_)
        · refine lv_aload_n hx hb dX10_common_30 rfl (lv_at hl 0 rfl) ?_
          refine lv_iload hx hb dX10_common_31 (lv_at hl 4 rfl) ?_
          refine lv_iload_n hx hb dX10_common_33 rfl (lv_at hl 2 rfl) ?_
          refine lv_iconst (v := -1) hx hb dX10_common_34 (by decide) ?_
          refine o_calll (o_runV (As := [.int (nI k), .int (nI dd), .int (-1)]) (rest := []) ⟨hx, hb, hml, hown, hu⟩ (c_X10_free l D cA B0 ad hal S d hI.1 k dd (-1) (by omega) (by omega)) (gV_X10_192 (fun _ h => h)) (n0 := 3) rfl (by decide +kernel) rfl ⟨Nat.le_of_ble_eq_true rfl, Nat.le_of_ble_eq_true rfl⟩ (o_recv hK hW hal.1 (kC_M _ _ _) rfl) hK hW hB hS hl.1 rfl (lv_room (Nat.le_of_ble_eq_true rfl)) ⟨Nat.zero_le _, Nat.zero_le _⟩ dX10_common_35) hS (fun r_5 d_4 q_6 H locs hW hS => ?_)
          obtain ⟨rfl, hq⟩ := q_6
          have hI := hI.trans hq
          refine lv_lstore (lv' := [(5, .long (sFree S k dd (-1))), (0, .ref (ad.1 40 0)), (1, .int (nI bb)), (2, .int (nI dd)), (3, .int al), (4, .int (nI k))]) hx hb dX10_common_38 hl (by decide) rfl (fun ls hl => ?_)
          refine n_iconst (v := 0) hx hb dX10_common_40 (by decide) ?_
          refine lv_istore (lv' := [(7, .int (nI 0)), (5, .long (sFree S k dd (-1))), (0, .ref (ad.1 40 0)), (1, .int (nI bb)), (2, .int (nI dd)), (3, .int al), (4, .int (nI k))]) hx hb dX10_common_41 hl (by decide) rfl (fun ls hl => ?_)
          refine n_iconst (v := 0) hx hb dX10_common_43 (by decide) ?_
          refine lv_istore (lv' := [(8, .int (nI 0)), (7, .int (nI 0)), (5, .long (sFree S k dd (-1))), (0, .ref (ad.1 40 0)), (1, .int (nI bb)), (2, .int (nI dd)), (3, .int al), (4, .int (nI k))]) hx hb dX10_common_44 hl (by decide) rfl (fun ls hl => ?_)
          have lp46 : ∀ (n : Nat) (mi : Int32) (a : Nat)  (H : Heap) (locs : List Loc) (ls : Array Slot), 8 - a < n → (a ≤ 8) → (mi = sMi (sFree S k dd (-1)) a) → oW D cA B0 ad d_4 H → va_S (oA B0) s.heap H locs → lv_has ls 9 [(0, .ref (ad.1 40 0)), (1, .int (nI bb)), (2, .int (nI dd)), (3, .int al), (4, .int (nI k)), (5, .long (sFree S k dd (-1))), (7, .int mi), (8, .int (nI a))] → W p l e (oR 7 0 0) s m ([.ref (ad.1 40 0), .int (nI bb), .int (nI dd)] : List Value).toArray below meth c H locs 0 0 (MQ below (oQi D cA B0 ad (fun r d1 => r = sCommon S bb dd ∧ MI S d0 d1)) ([.ref (ad.1 40 0), .int (nI bb), .int (nI dd)] : List Value).toArray s 0 0 (oA B0)) (F0 m 46 ls []) := by
            intro n
            induction n with
            | zero => intro mi a  H locs ls hmu; exact absurd hmu (Nat.not_lt_zero _)
            | succ n ih_lp46 =>
              intro mi a  H locs ls hmu ha hmi hW hS hl
              refine lv_iload hx hb dX10_common_46 (lv_at hl 7 rfl) ?_
              refine n_bipush (v := 8) hx hb dX10_common_48 (by decide) ?_
              refine n_icmp_ge (tgt := 85) hx hb (by omega) (by omega) dX10_common_50 (by decide) (fun c_7 => ?_) (fun c_7 => ?_)
              · have hst : sCm S bb dd (k + 1) = sCm S bb dd k &&& sMi (sFree S k dd (-1)) 8 := by rw [sCm, if_pos c_a]
                refine lv_iload_n hx hb dX10_common_85 rfl (lv_at hl 3 rfl) ?_
                refine lv_iload hx hb dX10_common_86 (lv_at hl 6 rfl) ?_
                refine lv_iand hx hb dX10_common_88 ?_
                refine lv_istore_n (lv' := [(3, .int (al &&& mi)), (0, .ref (ad.1 40 0)), (1, .int (nI bb)), (2, .int (nI dd)), (4, .int (nI k)), (5, .long (sFree S k dd (-1))), (7, .int mi), (8, .int (nI a))]) hx hb dX10_common_89 rfl hl (by decide) rfl (fun ls hl => ?_)
                refine n_iinc (q := 1) (lv' := [(4, .int (nI (k + 1))), (3, .int (al &&& mi)), (0, .ref (ad.1 40 0)), (1, .int (nI bb)), (2, .int (nI dd)), (5, .long (sFree S k dd (-1))), (7, .int mi), (8, .int (nI a))]) hx hb dX10_common_90 hl (k := 4) rfl (by decide) (by decide) rfl (fun ls hl => ?_)
                refine lv_goto (tgt := 7) hx hb dX10_common_93 (by decide) ?_
                exact ih_lp7 (al &&& mi) (k + 1) d_4 _ _ ls (by omega) (by omega) hI (by first | (rw [hst, ← hcm]; done) | (rw [hst, ← hcm, hmi, show a = 8 by omega]; done)) hW hS (lv_sub hl [2, 3, 4, 1, 0] rfl)
              · refine lv_lload hx hb dX10_common_53 (lv_at hl 5 rfl) ?_
                refine n_bipush (v := 8) hx hb dX10_common_55 (by decide) ?_
                refine lv_iload hx hb dX10_common_57 (lv_at hl 7 rfl) ?_
                refine n_imul hx hb dX10_common_59 ?_
                refine lv_lushr (v := lsr (sFree S k dd (-1)) (8 * a)) hx hb dX10_common_60 rfl ?_
                refine lv_ldc2 (v := (255)) hx hb hown (hu _ uK_X10_196) dX10_common_61 ?_
                refine lv_land hx hb dX10_common_64 ?_
                refine lv_lconst (v := 0) hx hb dX10_common_65 (by decide) ?_
                refine W.lcmp hx hb dX10_common_66 ?_
                refine lv_if_eq (tgt := 79) hx hb dX10_common_67 (by decide) (fun c_b => ?_) (fun c_b => ?_)
                · have hst2 : sMi (sFree S k dd (-1)) (a + 1) = sMi (sFree S k dd (-1)) a := by rw [sMi, if_pos ((lg_cmp_eq _ _).mp c_b)]
                  refine n_iinc (q := 1) (lv' := [(8, .int (nI (a + 1))), (0, .ref (ad.1 40 0)), (1, .int (nI bb)), (2, .int (nI dd)), (3, .int al), (4, .int (nI k)), (5, .long (sFree S k dd (-1))), (7, .int mi)]) hx hb dX10_common_79 hl (k := 7) rfl (by decide) (by decide) rfl (fun ls hl => ?_)
                  refine lv_goto (tgt := 46) hx hb dX10_common_82 (by decide) ?_
                  exact ih_lp46 mi (a + 1) _ _ ls (by omega) (by omega) (by rw [hst2, ← hmi]) hW hS (lv_sub hl [1, 2, 3, 4, 5, 6, 7, 0] rfl)
                · have hst2 : sMi (sFree S k dd (-1)) (a + 1) = sMi (sFree S k dd (-1)) a ||| (nI 1 <<< (nI a &&& 31)) := by rw [sMi, if_neg (fun q => c_b ((lg_cmp_eq _ _).mpr q))]
                  refine lv_iload hx hb dX10_common_70 (lv_at hl 6 rfl) ?_
                  refine n_iconst (v := 1) hx hb dX10_common_72 (by decide) ?_
                  refine lv_iload hx hb dX10_common_73 (lv_at hl 7 rfl) ?_
                  refine lv_ishl hx hb dX10_common_75 ?_
                  refine lv_ior hx hb dX10_common_76 ?_
                  refine lv_istore (lv' := [(7, .int (mi ||| ((nI 1) <<< ((nI a) &&& 31)))), (0, .ref (ad.1 40 0)), (1, .int (nI bb)), (2, .int (nI dd)), (3, .int al), (4, .int (nI k)), (5, .long (sFree S k dd (-1))), (8, .int (nI a))]) hx hb dX10_common_77 hl (by decide) rfl (fun ls hl => ?_)
                  refine n_iinc (q := 1) (lv' := [(8, .int (nI (a + 1))), (7, .int (mi ||| ((nI 1) <<< ((nI a) &&& 31)))), (0, .ref (ad.1 40 0)), (1, .int (nI bb)), (2, .int (nI dd)), (3, .int al), (4, .int (nI k)), (5, .long (sFree S k dd (-1)))]) hx hb dX10_common_79 hl (k := 7) rfl (by decide) (by decide) rfl (fun ls hl => ?_)
                  refine lv_goto (tgt := 46) hx hb dX10_common_82 (by decide) ?_
                  exact ih_lp46 (mi ||| ((nI 1) <<< ((nI a) &&& 31))) (a + 1) _ _ ls (by omega) (by omega) (by rw [hst2, ← hmi]) hW hS (lv_sub hl [2, 3, 4, 5, 6, 7, 1, 0] rfl)
          exact lp46 (9) (nI 0) 0 _ _ ls (by omega) (by omega) rfl hW hS (lv_sub hl [3, 4, 5, 6, 7, 2, 1, 0] rfl)
        · have hst : sCm S bb dd (k + 1) = sCm S bb dd k := by rw [sCm, if_neg c_a]
          refine lv_goto (tgt := 90) hx hb dX10_common_27 (by decide) ?_
          refine n_iinc (q := 1) (lv' := [(4, .int (nI (k + 1))), (0, .ref (ad.1 40 0)), (1, .int (nI bb)), (2, .int (nI dd)), (3, .int al)]) hx hb dX10_common_90 hl (k := 4) rfl (by decide) (by decide) rfl (fun ls hl => ?_)
          refine lv_goto (tgt := 7) hx hb dX10_common_93 (by decide) ?_
          exact ih_lp7 al (k + 1) d _ _ ls (by omega) (by omega) hI (by first | (rw [hst, ← hcm]; done) | (rw [hst, ← hcm, hmi, show a = 8 by omega]; done)) hW hS (lv_sub hl [1, 2, 3, 4, 0] rfl)
  exact lp7 (S 7 0 + 1) (nI 255) 0 d0 _ _ ls (by omega) (by omega) hI rfl hW hS (lv_sub hl [2, 3, 4, 1, 0] rfl)

set_option maxHeartbeats 400000 in
set_option maxRecDepth 100000 in
theorem c_X10_keptOn (l : Launch) (D : va_G) (cA : Nat → ClassId) (B0 : Nat) (ad : kA) (hal : mAl ad) (S : sS) (d0 : kD) (hM : InvM S d0) (pp : Nat) (dd : Nat) (hp : pp < S 7 0) (hd : dd < 400) : oM l yX10_keptOn wX10_keptOn 8 0 0 D cA B0 ad d0 ([.ref (ad.1 40 0), .int (nI pp), .int (nI dd)] : List Value) (oQl D cA B0 ad (fun r d1 => r = sKept S pp dd ∧ MI S d0 d1)) := by
  refine o_ofW (cc := cX10_keptOn) (maxL := 7) (ret := some .long) (by decide) rfl (Nat.le_of_ble_eq_true rfl) ?_
  intro p e s m below meth c hx hb hr hml hts hown hlocks hnm hK hW hB hS ls hl
  have hu : ∀ w ∈ UW, w.before _ s = true := fun w h => hts w (uw_c w h)
  have hl : lv_has ls 7 [(0, .ref (ad.1 40 0)), (1, .int (nI pp)), (2, .int (nI dd))] := hl
  have hI : MI S d0 d0 := MI.start hM
  have hG : sG S := hM.2.1
  have hb7 : S 7 0 ≤ 8 := hG.f 7 (mx := 8) (by decide)
  have hb18 : S 18 0 ≤ 40 := hG.f 18 (mx := 40) (by decide)
  refine lv_aload_n hx hb dX10_keptOn_0 rfl (lv_at hl 0 rfl) ?_
  refine lv_aload_n hx hb dX10_keptOn_1 rfl (lv_at hl 0 rfl) ?_
  refine mo_ga hx hb hu hown hK hal hW 2 (by decide) uF_X10_13 dX10_keptOn_2 ?_
  refine lv_iload_n hx hb dX10_keptOn_5 rfl (lv_at hl 1 rfl) ?_
  refine mo_ld hx hb hK hal hW hI.dS 2 (n := 8) (by decide) (by omega) dX10_keptOn_6 ?_
  have b_1 : S 2 pp ≤ 3 := hG.a 2 pp (n := 8) (mx := 3) (by decide) (by omega)
  refine lv_iload_n hx hb dX10_keptOn_7 rfl (lv_at hl 2 rfl) ?_
  refine o_calli (o_runV (As := [.int (nI (S 2 pp)), .int (nI dd)]) (rest := []) ⟨hx, hb, hml, hown, hu⟩ (c_X10_common l D cA B0 ad hal S d0 hI.1 (S 2 pp) dd (by omega) (by omega)) (gV_X10_198 (fun _ h => h)) (n0 := 2) rfl (by decide +kernel) rfl ⟨Nat.le_of_ble_eq_true rfl, Nat.le_of_ble_eq_true rfl⟩ (o_recv hK hW hal.1 (kC_M _ _ _) rfl) hK hW hB hS hl.1 rfl (lv_room (Nat.le_of_ble_eq_true rfl)) ⟨Nat.zero_le _, Nat.zero_le _⟩ dX10_keptOn_8) hS (fun r_3 d_2 q_4 H locs hW hS => ?_)
  obtain ⟨rfl, hq⟩ := q_4
  have hI := hI.trans hq
  refine lv_istore_n (lv' := [(3, .int (sCommon S (S 2 pp) dd)), (0, .ref (ad.1 40 0)), (1, .int (nI pp)), (2, .int (nI dd))]) hx hb dX10_keptOn_11 rfl hl (by decide) rfl (fun ls hl => ?_)
  refine lv_aload_n hx hb dX10_keptOn_12 rfl (lv_at hl 1 rfl) ?_
  refine lv_iload_n hx hb dX10_keptOn_13 rfl (lv_at hl 2 rfl) ?_
  refine lv_iload_n hx hb dX10_keptOn_14 rfl (lv_at hl 3 rfl) ?_
  refine lv_iconst (v := -1) hx hb dX10_keptOn_15 (by decide) ?_
  refine o_calll (o_runV (As := [.int (nI pp), .int (nI dd), .int (-1)]) (rest := []) ⟨hx, hb, hml, hown, hu⟩ (c_X10_free l D cA B0 ad hal S d_2 hI.1 pp dd (-1) (by omega) (by omega)) (gV_X10_192 (fun _ h => h)) (n0 := 3) rfl (by decide +kernel) rfl ⟨Nat.le_of_ble_eq_true rfl, Nat.le_of_ble_eq_true rfl⟩ (o_recv hK hW hal.1 (kC_M _ _ _) rfl) hK hW hB hS hl.1 rfl (lv_room (Nat.le_of_ble_eq_true rfl)) ⟨Nat.zero_le _, Nat.zero_le _⟩ dX10_keptOn_16) hS (fun r_6 d_5 q_7 H locs hW hS => ?_)
  obtain ⟨rfl, hq⟩ := q_7
  have hI := hI.trans hq
  refine lv_lstore (lv' := [(4, .long (sFree S pp dd (-1))), (3, .int (sCommon S (S 2 pp) dd)), (0, .ref (ad.1 40 0)), (1, .int (nI pp)), (2, .int (nI dd))]) hx hb dX10_keptOn_19 hl (by decide) rfl (fun ls hl => ?_)
  refine n_iconst (v := 0) hx hb dX10_keptOn_21 (by decide) ?_
  refine lv_istore (lv' := [(6, .int (nI 0)), (4, .long (sFree S pp dd (-1))), (3, .int (sCommon S (S 2 pp) dd)), (0, .ref (ad.1 40 0)), (1, .int (nI pp)), (2, .int (nI dd))]) hx hb dX10_keptOn_22 hl (by decide) rfl (fun ls hl => ?_)
  have lp24 : ∀ (n : Nat) (bt : Int64) (a : Nat)  (H : Heap) (locs : List Loc) (ls : Array Slot), 8 - a < n → (a ≤ 8) → (bt = sKp (sFree S pp dd (-1)) (sCommon S (S 2 pp) dd) a) → oW D cA B0 ad d_5 H → va_S (oA B0) s.heap H locs → lv_has ls 7 [(0, .ref (ad.1 40 0)), (1, .int (nI pp)), (2, .int (nI dd)), (3, .int (sCommon S (S 2 pp) dd)), (4, .long bt), (6, .int (nI a))] → W p l e (oR 8 0 0) s m ([.ref (ad.1 40 0), .int (nI pp), .int (nI dd)] : List Value).toArray below meth c H locs 0 0 (MQ below (oQl D cA B0 ad (fun r d1 => r = sKept S pp dd ∧ MI S d0 d1)) ([.ref (ad.1 40 0), .int (nI pp), .int (nI dd)] : List Value).toArray s 0 0 (oA B0)) (F0 m 24 ls []) := by
    intro n
    induction n with
    | zero => intro bt a  H locs ls hmu; exact absurd hmu (Nat.not_lt_zero _)
    | succ n ih_lp24 =>
      intro bt a  H locs ls hmu ha hbt hW hS hl
      refine lv_iload hx hb dX10_keptOn_24 (lv_at hl 5 rfl) ?_
      refine n_bipush (v := 8) hx hb dX10_keptOn_26 (by decide) ?_
      refine n_icmp_ge (tgt := 64) hx hb (by omega) (by omega) dX10_keptOn_28 (by decide) (fun c_8 => ?_) (fun c_8 => ?_)
      · refine lv_lload hx hb dX10_keptOn_64 (lv_at hl 4 rfl) ?_
        exact o_lret hx hb hr hlocks hW hS (⟨by rw [hbt, show a = 8 by omega]; rfl, hI⟩) dX10_keptOn_66
      · refine lv_iload_n hx hb dX10_keptOn_31 rfl (lv_at hl 3 rfl) ?_
        refine lv_iload hx hb dX10_keptOn_32 (lv_at hl 5 rfl) ?_
        refine lv_ishr hx hb dX10_keptOn_34 ?_
        refine n_iconst (v := 1) hx hb dX10_keptOn_35 (by decide) ?_
        refine lv_iand hx hb dX10_keptOn_36 ?_
        refine lv_if_ne (tgt := 58) hx hb dX10_keptOn_37 (by decide) (fun c_b => ?_) (fun c_b => ?_)
        · have hst : sKp (sFree S pp dd (-1)) (sCommon S (S 2 pp) dd) (a + 1) = sKp (sFree S pp dd (-1)) (sCommon S (S 2 pp) dd) a := by rw [sKp, if_neg c_b]
          refine n_iinc (q := 1) (lv' := [(6, .int (nI (a + 1))), (0, .ref (ad.1 40 0)), (1, .int (nI pp)), (2, .int (nI dd)), (3, .int (sCommon S (S 2 pp) dd)), (4, .long bt)]) hx hb dX10_keptOn_58 hl (k := 5) rfl (by decide) (by decide) rfl (fun ls hl => ?_)
          refine lv_goto (tgt := 24) hx hb dX10_keptOn_61 (by decide) ?_
          exact ih_lp24 bt (a + 1) _ _ ls (by omega) (by omega) (by rw [hst, ← hbt]) hW hS (lv_sub hl [1, 2, 3, 4, 5, 0] rfl)
        · have hst : sKp (sFree S pp dd (-1)) (sCommon S (S 2 pp) dd) (a + 1) = sKp (sFree S pp dd (-1)) (sCommon S (S 2 pp) dd) a &&& (lsl 255 (8 * a) ^^^ (-1)) := by rw [sKp, if_pos c_b]
          refine lv_lload hx hb dX10_keptOn_40 (lv_at hl 4 rfl) ?_
          refine lv_ldc2 (v := (255)) hx hb hown (hu _ uK_X10_196) dX10_keptOn_42 ?_
          refine n_bipush (v := 8) hx hb dX10_keptOn_45 (by decide) ?_
          refine lv_iload hx hb dX10_keptOn_47 (lv_at hl 5 rfl) ?_
          refine n_imul hx hb dX10_keptOn_49 ?_
          refine lv_lshl (v := lsl (255) (8 * a)) hx hb dX10_keptOn_50 rfl ?_
          refine lv_ldc2 (v := (-1)) hx hb hown (hu _ uK_X10_183) dX10_keptOn_51 ?_
          refine lv_lxor hx hb dX10_keptOn_54 ?_
          refine lv_land hx hb dX10_keptOn_55 ?_
          refine lv_lstore (lv' := [(4, .long (bt &&& ((lsl (255) (8 * a)) ^^^ (-1)))), (0, .ref (ad.1 40 0)), (1, .int (nI pp)), (2, .int (nI dd)), (3, .int (sCommon S (S 2 pp) dd)), (6, .int (nI a))]) hx hb dX10_keptOn_56 hl (by decide) rfl (fun ls hl => ?_)
          refine n_iinc (q := 1) (lv' := [(6, .int (nI (a + 1))), (4, .long (bt &&& ((lsl (255) (8 * a)) ^^^ (-1)))), (0, .ref (ad.1 40 0)), (1, .int (nI pp)), (2, .int (nI dd)), (3, .int (sCommon S (S 2 pp) dd))]) hx hb dX10_keptOn_58 hl (k := 5) rfl (by decide) (by decide) rfl (fun ls hl => ?_)
          refine lv_goto (tgt := 24) hx hb dX10_keptOn_61 (by decide) ?_
          exact ih_lp24 (bt &&& ((lsl (255) (8 * a)) ^^^ (-1))) (a + 1) _ _ ls (by omega) (by omega) (by rw [hst, ← hbt]) hW hS (lv_sub hl [2, 3, 4, 5, 1, 0] rfl)
  exact lp24 (9) (sFree S pp dd (-1)) 0 _ _ ls (by omega) (by omega) rfl hW hS (lv_sub hl [3, 4, 5, 2, 1, 0] rfl)
