set_option maxHeartbeats 400000 in
set_option maxRecDepth 100000 in
theorem c_X0_canSettle_0 (l : Launch) (D : va_G) (cA : Nat → ClassId) (B0 : Nat) (ad : kA) (hal : mAl ad) (S : sS) (d0 : kD) (hX : XB cA ad S d0) (pp er nn : Nat) (dy : Nat → Nat) (x : Int64) (hp : pp < S 7 0) (hn6 : nn ≤ 6) (hAL : AL S pp er x dy nn d0) (y : Int64) (hyx : ∀ m, m < 64 → hasB y m = true → hasB x m = true) (ys : Int64) (i0 : Nat) (hi0 : i0 ≤ nn) : oM l yX0_canSettle wX0_canSettle 2 0 0 D cA B0 ad d0 ([.ref (ad.1 16 0), .long y, .long ys, .int (nI i0), .int (nI 0)] : List Value) (oQi D cA B0 ad (fun r d1 => r = bI (stV S pp er dy nn ys 0 y i0) ∧ d0 = d1)) := by
  refine o_ofW (cc := cX0_canSettle) (maxL := 8) (ret := some .boolean) (by decide) rfl (Nat.le_of_ble_eq_true rfl) ?_
  intro p e s m below meth c hx hb hr hml hts hown hlocks hnm hK hW hB hS ls hl
  have hu : ∀ w ∈ UW, w.before _ s = true := fun w h => hts w (uw_c w h)
  have hl : lv_has ls 8 [(0, .ref (ad.1 16 0)), (1, .long y), (3, .long ys), (5, .int (nI i0)), (6, .int (nI 0))] := hl
  have hA := hX.1
  have hG := hX.2.2
  have hb7 : S 7 0 ≤ 8 := hG.f 7 (mx := 8) (by decide)
  have hb11 : S 11 0 ≤ 20 := hG.f 11 (mx := 20) (by decide)
  have hb18 : S 18 0 ≤ 40 := hG.f 18 (mx := 40) (by decide)
  refine lv_lload_n hx hb dX0_canSettle_0 rfl (lv_at hl 1 rfl) ?_
  refine lv_lload_n hx hb dX0_canSettle_1 rfl (lv_at hl 2 rfl) ?_
  refine lv_land hx hb dX0_canSettle_2 ?_
  refine lv_lconst (v := 0) hx hb dX0_canSettle_3 (by decide) ?_
  refine W.lcmp hx hb dX0_canSettle_4 ?_
  refine lv_if_eq (tgt := 20) hx hb dX0_canSettle_5 (by decide) (fun c_1 => ?_) (fun c_1 => ?_)
  · have hb0 : stB ys y = true := stB_t (Or.inl (lg0 c_1))
    refine n_iconst (v := 1) hx hb dX0_canSettle_20 (by decide) ?_
    exact o_zret hx hb hr hlocks (by first | rfl | exact z_bI _ | (split <;> first | rfl | (split <;> rfl))) hW hS (⟨by show nI 1 = bI (stB ys y); rw [hb0]; rfl, rfl⟩) dX0_canSettle_21
  · refine lv_lload_n hx hb dX0_canSettle_8 rfl (lv_at hl 1 rfl) ?_
    refine lv_lload_n hx hb dX0_canSettle_9 rfl (lv_at hl 2 rfl) ?_
    refine lv_ldc2 (v := (-1)) hx hb hown (hu _ uK_X0_48) dX0_canSettle_10 ?_
    refine lv_lxor hx hb dX0_canSettle_13 ?_
    refine lv_land hx hb dX0_canSettle_14 ?_
    refine lv_lconst (v := 0) hx hb dX0_canSettle_15 (by decide) ?_
    refine W.lcmp hx hb dX0_canSettle_16 ?_
    refine lv_if_ne (tgt := 22) hx hb dX0_canSettle_17 (by decide) (fun c_2 => ?_) (fun c_2 => ?_)
    · have hb0 : stB ys y = false := stB_f (lg0n c_1) (fun q => lg0n c_2 (st_alt.mpr q))
      refine lv_iload hx hb dX0_canSettle_22 (lv_at hl 4 rfl) ?_
      refine n_if_gt (tgt := 29) hx hb (by omega) dX0_canSettle_24 (by decide) (fun c_k => ?_) (fun c_k => ?_)
      · exfalso; omega
      · refine n_iconst (v := 0) hx hb dX0_canSettle_27 (by decide) ?_
        exact o_zret hx hb hr hlocks (by first | rfl | exact z_bI _ | (split <;> first | rfl | (split <;> rfl))) hW hS (⟨by show nI 0 = bI (stB ys y); rw [hb0]; rfl, rfl⟩) dX0_canSettle_28
    · have hb0 : stB ys y = true := stB_t (Or.inr (st_alt.mp (lg0 c_2)))
      refine n_iconst (v := 1) hx hb dX0_canSettle_20 (by decide) ?_
      exact o_zret hx hb hr hlocks (by first | rfl | exact z_bI _ | (split <;> first | rfl | (split <;> rfl))) hW hS (⟨by show nI 1 = bI (stB ys y); rw [hb0]; rfl, rfl⟩) dX0_canSettle_21

set_option maxHeartbeats 400000 in
set_option maxRecDepth 100000 in
theorem c_X0_settlesBehind_1 (l : Launch) (D : va_G) (cA : Nat → ClassId) (B0 : Nat) (ad : kA) (hal : mAl ad) (S : sS) (d0 : kD) (hX : XB cA ad S d0) (pp er nn : Nat) (dy : Nat → Nat) (x : Int64) (hp : pp < S 7 0) (hn6 : nn ≤ 6) (hAL : AL S pp er x dy nn d0) (y : Int64) (hyx : ∀ m, m < 64 → hasB y m = true → hasB x m = true) (ys : Int64) (s0 : Nat) (hs0 : s0 < nn) : oM l yX0_settlesBehind wX0_settlesBehind 3 0 0 D cA B0 ad d0 ([.ref (ad.1 16 0), .long y, .long ys, .int (nI s0), .int (nI 1)] : List Value) (oQi D cA B0 ad (fun r d1 => r = bI (sbV S pp er dy nn ys 0 y s0) ∧ d0 = d1)) := by
  refine o_ofW (cc := cX0_settlesBehind) (maxL := 12) (ret := some .boolean) (by decide) rfl (Nat.le_of_ble_eq_true rfl) ?_
  intro p e s m below meth c hx hb hr hml hts hown hlocks hnm hK hW hB hS ls hl
  have hu : ∀ w ∈ UW, w.before _ s = true := fun w h => hts w (uw_c w h)
  have hl : lv_has ls 12 [(0, .ref (ad.1 16 0)), (1, .long y), (3, .long ys), (5, .int (nI s0)), (6, .int (nI 1))] := hl
  have hA := hX.1
  have hG := hX.2.2
  have hb7 : S 7 0 ≤ 8 := hG.f 7 (mx := 8) (by decide)
  have hb11 : S 11 0 ≤ 20 := hG.f 11 (mx := 20) (by decide)
  have hb18 : S 18 0 ≤ 40 := hG.f 18 (mx := 40) (by decide)
  obtain ⟨cn, hc6, h19, rep, hrep, hcov⟩ := hAL.2 s0 hs0
  refine lv_lconst (v := 0) hx hb dX0_settlesBehind_0 (by decide) ?_
  refine lv_lstore (lv' := [(7, .long 0), (0, .ref (ad.1 16 0)), (1, .long y), (3, .long ys), (5, .int (nI s0)), (6, .int (nI 1))]) hx hb dX0_settlesBehind_1 hl (by decide) rfl (fun ls hl => ?_)
  refine lv_iload hx hb dX0_settlesBehind_3 (lv_at hl 4 rfl) ?_
  refine n_bipush (v := 64) hx hb dX0_settlesBehind_5 (by decide) ?_
  refine n_imul hx hb dX0_settlesBehind_7 ?_
  refine lv_istore (lv' := [(9, .int (nI (s0 * 64))), (7, .long 0), (0, .ref (ad.1 16 0)), (1, .long y), (3, .long ys), (5, .int (nI s0)), (6, .int (nI 1))]) hx hb dX0_settlesBehind_8 hl (by decide) rfl (fun ls hl => ?_)
  have lp10 : ∀ (n : Nat) (bf : Int64) (ii : Nat)  (H : Heap) (locs : List Loc) (ls : Array Slot), 64 * s0 + cn - ii < n → (64 * s0 ≤ ii) → (ii ≤ 64 * s0 + cn) → (SW S pp er y (dy s0) (fun z => stV S pp er dy nn ys 0 z (s0 + 1)) rep (ii - 64 * s0) bf) → oW D cA B0 ad d0 H → va_S (oA B0) s.heap H locs → lv_has ls 12 [(0, .ref (ad.1 16 0)), (1, .long y), (3, .long ys), (5, .int (nI s0)), (6, .int (nI 1)), (7, .long bf), (9, .int (nI ii))] → W p l e (oR 3 0 0) s m ([.ref (ad.1 16 0), .long y, .long ys, .int (nI s0), .int (nI 1)] : List Value).toArray below meth c H locs 0 0 (MQ below (oQi D cA B0 ad (fun r d1 => r = bI (sbV S pp er dy nn ys 0 y s0) ∧ d0 = d1)) ([.ref (ad.1 16 0), .long y, .long ys, .int (nI s0), .int (nI 1)] : List Value).toArray s 0 0 (oA B0)) (F0 m 10 ls []) := by
    intro n
    induction n with
    | zero => intro bf ii  H locs ls hmu; exact absurd hmu (Nat.not_lt_zero _)
    | succ n ih_lp10 =>
      intro bf ii  H locs ls hmu hi1 hi2 hSW hW hS hl
      refine lv_iload hx hb dX0_settlesBehind_10 (lv_at hl 6 rfl) ?_
      refine lv_iload hx hb dX0_settlesBehind_12 (lv_at hl 3 rfl) ?_
      refine n_bipush (v := 64) hx hb dX0_settlesBehind_14 (by decide) ?_
      refine n_imul hx hb dX0_settlesBehind_16 ?_
      refine lv_aload_n hx hb dX0_settlesBehind_17 rfl (lv_at hl 0 rfl) ?_
      refine x_gr hx hb hu in_X0 hown hK hW (hA.o (k := 16) rfl) (kX_16 _ _ _ _) rfl 2 (by decide) uF_X0_18 (hA.ah 2 (k := 19) (by decide)) dX0_settlesBehind_18 ?_
      refine lv_iload hx hb dX0_settlesBehind_21 (lv_at hl 3 rfl) ?_
      refine x_il hx hb hK hW (hA.o (k := 19) rfl) (kX_19 _ _ _ _) (by decide) (by omega) dX0_settlesBehind_23 ?_
      refine n_topi (y := nI cn) (h19) ?_
      refine n_iadd hx hb dX0_settlesBehind_24 ?_
      refine n_icmp_ge (tgt := 101) hx hb (by omega) (by omega) dX0_settlesBehind_25 (by decide) (fun c_1 => ?_) (fun c_1 => ?_)
      · refine n_iconst (v := 1) hx hb dX0_settlesBehind_101 (by decide) ?_
        exact o_zret hx hb hr hlocks (by first | rfl | exact z_bI _ | (split <;> first | rfl | (split <;> rfl))) hW hS (⟨by rw [sb_yes (k := 0) hSW (fun m hm hb => hcov m hm (hyx m hm hb)) (by omega)]; rfl, rfl⟩) dX0_settlesBehind_102
      · refine lv_lload_n hx hb dX0_settlesBehind_28 rfl (lv_at hl 1 rfl) ?_
        refine lv_aload_n hx hb dX0_settlesBehind_29 rfl (lv_at hl 0 rfl) ?_
        refine x_gr hx hb hu in_X0 hown hK hW (hA.o (k := 16) rfl) (kX_16 _ _ _ _) rfl 0 (by decide) uF_X0_9 (hA.ah 0 (k := 17) (by decide)) dX0_settlesBehind_30 ?_
        refine lv_iload hx hb dX0_settlesBehind_33 (lv_at hl 6 rfl) ?_
        refine x_ll hx hb hK hW (hA.o (k := 17) rfl) (kX_17 _ _ _ _) (by decide) (by omega) dX0_settlesBehind_35 ?_
        refine n_topl (y := sHB S pp x (dy s0) (sHole S pp (rep (ii - 64 * s0)) (dy s0))) (by have z := (hrep (ii - 64 * s0) (by omega)).2.2.1; rw [show 64 * s0 + (ii - 64 * s0) = ii by omega] at z; exact z) ?_
        refine lv_land hx hb dX0_settlesBehind_36 ?_
        refine n_topl (y := sHB S pp y (dy s0) (sHole S pp (rep (ii - 64 * s0)) (dy s0))) (and_HB hyx) ?_
        refine lv_lconst (v := 0) hx hb dX0_settlesBehind_37 (by decide) ?_
        refine W.lcmp hx hb dX0_settlesBehind_38 ?_
        have j55 : ∀ (lf : Int64)  (H : Heap) (locs : List Loc) (ls : Array Slot), (lfE S pp er y (dy s0) (rep (ii - 64 * s0)) lf) → oW D cA B0 ad d0 H → va_S (oA B0) s.heap H locs → lv_has ls 12 [(0, .ref (ad.1 16 0)), (1, .long y), (3, .long ys), (5, .int (nI s0)), (6, .int (nI 1)), (7, .long bf), (9, .int (nI ii))] → W p l e (oR 3 0 0) s m ([.ref (ad.1 16 0), .long y, .long ys, .int (nI s0), .int (nI 1)] : List Value).toArray below meth c H locs 0 0 (MQ below (oQi D cA B0 ad (fun r d1 => r = bI (sbV S pp er dy nn ys 0 y s0) ∧ d0 = d1)) ([.ref (ad.1 16 0), .long y, .long ys, .int (nI s0), .int (nI 1)] : List Value).toArray s 0 0 (oA B0)) (F0 m 55 ls [.long lf]) := by
          intro lf  H locs ls hlf hW hS hl
          refine lv_lstore (lv' := [(10, .long lf), (0, .ref (ad.1 16 0)), (1, .long y), (3, .long ys), (5, .int (nI s0)), (6, .int (nI 1)), (7, .long bf), (9, .int (nI ii))]) hx hb dX0_settlesBehind_55 hl (by decide) rfl (fun ls hl => ?_)
          refine lv_lload hx hb dX0_settlesBehind_57 (lv_at hl 0 rfl) ?_
          refine lv_lload hx hb dX0_settlesBehind_59 (lv_at hl 6 rfl) ?_
          refine lv_ldc2 (v := (-1)) hx hb hown (hu _ uK_X0_48) dX0_settlesBehind_61 ?_
          refine lv_lxor hx hb dX0_settlesBehind_64 ?_
          refine lv_land hx hb dX0_settlesBehind_65 ?_
          refine lv_lconst (v := 0) hx hb dX0_settlesBehind_66 (by decide) ?_
          refine W.lcmp hx hb dX0_settlesBehind_67 ?_
          refine lv_if_eq (tgt := 95) hx hb dX0_settlesBehind_68 (by decide) (fun c_b => ?_) (fun c_b => ?_)
          · have hSW2 := hSW.skip (fun h => stV_sub S pp er dy nn ys 0 (s0 + 1) h) hlf (lg0 c_b)
            refine n_iinc (q := 1) (lv' := [(9, .int (nI (ii + 1))), (10, .long lf), (0, .ref (ad.1 16 0)), (1, .long y), (3, .long ys), (5, .int (nI s0)), (6, .int (nI 1)), (7, .long bf)]) hx hb dX0_settlesBehind_95 hl (k := 7) rfl (by decide) (by decide) rfl (fun ls hl => ?_)
            refine lv_goto (tgt := 10) hx hb dX0_settlesBehind_98 (by decide) ?_
            exact ih_lp10 bf (ii + 1) _ _ ls (by omega) (by omega) (by omega) (by rw [show ii + 1 - 64 * s0 = (ii - 64 * s0) + 1 by omega]; exact hSW2) hW hS (lv_sub hl [2, 3, 4, 5, 6, 7, 0] rfl)
          · have hlx : ∀ m, m < 64 → hasB lf m = true → hasB x m = true := lf_sub hlf hyx
            have hl0 := and_nz (lg0n c_b)
            refine lv_aload_n hx hb dX0_settlesBehind_71 rfl (lv_at hl 1 rfl) ?_
            refine lv_lload hx hb dX0_settlesBehind_72 (lv_at hl 0 rfl) ?_
            refine lv_lload_n hx hb dX0_settlesBehind_74 rfl (lv_at hl 3 rfl) ?_
            refine lv_iload hx hb dX0_settlesBehind_75 (lv_at hl 4 rfl) ?_
            refine n_iconst (v := 1) hx hb dX0_settlesBehind_77 (by decide) ?_
            refine n_iadd hx hb dX0_settlesBehind_78 ?_
            refine lv_iload hx hb dX0_settlesBehind_79 (lv_at hl 5 rfl) ?_
            refine n_iconst (v := 1) hx hb dX0_settlesBehind_81 (by decide) ?_
            refine n_isub hx hb (by omega) dX0_settlesBehind_82 ?_
            refine n_top (b := 0) (rfl) ?_
            refine o_calli (o_runV (As := [.long lf, .long ys, .int (nI (s0 + 1)), .int (nI 0)]) (rest := []) ⟨hx, hb, hml, hown, hu⟩ (c_X0_canSettle_0 l D cA B0 ad hal S d0 hX pp er nn dy x hp hn6 hAL lf hlx ys (s0 + 1) (by omega)) (gV_X0_94 (fun _ h => h)) (n0 := 4) rfl (by decide +kernel) rfl ⟨Nat.le_of_ble_eq_true rfl, Nat.le_of_ble_eq_true rfl⟩ (o_recv hK hW (hA.o (k := 16) rfl) (kX_16 _ _ _ _) rfl) hK hW hB hS hl.1 rfl (lv_room (Nat.le_of_ble_eq_true rfl)) ⟨Nat.zero_le _, Nat.zero_le _⟩ dX0_settlesBehind_83) hS (fun r_3 d_2 q_4 H locs hW hS => ?_)
            obtain ⟨rfl, rfl⟩ := q_4
            refine lv_if_ne (tgt := 91) hx hb dX0_settlesBehind_86 (by decide) (fun c_s => ?_) (fun c_s => ?_)
            · have hSW2 := hSW.look hlf (show (fun z => stV S pp er dy nn ys 0 z (s0 + 1)) lf = true from bI_n c_s)
              refine lv_lload hx hb dX0_settlesBehind_91 (lv_at hl 0 rfl) ?_
              refine lv_lstore (lv' := [(7, .long lf), (10, .long lf), (0, .ref (ad.1 16 0)), (1, .long y), (3, .long ys), (5, .int (nI s0)), (6, .int (nI 1)), (9, .int (nI ii))]) hx hb dX0_settlesBehind_93 hl (by decide) rfl (fun ls hl => ?_)
              refine n_iinc (q := 1) (lv' := [(9, .int (nI (ii + 1))), (7, .long lf), (10, .long lf), (0, .ref (ad.1 16 0)), (1, .long y), (3, .long ys), (5, .int (nI s0)), (6, .int (nI 1))]) hx hb dX0_settlesBehind_95 hl (k := 7) rfl (by decide) (by decide) rfl (fun ls hl => ?_)
              refine lv_goto (tgt := 10) hx hb dX0_settlesBehind_98 (by decide) ?_
              exact ih_lp10 lf (ii + 1) _ _ ls (by omega) (by omega) (by omega) (by rw [show ii + 1 - 64 * s0 = (ii - 64 * s0) + 1 by omega]; exact hSW2) hW hS (lv_sub hl [3, 4, 5, 6, 7, 1, 0] rfl)
            · refine n_iconst (v := 0) hx hb dX0_settlesBehind_89 (by decide) ?_
              exact o_zret hx hb hr hlocks (by first | rfl | exact z_bI _ | (split <;> first | rfl | (split <;> rfl))) hW hS (⟨by rw [sb_no (k := 0) hlf hl0 (bI_z c_s)]; rfl, rfl⟩) dX0_settlesBehind_90
        refine lv_if_ne (tgt := 46) hx hb dX0_settlesBehind_39 (by decide) (fun c_h => ?_) (fun c_h => ?_)
        · refine lv_lload_n hx hb dX0_settlesBehind_46 rfl (lv_at hl 1 rfl) ?_
          refine lv_aload_n hx hb dX0_settlesBehind_47 rfl (lv_at hl 0 rfl) ?_
          refine x_gr hx hb hu in_X0 hown hK hW (hA.o (k := 16) rfl) (kX_16 _ _ _ _) rfl 1 (by decide) uF_X0_15 (hA.ah 1 (k := 18) (by decide)) dX0_settlesBehind_48 ?_
          refine lv_iload hx hb dX0_settlesBehind_51 (lv_at hl 6 rfl) ?_
          refine x_ll hx hb hK hW (hA.o (k := 18) rfl) (kX_18 _ _ _ _) (by decide) (by omega) dX0_settlesBehind_53 ?_
          refine n_topl (y := sLeft S pp x (dy s0) er (rep (ii - 64 * s0))) (by have z := (hrep (ii - 64 * s0) (by omega)).2.2.2; rw [show 64 * s0 + (ii - 64 * s0) = ii by omega] at z; exact z) ?_
          refine lv_land hx hb dX0_settlesBehind_54 ?_
          refine n_topl (y := sLeft S pp y (dy s0) er (rep (ii - 64 * s0))) (and_left hyx) ?_
          exact j55 (sLeft S pp y (dy s0) er (rep (ii - 64 * s0))) _ _ ls (by first | exact Or.inl ⟨lg0 c_h, rfl⟩ | exact Or.inr ⟨lg0n c_h, rfl⟩) hW hS (lv_sub hl [0, 1, 2, 3, 4, 5, 6] rfl)
        · refine lv_lconst (v := 0) hx hb dX0_settlesBehind_42 (by decide) ?_
          refine lv_goto (tgt := 55) hx hb dX0_settlesBehind_43 (by decide) ?_
          exact j55 0 _ _ ls (by first | exact Or.inl ⟨lg0 c_h, rfl⟩ | exact Or.inr ⟨lg0n c_h, rfl⟩) hW hS (lv_sub hl [0, 1, 2, 3, 4, 5, 6] rfl)
  exact lp10 (65) 0 (s0 * 64) _ _ ls (by omega) (by omega) (by omega) (⟨fun j hj => absurd hj (by omega), Or.inl rfl⟩) hW hS (lv_sub hl [2, 3, 4, 5, 6, 1, 0] rfl)

set_option maxHeartbeats 400000 in
set_option maxRecDepth 100000 in
theorem c_X0_canSettle_1 (l : Launch) (D : va_G) (cA : Nat → ClassId) (B0 : Nat) (ad : kA) (hal : mAl ad) (S : sS) (d0 : kD) (hX : XB cA ad S d0) (pp er nn : Nat) (dy : Nat → Nat) (x : Int64) (hp : pp < S 7 0) (hn6 : nn ≤ 6) (hAL : AL S pp er x dy nn d0) (y : Int64) (hyx : ∀ m, m < 64 → hasB y m = true → hasB x m = true) (ys : Int64) (i0 : Nat) (hi0 : i0 ≤ nn) : oM l yX0_canSettle wX0_canSettle 4 0 0 D cA B0 ad d0 ([.ref (ad.1 16 0), .long y, .long ys, .int (nI i0), .int (nI 1)] : List Value) (oQi D cA B0 ad (fun r d1 => r = bI (stV S pp er dy nn ys 1 y i0) ∧ d0 = d1)) := by
  refine o_ofW (cc := cX0_canSettle) (maxL := 8) (ret := some .boolean) (by decide) rfl (Nat.le_of_ble_eq_true rfl) ?_
  intro p e s m below meth c hx hb hr hml hts hown hlocks hnm hK hW hB hS ls hl
  have hu : ∀ w ∈ UW, w.before _ s = true := fun w h => hts w (uw_c w h)
  have hl : lv_has ls 8 [(0, .ref (ad.1 16 0)), (1, .long y), (3, .long ys), (5, .int (nI i0)), (6, .int (nI 1))] := hl
  have hA := hX.1
  have hG := hX.2.2
  have hb7 : S 7 0 ≤ 8 := hG.f 7 (mx := 8) (by decide)
  have hb11 : S 11 0 ≤ 20 := hG.f 11 (mx := 20) (by decide)
  have hb18 : S 18 0 ≤ 40 := hG.f 18 (mx := 40) (by decide)
  refine lv_lload_n hx hb dX0_canSettle_0 rfl (lv_at hl 1 rfl) ?_
  refine lv_lload_n hx hb dX0_canSettle_1 rfl (lv_at hl 2 rfl) ?_
  refine lv_land hx hb dX0_canSettle_2 ?_
  refine lv_lconst (v := 0) hx hb dX0_canSettle_3 (by decide) ?_
  refine W.lcmp hx hb dX0_canSettle_4 ?_
  refine lv_if_eq (tgt := 20) hx hb dX0_canSettle_5 (by decide) (fun c_1 => ?_) (fun c_1 => ?_)
  · have hb0 : stB ys y = true := stB_t (Or.inl (lg0 c_1))
    refine n_iconst (v := 1) hx hb dX0_canSettle_20 (by decide) ?_
    exact o_zret hx hb hr hlocks (by first | rfl | exact z_bI _ | (split <;> first | rfl | (split <;> rfl))) hW hS (⟨by rw [stV_suc, hb0, Bool.true_or]; rfl, rfl⟩) dX0_canSettle_21
  · refine lv_lload_n hx hb dX0_canSettle_8 rfl (lv_at hl 1 rfl) ?_
    refine lv_lload_n hx hb dX0_canSettle_9 rfl (lv_at hl 2 rfl) ?_
    refine lv_ldc2 (v := (-1)) hx hb hown (hu _ uK_X0_48) dX0_canSettle_10 ?_
    refine lv_lxor hx hb dX0_canSettle_13 ?_
    refine lv_land hx hb dX0_canSettle_14 ?_
    refine lv_lconst (v := 0) hx hb dX0_canSettle_15 (by decide) ?_
    refine W.lcmp hx hb dX0_canSettle_16 ?_
    refine lv_if_ne (tgt := 22) hx hb dX0_canSettle_17 (by decide) (fun c_2 => ?_) (fun c_2 => ?_)
    · have hb0 : stB ys y = false := stB_f (lg0n c_1) (fun q => lg0n c_2 (st_alt.mpr q))
      refine lv_iload hx hb dX0_canSettle_22 (lv_at hl 4 rfl) ?_
      refine n_if_gt (tgt := 29) hx hb (by omega) dX0_canSettle_24 (by decide) (fun c_k => ?_) (fun c_k => ?_)
      · refine lv_iload hx hb dX0_canSettle_29 (lv_at hl 3 rfl) ?_
        refine lv_istore (lv' := [(7, .int (nI i0)), (0, .ref (ad.1 16 0)), (1, .long y), (3, .long ys), (5, .int (nI i0)), (6, .int (nI 1))]) hx hb dX0_canSettle_31 hl (by decide) rfl (fun ls hl => ?_)
        have lp33 : ∀ (n : Nat) (j0 : Nat)  (H : Heap) (locs : List Loc) (ls : Array Slot), nn - j0 < n → (i0 ≤ j0) → (j0 ≤ nn) → (anyL (fun j => sbV S pp er dy nn ys 0 y (i0 + j)) (j0 - i0) = false) → oW D cA B0 ad d0 H → va_S (oA B0) s.heap H locs → lv_has ls 8 [(0, .ref (ad.1 16 0)), (1, .long y), (3, .long ys), (5, .int (nI i0)), (6, .int (nI 1)), (7, .int (nI j0))] → W p l e (oR 4 0 0) s m ([.ref (ad.1 16 0), .long y, .long ys, .int (nI i0), .int (nI 1)] : List Value).toArray below meth c H locs 0 0 (MQ below (oQi D cA B0 ad (fun r d1 => r = bI (stV S pp er dy nn ys 1 y i0) ∧ d0 = d1)) ([.ref (ad.1 16 0), .long y, .long ys, .int (nI i0), .int (nI 1)] : List Value).toArray s 0 0 (oA B0)) (F0 m 33 ls []) := by
          intro n
          induction n with
          | zero => intro j0  H locs ls hmu; exact absurd hmu (Nat.not_lt_zero _)
          | succ n ih_lp33 =>
            intro j0  H locs ls hmu hj1 hj2 hany hW hS hl
            refine lv_iload hx hb dX0_canSettle_33 (lv_at hl 5 rfl) ?_
            refine lv_aload_n hx hb dX0_canSettle_35 rfl (lv_at hl 0 rfl) ?_
            refine x_gi hx hb hu in_X0 hown hK hW (hA.o (k := 16) rfl) (kX_16 _ _ _ _) rfl 5 (by decide) uF_X0_28 dX0_canSettle_36 ?_
            refine n_topi (y := nI nn) (hAL.1) ?_
            refine n_icmp_ge (tgt := 63) hx hb (by omega) (by omega) dX0_canSettle_39 (by decide) (fun c_1 => ?_) (fun c_1 => ?_)
            · refine n_iconst (v := 0) hx hb dX0_canSettle_63 (by decide) ?_
              exact o_zret hx hb hr hlocks (by first | rfl | exact z_bI _ | (split <;> first | rfl | (split <;> rfl))) hW hS (⟨by rw [stV_suc, hb0, show nn - i0 = j0 - i0 by omega, hany]; rfl, rfl⟩) dX0_canSettle_64
            · refine lv_aload_n hx hb dX0_canSettle_42 rfl (lv_at hl 0 rfl) ?_
              refine lv_lload_n hx hb dX0_canSettle_43 rfl (lv_at hl 1 rfl) ?_
              refine lv_lload_n hx hb dX0_canSettle_44 rfl (lv_at hl 2 rfl) ?_
              refine lv_iload hx hb dX0_canSettle_45 (lv_at hl 5 rfl) ?_
              refine lv_iload hx hb dX0_canSettle_47 (lv_at hl 4 rfl) ?_
              refine o_calli (o_runV (As := [.long y, .long ys, .int (nI j0), .int (nI 1)]) (rest := []) ⟨hx, hb, hml, hown, hu⟩ (c_X0_settlesBehind_1 l D cA B0 ad hal S d0 hX pp er nn dy x hp hn6 hAL y hyx ys j0 (by omega)) (gV_X0_98 (fun _ h => h)) (n0 := 4) rfl (by decide +kernel) rfl ⟨Nat.le_of_ble_eq_true rfl, Nat.le_of_ble_eq_true rfl⟩ (o_recv hK hW (hA.o (k := 16) rfl) (kX_16 _ _ _ _) rfl) hK hW hB hS hl.1 rfl (lv_room (Nat.le_of_ble_eq_true rfl)) ⟨Nat.zero_le _, Nat.zero_le _⟩ dX0_canSettle_49) hS (fun r_3 d_2 q_4 H locs hW hS => ?_)
              obtain ⟨rfl, rfl⟩ := q_4
              refine lv_if_eq (tgt := 57) hx hb dX0_canSettle_52 (by decide) (fun c_s => ?_) (fun c_s => ?_)
              · have hsb : sbV S pp er dy nn ys 0 y j0 = false := bI_z c_s
                refine n_iinc (q := 1) (lv' := [(7, .int (nI (j0 + 1))), (0, .ref (ad.1 16 0)), (1, .long y), (3, .long ys), (5, .int (nI i0)), (6, .int (nI 1))]) hx hb dX0_canSettle_57 hl (k := 5) rfl (by decide) (by decide) rfl (fun ls hl => ?_)
                refine lv_goto (tgt := 33) hx hb dX0_canSettle_60 (by decide) ?_
                exact ih_lp33 (j0 + 1) _ _ ls (by omega) (by omega) (by omega) (by rw [show j0 + 1 - i0 = (j0 - i0) + 1 by omega]; exact anyL_f hany (by show sbV S pp er dy nn ys 0 y (i0 + (j0 - i0)) = false; rw [show i0 + (j0 - i0) = j0 by omega]; exact hsb)) hW hS (lv_sub hl [1, 2, 3, 4, 5, 0] rfl)
              · have hsb : sbV S pp er dy nn ys 0 y j0 = true := bI_n c_s
                refine n_iconst (v := 1) hx hb dX0_canSettle_55 (by decide) ?_
                exact o_zret hx hb hr hlocks (by first | rfl | exact z_bI _ | (split <;> first | rfl | (split <;> rfl))) hW hS (⟨by rw [stV_suc, anyL_t (nn - i0) (j := j0 - i0) (by omega) (by show sbV S pp er dy nn ys 0 y (i0 + (j0 - i0)) = true; rw [show i0 + (j0 - i0) = j0 by omega]; exact hsb), Bool.or_true]; rfl, rfl⟩) dX0_canSettle_56
        exact lp33 (nn + 1) i0 _ _ ls (by omega) (by omega) (by omega) (by rw [Nat.sub_self]; rfl) hW hS (lv_sub hl [1, 2, 3, 4, 5, 0] rfl)
      · exfalso; omega
    · have hb0 : stB ys y = true := stB_t (Or.inr (st_alt.mp (lg0 c_2)))
      refine n_iconst (v := 1) hx hb dX0_canSettle_20 (by decide) ?_
      exact o_zret hx hb hr hlocks (by first | rfl | exact z_bI _ | (split <;> first | rfl | (split <;> rfl))) hW hS (⟨by rw [stV_suc, hb0, Bool.true_or]; rfl, rfl⟩) dX0_canSettle_21

set_option maxHeartbeats 400000 in
set_option maxRecDepth 100000 in
theorem c_X0_settlesBehind_2 (l : Launch) (D : va_G) (cA : Nat → ClassId) (B0 : Nat) (ad : kA) (hal : mAl ad) (S : sS) (d0 : kD) (hX : XB cA ad S d0) (pp er nn : Nat) (dy : Nat → Nat) (x : Int64) (hp : pp < S 7 0) (hn6 : nn ≤ 6) (hAL : AL S pp er x dy nn d0) (y : Int64) (hyx : ∀ m, m < 64 → hasB y m = true → hasB x m = true) (ys : Int64) (s0 : Nat) (hs0 : s0 < nn) : oM l yX0_settlesBehind wX0_settlesBehind 5 0 0 D cA B0 ad d0 ([.ref (ad.1 16 0), .long y, .long ys, .int (nI s0), .int (nI 2)] : List Value) (oQi D cA B0 ad (fun r d1 => r = bI (sbV S pp er dy nn ys 1 y s0) ∧ d0 = d1)) := by
  refine o_ofW (cc := cX0_settlesBehind) (maxL := 12) (ret := some .boolean) (by decide) rfl (Nat.le_of_ble_eq_true rfl) ?_
  intro p e s m below meth c hx hb hr hml hts hown hlocks hnm hK hW hB hS ls hl
  have hu : ∀ w ∈ UW, w.before _ s = true := fun w h => hts w (uw_c w h)
  have hl : lv_has ls 12 [(0, .ref (ad.1 16 0)), (1, .long y), (3, .long ys), (5, .int (nI s0)), (6, .int (nI 2))] := hl
  have hA := hX.1
  have hG := hX.2.2
  have hb7 : S 7 0 ≤ 8 := hG.f 7 (mx := 8) (by decide)
  have hb11 : S 11 0 ≤ 20 := hG.f 11 (mx := 20) (by decide)
  have hb18 : S 18 0 ≤ 40 := hG.f 18 (mx := 40) (by decide)
  obtain ⟨cn, hc6, h19, rep, hrep, hcov⟩ := hAL.2 s0 hs0
  refine lv_lconst (v := 0) hx hb dX0_settlesBehind_0 (by decide) ?_
  refine lv_lstore (lv' := [(7, .long 0), (0, .ref (ad.1 16 0)), (1, .long y), (3, .long ys), (5, .int (nI s0)), (6, .int (nI 2))]) hx hb dX0_settlesBehind_1 hl (by decide) rfl (fun ls hl => ?_)
  refine lv_iload hx hb dX0_settlesBehind_3 (lv_at hl 4 rfl) ?_
  refine n_bipush (v := 64) hx hb dX0_settlesBehind_5 (by decide) ?_
  refine n_imul hx hb dX0_settlesBehind_7 ?_
  refine lv_istore (lv' := [(9, .int (nI (s0 * 64))), (7, .long 0), (0, .ref (ad.1 16 0)), (1, .long y), (3, .long ys), (5, .int (nI s0)), (6, .int (nI 2))]) hx hb dX0_settlesBehind_8 hl (by decide) rfl (fun ls hl => ?_)
  have lp10 : ∀ (n : Nat) (bf : Int64) (ii : Nat)  (H : Heap) (locs : List Loc) (ls : Array Slot), 64 * s0 + cn - ii < n → (64 * s0 ≤ ii) → (ii ≤ 64 * s0 + cn) → (SW S pp er y (dy s0) (fun z => stV S pp er dy nn ys 1 z (s0 + 1)) rep (ii - 64 * s0) bf) → oW D cA B0 ad d0 H → va_S (oA B0) s.heap H locs → lv_has ls 12 [(0, .ref (ad.1 16 0)), (1, .long y), (3, .long ys), (5, .int (nI s0)), (6, .int (nI 2)), (7, .long bf), (9, .int (nI ii))] → W p l e (oR 5 0 0) s m ([.ref (ad.1 16 0), .long y, .long ys, .int (nI s0), .int (nI 2)] : List Value).toArray below meth c H locs 0 0 (MQ below (oQi D cA B0 ad (fun r d1 => r = bI (sbV S pp er dy nn ys 1 y s0) ∧ d0 = d1)) ([.ref (ad.1 16 0), .long y, .long ys, .int (nI s0), .int (nI 2)] : List Value).toArray s 0 0 (oA B0)) (F0 m 10 ls []) := by
    intro n
    induction n with
    | zero => intro bf ii  H locs ls hmu; exact absurd hmu (Nat.not_lt_zero _)
    | succ n ih_lp10 =>
      intro bf ii  H locs ls hmu hi1 hi2 hSW hW hS hl
      refine lv_iload hx hb dX0_settlesBehind_10 (lv_at hl 6 rfl) ?_
      refine lv_iload hx hb dX0_settlesBehind_12 (lv_at hl 3 rfl) ?_
      refine n_bipush (v := 64) hx hb dX0_settlesBehind_14 (by decide) ?_
      refine n_imul hx hb dX0_settlesBehind_16 ?_
      refine lv_aload_n hx hb dX0_settlesBehind_17 rfl (lv_at hl 0 rfl) ?_
      refine x_gr hx hb hu in_X0 hown hK hW (hA.o (k := 16) rfl) (kX_16 _ _ _ _) rfl 2 (by decide) uF_X0_18 (hA.ah 2 (k := 19) (by decide)) dX0_settlesBehind_18 ?_
      refine lv_iload hx hb dX0_settlesBehind_21 (lv_at hl 3 rfl) ?_
      refine x_il hx hb hK hW (hA.o (k := 19) rfl) (kX_19 _ _ _ _) (by decide) (by omega) dX0_settlesBehind_23 ?_
      refine n_topi (y := nI cn) (h19) ?_
      refine n_iadd hx hb dX0_settlesBehind_24 ?_
      refine n_icmp_ge (tgt := 101) hx hb (by omega) (by omega) dX0_settlesBehind_25 (by decide) (fun c_1 => ?_) (fun c_1 => ?_)
      · refine n_iconst (v := 1) hx hb dX0_settlesBehind_101 (by decide) ?_
        exact o_zret hx hb hr hlocks (by first | rfl | exact z_bI _ | (split <;> first | rfl | (split <;> rfl))) hW hS (⟨by rw [sb_yes (k := 1) hSW (fun m hm hb => hcov m hm (hyx m hm hb)) (by omega)]; rfl, rfl⟩) dX0_settlesBehind_102
      · refine lv_lload_n hx hb dX0_settlesBehind_28 rfl (lv_at hl 1 rfl) ?_
        refine lv_aload_n hx hb dX0_settlesBehind_29 rfl (lv_at hl 0 rfl) ?_
        refine x_gr hx hb hu in_X0 hown hK hW (hA.o (k := 16) rfl) (kX_16 _ _ _ _) rfl 0 (by decide) uF_X0_9 (hA.ah 0 (k := 17) (by decide)) dX0_settlesBehind_30 ?_
        refine lv_iload hx hb dX0_settlesBehind_33 (lv_at hl 6 rfl) ?_
        refine x_ll hx hb hK hW (hA.o (k := 17) rfl) (kX_17 _ _ _ _) (by decide) (by omega) dX0_settlesBehind_35 ?_
        refine n_topl (y := sHB S pp x (dy s0) (sHole S pp (rep (ii - 64 * s0)) (dy s0))) (by have z := (hrep (ii - 64 * s0) (by omega)).2.2.1; rw [show 64 * s0 + (ii - 64 * s0) = ii by omega] at z; exact z) ?_
        refine lv_land hx hb dX0_settlesBehind_36 ?_
        refine n_topl (y := sHB S pp y (dy s0) (sHole S pp (rep (ii - 64 * s0)) (dy s0))) (and_HB hyx) ?_
        refine lv_lconst (v := 0) hx hb dX0_settlesBehind_37 (by decide) ?_
        refine W.lcmp hx hb dX0_settlesBehind_38 ?_
        have j55 : ∀ (lf : Int64)  (H : Heap) (locs : List Loc) (ls : Array Slot), (lfE S pp er y (dy s0) (rep (ii - 64 * s0)) lf) → oW D cA B0 ad d0 H → va_S (oA B0) s.heap H locs → lv_has ls 12 [(0, .ref (ad.1 16 0)), (1, .long y), (3, .long ys), (5, .int (nI s0)), (6, .int (nI 2)), (7, .long bf), (9, .int (nI ii))] → W p l e (oR 5 0 0) s m ([.ref (ad.1 16 0), .long y, .long ys, .int (nI s0), .int (nI 2)] : List Value).toArray below meth c H locs 0 0 (MQ below (oQi D cA B0 ad (fun r d1 => r = bI (sbV S pp er dy nn ys 1 y s0) ∧ d0 = d1)) ([.ref (ad.1 16 0), .long y, .long ys, .int (nI s0), .int (nI 2)] : List Value).toArray s 0 0 (oA B0)) (F0 m 55 ls [.long lf]) := by
          intro lf  H locs ls hlf hW hS hl
          refine lv_lstore (lv' := [(10, .long lf), (0, .ref (ad.1 16 0)), (1, .long y), (3, .long ys), (5, .int (nI s0)), (6, .int (nI 2)), (7, .long bf), (9, .int (nI ii))]) hx hb dX0_settlesBehind_55 hl (by decide) rfl (fun ls hl => ?_)
          refine lv_lload hx hb dX0_settlesBehind_57 (lv_at hl 0 rfl) ?_
          refine lv_lload hx hb dX0_settlesBehind_59 (lv_at hl 6 rfl) ?_
          refine lv_ldc2 (v := (-1)) hx hb hown (hu _ uK_X0_48) dX0_settlesBehind_61 ?_
          refine lv_lxor hx hb dX0_settlesBehind_64 ?_
          refine lv_land hx hb dX0_settlesBehind_65 ?_
          refine lv_lconst (v := 0) hx hb dX0_settlesBehind_66 (by decide) ?_
          refine W.lcmp hx hb dX0_settlesBehind_67 ?_
          refine lv_if_eq (tgt := 95) hx hb dX0_settlesBehind_68 (by decide) (fun c_b => ?_) (fun c_b => ?_)
          · have hSW2 := hSW.skip (fun h => stV_sub S pp er dy nn ys 1 (s0 + 1) h) hlf (lg0 c_b)
            refine n_iinc (q := 1) (lv' := [(9, .int (nI (ii + 1))), (10, .long lf), (0, .ref (ad.1 16 0)), (1, .long y), (3, .long ys), (5, .int (nI s0)), (6, .int (nI 2)), (7, .long bf)]) hx hb dX0_settlesBehind_95 hl (k := 7) rfl (by decide) (by decide) rfl (fun ls hl => ?_)
            refine lv_goto (tgt := 10) hx hb dX0_settlesBehind_98 (by decide) ?_
            exact ih_lp10 bf (ii + 1) _ _ ls (by omega) (by omega) (by omega) (by rw [show ii + 1 - 64 * s0 = (ii - 64 * s0) + 1 by omega]; exact hSW2) hW hS (lv_sub hl [2, 3, 4, 5, 6, 7, 0] rfl)
          · have hlx : ∀ m, m < 64 → hasB lf m = true → hasB x m = true := lf_sub hlf hyx
            have hl0 := and_nz (lg0n c_b)
            refine lv_aload_n hx hb dX0_settlesBehind_71 rfl (lv_at hl 1 rfl) ?_
            refine lv_lload hx hb dX0_settlesBehind_72 (lv_at hl 0 rfl) ?_
            refine lv_lload_n hx hb dX0_settlesBehind_74 rfl (lv_at hl 3 rfl) ?_
            refine lv_iload hx hb dX0_settlesBehind_75 (lv_at hl 4 rfl) ?_
            refine n_iconst (v := 1) hx hb dX0_settlesBehind_77 (by decide) ?_
            refine n_iadd hx hb dX0_settlesBehind_78 ?_
            refine lv_iload hx hb dX0_settlesBehind_79 (lv_at hl 5 rfl) ?_
            refine n_iconst (v := 1) hx hb dX0_settlesBehind_81 (by decide) ?_
            refine n_isub hx hb (by omega) dX0_settlesBehind_82 ?_
            refine n_top (b := 1) (rfl) ?_
            refine o_calli (o_runV (As := [.long lf, .long ys, .int (nI (s0 + 1)), .int (nI 1)]) (rest := []) ⟨hx, hb, hml, hown, hu⟩ (c_X0_canSettle_1 l D cA B0 ad hal S d0 hX pp er nn dy x hp hn6 hAL lf hlx ys (s0 + 1) (by omega)) (gV_X0_94 (fun _ h => h)) (n0 := 4) rfl (by decide +kernel) rfl ⟨Nat.le_of_ble_eq_true rfl, Nat.le_of_ble_eq_true rfl⟩ (o_recv hK hW (hA.o (k := 16) rfl) (kX_16 _ _ _ _) rfl) hK hW hB hS hl.1 rfl (lv_room (Nat.le_of_ble_eq_true rfl)) ⟨Nat.zero_le _, Nat.zero_le _⟩ dX0_settlesBehind_83) hS (fun r_3 d_2 q_4 H locs hW hS => ?_)
            obtain ⟨rfl, rfl⟩ := q_4
            refine lv_if_ne (tgt := 91) hx hb dX0_settlesBehind_86 (by decide) (fun c_s => ?_) (fun c_s => ?_)
            · have hSW2 := hSW.look hlf (show (fun z => stV S pp er dy nn ys 1 z (s0 + 1)) lf = true from bI_n c_s)
              refine lv_lload hx hb dX0_settlesBehind_91 (lv_at hl 0 rfl) ?_
              refine lv_lstore (lv' := [(7, .long lf), (10, .long lf), (0, .ref (ad.1 16 0)), (1, .long y), (3, .long ys), (5, .int (nI s0)), (6, .int (nI 2)), (9, .int (nI ii))]) hx hb dX0_settlesBehind_93 hl (by decide) rfl (fun ls hl => ?_)
              refine n_iinc (q := 1) (lv' := [(9, .int (nI (ii + 1))), (7, .long lf), (10, .long lf), (0, .ref (ad.1 16 0)), (1, .long y), (3, .long ys), (5, .int (nI s0)), (6, .int (nI 2))]) hx hb dX0_settlesBehind_95 hl (k := 7) rfl (by decide) (by decide) rfl (fun ls hl => ?_)
              refine lv_goto (tgt := 10) hx hb dX0_settlesBehind_98 (by decide) ?_
              exact ih_lp10 lf (ii + 1) _ _ ls (by omega) (by omega) (by omega) (by rw [show ii + 1 - 64 * s0 = (ii - 64 * s0) + 1 by omega]; exact hSW2) hW hS (lv_sub hl [3, 4, 5, 6, 7, 1, 0] rfl)
            · refine n_iconst (v := 0) hx hb dX0_settlesBehind_89 (by decide) ?_
              exact o_zret hx hb hr hlocks (by first | rfl | exact z_bI _ | (split <;> first | rfl | (split <;> rfl))) hW hS (⟨by rw [sb_no (k := 1) hlf hl0 (bI_z c_s)]; rfl, rfl⟩) dX0_settlesBehind_90
        refine lv_if_ne (tgt := 46) hx hb dX0_settlesBehind_39 (by decide) (fun c_h => ?_) (fun c_h => ?_)
        · refine lv_lload_n hx hb dX0_settlesBehind_46 rfl (lv_at hl 1 rfl) ?_
          refine lv_aload_n hx hb dX0_settlesBehind_47 rfl (lv_at hl 0 rfl) ?_
          refine x_gr hx hb hu in_X0 hown hK hW (hA.o (k := 16) rfl) (kX_16 _ _ _ _) rfl 1 (by decide) uF_X0_15 (hA.ah 1 (k := 18) (by decide)) dX0_settlesBehind_48 ?_
          refine lv_iload hx hb dX0_settlesBehind_51 (lv_at hl 6 rfl) ?_
          refine x_ll hx hb hK hW (hA.o (k := 18) rfl) (kX_18 _ _ _ _) (by decide) (by omega) dX0_settlesBehind_53 ?_
          refine n_topl (y := sLeft S pp x (dy s0) er (rep (ii - 64 * s0))) (by have z := (hrep (ii - 64 * s0) (by omega)).2.2.2; rw [show 64 * s0 + (ii - 64 * s0) = ii by omega] at z; exact z) ?_
          refine lv_land hx hb dX0_settlesBehind_54 ?_
          refine n_topl (y := sLeft S pp y (dy s0) er (rep (ii - 64 * s0))) (and_left hyx) ?_
          exact j55 (sLeft S pp y (dy s0) er (rep (ii - 64 * s0))) _ _ ls (by first | exact Or.inl ⟨lg0 c_h, rfl⟩ | exact Or.inr ⟨lg0n c_h, rfl⟩) hW hS (lv_sub hl [0, 1, 2, 3, 4, 5, 6] rfl)
        · refine lv_lconst (v := 0) hx hb dX0_settlesBehind_42 (by decide) ?_
          refine lv_goto (tgt := 55) hx hb dX0_settlesBehind_43 (by decide) ?_
          exact j55 0 _ _ ls (by first | exact Or.inl ⟨lg0 c_h, rfl⟩ | exact Or.inr ⟨lg0n c_h, rfl⟩) hW hS (lv_sub hl [0, 1, 2, 3, 4, 5, 6] rfl)
  exact lp10 (65) 0 (s0 * 64) _ _ ls (by omega) (by omega) (by omega) (⟨fun j hj => absurd hj (by omega), Or.inl rfl⟩) hW hS (lv_sub hl [2, 3, 4, 5, 6, 1, 0] rfl)

set_option maxHeartbeats 400000 in
set_option maxRecDepth 100000 in
theorem c_X0_canSettle_2 (l : Launch) (D : va_G) (cA : Nat → ClassId) (B0 : Nat) (ad : kA) (hal : mAl ad) (S : sS) (d0 : kD) (hX : XB cA ad S d0) (pp er nn : Nat) (dy : Nat → Nat) (x : Int64) (hp : pp < S 7 0) (hn6 : nn ≤ 6) (hAL : AL S pp er x dy nn d0) (y : Int64) (hyx : ∀ m, m < 64 → hasB y m = true → hasB x m = true) (ys : Int64) (i0 : Nat) (hi0 : i0 ≤ nn) : oM l yX0_canSettle wX0_canSettle 6 0 0 D cA B0 ad d0 ([.ref (ad.1 16 0), .long y, .long ys, .int (nI i0), .int (nI 2)] : List Value) (oQi D cA B0 ad (fun r d1 => r = bI (stV S pp er dy nn ys 2 y i0) ∧ d0 = d1)) := by
  refine o_ofW (cc := cX0_canSettle) (maxL := 8) (ret := some .boolean) (by decide) rfl (Nat.le_of_ble_eq_true rfl) ?_
  intro p e s m below meth c hx hb hr hml hts hown hlocks hnm hK hW hB hS ls hl
  have hu : ∀ w ∈ UW, w.before _ s = true := fun w h => hts w (uw_c w h)
  have hl : lv_has ls 8 [(0, .ref (ad.1 16 0)), (1, .long y), (3, .long ys), (5, .int (nI i0)), (6, .int (nI 2))] := hl
  have hA := hX.1
  have hG := hX.2.2
  have hb7 : S 7 0 ≤ 8 := hG.f 7 (mx := 8) (by decide)
  have hb11 : S 11 0 ≤ 20 := hG.f 11 (mx := 20) (by decide)
  have hb18 : S 18 0 ≤ 40 := hG.f 18 (mx := 40) (by decide)
  refine lv_lload_n hx hb dX0_canSettle_0 rfl (lv_at hl 1 rfl) ?_
  refine lv_lload_n hx hb dX0_canSettle_1 rfl (lv_at hl 2 rfl) ?_
  refine lv_land hx hb dX0_canSettle_2 ?_
  refine lv_lconst (v := 0) hx hb dX0_canSettle_3 (by decide) ?_
  refine W.lcmp hx hb dX0_canSettle_4 ?_
  refine lv_if_eq (tgt := 20) hx hb dX0_canSettle_5 (by decide) (fun c_1 => ?_) (fun c_1 => ?_)
  · have hb0 : stB ys y = true := stB_t (Or.inl (lg0 c_1))
    refine n_iconst (v := 1) hx hb dX0_canSettle_20 (by decide) ?_
    exact o_zret hx hb hr hlocks (by first | rfl | exact z_bI _ | (split <;> first | rfl | (split <;> rfl))) hW hS (⟨by rw [stV_suc, hb0, Bool.true_or]; rfl, rfl⟩) dX0_canSettle_21
  · refine lv_lload_n hx hb dX0_canSettle_8 rfl (lv_at hl 1 rfl) ?_
    refine lv_lload_n hx hb dX0_canSettle_9 rfl (lv_at hl 2 rfl) ?_
    refine lv_ldc2 (v := (-1)) hx hb hown (hu _ uK_X0_48) dX0_canSettle_10 ?_
    refine lv_lxor hx hb dX0_canSettle_13 ?_
    refine lv_land hx hb dX0_canSettle_14 ?_
    refine lv_lconst (v := 0) hx hb dX0_canSettle_15 (by decide) ?_
    refine W.lcmp hx hb dX0_canSettle_16 ?_
    refine lv_if_ne (tgt := 22) hx hb dX0_canSettle_17 (by decide) (fun c_2 => ?_) (fun c_2 => ?_)
    · have hb0 : stB ys y = false := stB_f (lg0n c_1) (fun q => lg0n c_2 (st_alt.mpr q))
      refine lv_iload hx hb dX0_canSettle_22 (lv_at hl 4 rfl) ?_
      refine n_if_gt (tgt := 29) hx hb (by omega) dX0_canSettle_24 (by decide) (fun c_k => ?_) (fun c_k => ?_)
      · refine lv_iload hx hb dX0_canSettle_29 (lv_at hl 3 rfl) ?_
        refine lv_istore (lv' := [(7, .int (nI i0)), (0, .ref (ad.1 16 0)), (1, .long y), (3, .long ys), (5, .int (nI i0)), (6, .int (nI 2))]) hx hb dX0_canSettle_31 hl (by decide) rfl (fun ls hl => ?_)
        have lp33 : ∀ (n : Nat) (j0 : Nat)  (H : Heap) (locs : List Loc) (ls : Array Slot), nn - j0 < n → (i0 ≤ j0) → (j0 ≤ nn) → (anyL (fun j => sbV S pp er dy nn ys 1 y (i0 + j)) (j0 - i0) = false) → oW D cA B0 ad d0 H → va_S (oA B0) s.heap H locs → lv_has ls 8 [(0, .ref (ad.1 16 0)), (1, .long y), (3, .long ys), (5, .int (nI i0)), (6, .int (nI 2)), (7, .int (nI j0))] → W p l e (oR 6 0 0) s m ([.ref (ad.1 16 0), .long y, .long ys, .int (nI i0), .int (nI 2)] : List Value).toArray below meth c H locs 0 0 (MQ below (oQi D cA B0 ad (fun r d1 => r = bI (stV S pp er dy nn ys 2 y i0) ∧ d0 = d1)) ([.ref (ad.1 16 0), .long y, .long ys, .int (nI i0), .int (nI 2)] : List Value).toArray s 0 0 (oA B0)) (F0 m 33 ls []) := by
          intro n
          induction n with
          | zero => intro j0  H locs ls hmu; exact absurd hmu (Nat.not_lt_zero _)
          | succ n ih_lp33 =>
            intro j0  H locs ls hmu hj1 hj2 hany hW hS hl
            refine lv_iload hx hb dX0_canSettle_33 (lv_at hl 5 rfl) ?_
            refine lv_aload_n hx hb dX0_canSettle_35 rfl (lv_at hl 0 rfl) ?_
            refine x_gi hx hb hu in_X0 hown hK hW (hA.o (k := 16) rfl) (kX_16 _ _ _ _) rfl 5 (by decide) uF_X0_28 dX0_canSettle_36 ?_
            refine n_topi (y := nI nn) (hAL.1) ?_
            refine n_icmp_ge (tgt := 63) hx hb (by omega) (by omega) dX0_canSettle_39 (by decide) (fun c_1 => ?_) (fun c_1 => ?_)
            · refine n_iconst (v := 0) hx hb dX0_canSettle_63 (by decide) ?_
              exact o_zret hx hb hr hlocks (by first | rfl | exact z_bI _ | (split <;> first | rfl | (split <;> rfl))) hW hS (⟨by rw [stV_suc, hb0, show nn - i0 = j0 - i0 by omega, hany]; rfl, rfl⟩) dX0_canSettle_64
            · refine lv_aload_n hx hb dX0_canSettle_42 rfl (lv_at hl 0 rfl) ?_
              refine lv_lload_n hx hb dX0_canSettle_43 rfl (lv_at hl 1 rfl) ?_
              refine lv_lload_n hx hb dX0_canSettle_44 rfl (lv_at hl 2 rfl) ?_
              refine lv_iload hx hb dX0_canSettle_45 (lv_at hl 5 rfl) ?_
              refine lv_iload hx hb dX0_canSettle_47 (lv_at hl 4 rfl) ?_
              refine o_calli (o_runV (As := [.long y, .long ys, .int (nI j0), .int (nI 2)]) (rest := []) ⟨hx, hb, hml, hown, hu⟩ (c_X0_settlesBehind_2 l D cA B0 ad hal S d0 hX pp er nn dy x hp hn6 hAL y hyx ys j0 (by omega)) (gV_X0_98 (fun _ h => h)) (n0 := 4) rfl (by decide +kernel) rfl ⟨Nat.le_of_ble_eq_true rfl, Nat.le_of_ble_eq_true rfl⟩ (o_recv hK hW (hA.o (k := 16) rfl) (kX_16 _ _ _ _) rfl) hK hW hB hS hl.1 rfl (lv_room (Nat.le_of_ble_eq_true rfl)) ⟨Nat.zero_le _, Nat.zero_le _⟩ dX0_canSettle_49) hS (fun r_3 d_2 q_4 H locs hW hS => ?_)
              obtain ⟨rfl, rfl⟩ := q_4
              refine lv_if_eq (tgt := 57) hx hb dX0_canSettle_52 (by decide) (fun c_s => ?_) (fun c_s => ?_)
              · have hsb : sbV S pp er dy nn ys 1 y j0 = false := bI_z c_s
                refine n_iinc (q := 1) (lv' := [(7, .int (nI (j0 + 1))), (0, .ref (ad.1 16 0)), (1, .long y), (3, .long ys), (5, .int (nI i0)), (6, .int (nI 2))]) hx hb dX0_canSettle_57 hl (k := 5) rfl (by decide) (by decide) rfl (fun ls hl => ?_)
                refine lv_goto (tgt := 33) hx hb dX0_canSettle_60 (by decide) ?_
                exact ih_lp33 (j0 + 1) _ _ ls (by omega) (by omega) (by omega) (by rw [show j0 + 1 - i0 = (j0 - i0) + 1 by omega]; exact anyL_f hany (by show sbV S pp er dy nn ys 1 y (i0 + (j0 - i0)) = false; rw [show i0 + (j0 - i0) = j0 by omega]; exact hsb)) hW hS (lv_sub hl [1, 2, 3, 4, 5, 0] rfl)
              · have hsb : sbV S pp er dy nn ys 1 y j0 = true := bI_n c_s
                refine n_iconst (v := 1) hx hb dX0_canSettle_55 (by decide) ?_
                exact o_zret hx hb hr hlocks (by first | rfl | exact z_bI _ | (split <;> first | rfl | (split <;> rfl))) hW hS (⟨by rw [stV_suc, anyL_t (nn - i0) (j := j0 - i0) (by omega) (by show sbV S pp er dy nn ys 1 y (i0 + (j0 - i0)) = true; rw [show i0 + (j0 - i0) = j0 by omega]; exact hsb), Bool.or_true]; rfl, rfl⟩) dX0_canSettle_56
        exact lp33 (nn + 1) i0 _ _ ls (by omega) (by omega) (by omega) (by rw [Nat.sub_self]; rfl) hW hS (lv_sub hl [1, 2, 3, 4, 5, 0] rfl)
      · exfalso; omega
    · have hb0 : stB ys y = true := stB_t (Or.inr (st_alt.mp (lg0 c_2)))
      refine n_iconst (v := 1) hx hb dX0_canSettle_20 (by decide) ?_
      exact o_zret hx hb hr hlocks (by first | rfl | exact z_bI _ | (split <;> first | rfl | (split <;> rfl))) hW hS (⟨by rw [stV_suc, hb0, Bool.true_or]; rfl, rfl⟩) dX0_canSettle_21

set_option maxHeartbeats 400000 in
set_option maxRecDepth 100000 in
theorem c_X0_settlesBehind_3 (l : Launch) (D : va_G) (cA : Nat → ClassId) (B0 : Nat) (ad : kA) (hal : mAl ad) (S : sS) (d0 : kD) (hX : XB cA ad S d0) (pp er nn : Nat) (dy : Nat → Nat) (x : Int64) (hp : pp < S 7 0) (hn6 : nn ≤ 6) (hAL : AL S pp er x dy nn d0) (y : Int64) (hyx : ∀ m, m < 64 → hasB y m = true → hasB x m = true) (ys : Int64) (s0 : Nat) (hs0 : s0 < nn) : oM l yX0_settlesBehind wX0_settlesBehind 7 0 0 D cA B0 ad d0 ([.ref (ad.1 16 0), .long y, .long ys, .int (nI s0), .int (nI 3)] : List Value) (oQi D cA B0 ad (fun r d1 => r = bI (sbV S pp er dy nn ys 2 y s0) ∧ d0 = d1)) := by
  refine o_ofW (cc := cX0_settlesBehind) (maxL := 12) (ret := some .boolean) (by decide) rfl (Nat.le_of_ble_eq_true rfl) ?_
  intro p e s m below meth c hx hb hr hml hts hown hlocks hnm hK hW hB hS ls hl
  have hu : ∀ w ∈ UW, w.before _ s = true := fun w h => hts w (uw_c w h)
  have hl : lv_has ls 12 [(0, .ref (ad.1 16 0)), (1, .long y), (3, .long ys), (5, .int (nI s0)), (6, .int (nI 3))] := hl
  have hA := hX.1
  have hG := hX.2.2
  have hb7 : S 7 0 ≤ 8 := hG.f 7 (mx := 8) (by decide)
  have hb11 : S 11 0 ≤ 20 := hG.f 11 (mx := 20) (by decide)
  have hb18 : S 18 0 ≤ 40 := hG.f 18 (mx := 40) (by decide)
  obtain ⟨cn, hc6, h19, rep, hrep, hcov⟩ := hAL.2 s0 hs0
  refine lv_lconst (v := 0) hx hb dX0_settlesBehind_0 (by decide) ?_
  refine lv_lstore (lv' := [(7, .long 0), (0, .ref (ad.1 16 0)), (1, .long y), (3, .long ys), (5, .int (nI s0)), (6, .int (nI 3))]) hx hb dX0_settlesBehind_1 hl (by decide) rfl (fun ls hl => ?_)
  refine lv_iload hx hb dX0_settlesBehind_3 (lv_at hl 4 rfl) ?_
  refine n_bipush (v := 64) hx hb dX0_settlesBehind_5 (by decide) ?_
  refine n_imul hx hb dX0_settlesBehind_7 ?_
  refine lv_istore (lv' := [(9, .int (nI (s0 * 64))), (7, .long 0), (0, .ref (ad.1 16 0)), (1, .long y), (3, .long ys), (5, .int (nI s0)), (6, .int (nI 3))]) hx hb dX0_settlesBehind_8 hl (by decide) rfl (fun ls hl => ?_)
  have lp10 : ∀ (n : Nat) (bf : Int64) (ii : Nat)  (H : Heap) (locs : List Loc) (ls : Array Slot), 64 * s0 + cn - ii < n → (64 * s0 ≤ ii) → (ii ≤ 64 * s0 + cn) → (SW S pp er y (dy s0) (fun z => stV S pp er dy nn ys 2 z (s0 + 1)) rep (ii - 64 * s0) bf) → oW D cA B0 ad d0 H → va_S (oA B0) s.heap H locs → lv_has ls 12 [(0, .ref (ad.1 16 0)), (1, .long y), (3, .long ys), (5, .int (nI s0)), (6, .int (nI 3)), (7, .long bf), (9, .int (nI ii))] → W p l e (oR 7 0 0) s m ([.ref (ad.1 16 0), .long y, .long ys, .int (nI s0), .int (nI 3)] : List Value).toArray below meth c H locs 0 0 (MQ below (oQi D cA B0 ad (fun r d1 => r = bI (sbV S pp er dy nn ys 2 y s0) ∧ d0 = d1)) ([.ref (ad.1 16 0), .long y, .long ys, .int (nI s0), .int (nI 3)] : List Value).toArray s 0 0 (oA B0)) (F0 m 10 ls []) := by
    intro n
    induction n with
    | zero => intro bf ii  H locs ls hmu; exact absurd hmu (Nat.not_lt_zero _)
    | succ n ih_lp10 =>
      intro bf ii  H locs ls hmu hi1 hi2 hSW hW hS hl
      refine lv_iload hx hb dX0_settlesBehind_10 (lv_at hl 6 rfl) ?_
      refine lv_iload hx hb dX0_settlesBehind_12 (lv_at hl 3 rfl) ?_
      refine n_bipush (v := 64) hx hb dX0_settlesBehind_14 (by decide) ?_
      refine n_imul hx hb dX0_settlesBehind_16 ?_
      refine lv_aload_n hx hb dX0_settlesBehind_17 rfl (lv_at hl 0 rfl) ?_
      refine x_gr hx hb hu in_X0 hown hK hW (hA.o (k := 16) rfl) (kX_16 _ _ _ _) rfl 2 (by decide) uF_X0_18 (hA.ah 2 (k := 19) (by decide)) dX0_settlesBehind_18 ?_
      refine lv_iload hx hb dX0_settlesBehind_21 (lv_at hl 3 rfl) ?_
      refine x_il hx hb hK hW (hA.o (k := 19) rfl) (kX_19 _ _ _ _) (by decide) (by omega) dX0_settlesBehind_23 ?_
      refine n_topi (y := nI cn) (h19) ?_
      refine n_iadd hx hb dX0_settlesBehind_24 ?_
      refine n_icmp_ge (tgt := 101) hx hb (by omega) (by omega) dX0_settlesBehind_25 (by decide) (fun c_1 => ?_) (fun c_1 => ?_)
      · refine n_iconst (v := 1) hx hb dX0_settlesBehind_101 (by decide) ?_
        exact o_zret hx hb hr hlocks (by first | rfl | exact z_bI _ | (split <;> first | rfl | (split <;> rfl))) hW hS (⟨by rw [sb_yes (k := 2) hSW (fun m hm hb => hcov m hm (hyx m hm hb)) (by omega)]; rfl, rfl⟩) dX0_settlesBehind_102
      · refine lv_lload_n hx hb dX0_settlesBehind_28 rfl (lv_at hl 1 rfl) ?_
        refine lv_aload_n hx hb dX0_settlesBehind_29 rfl (lv_at hl 0 rfl) ?_
        refine x_gr hx hb hu in_X0 hown hK hW (hA.o (k := 16) rfl) (kX_16 _ _ _ _) rfl 0 (by decide) uF_X0_9 (hA.ah 0 (k := 17) (by decide)) dX0_settlesBehind_30 ?_
        refine lv_iload hx hb dX0_settlesBehind_33 (lv_at hl 6 rfl) ?_
        refine x_ll hx hb hK hW (hA.o (k := 17) rfl) (kX_17 _ _ _ _) (by decide) (by omega) dX0_settlesBehind_35 ?_
        refine n_topl (y := sHB S pp x (dy s0) (sHole S pp (rep (ii - 64 * s0)) (dy s0))) (by have z := (hrep (ii - 64 * s0) (by omega)).2.2.1; rw [show 64 * s0 + (ii - 64 * s0) = ii by omega] at z; exact z) ?_
        refine lv_land hx hb dX0_settlesBehind_36 ?_
        refine n_topl (y := sHB S pp y (dy s0) (sHole S pp (rep (ii - 64 * s0)) (dy s0))) (and_HB hyx) ?_
        refine lv_lconst (v := 0) hx hb dX0_settlesBehind_37 (by decide) ?_
        refine W.lcmp hx hb dX0_settlesBehind_38 ?_
        have j55 : ∀ (lf : Int64)  (H : Heap) (locs : List Loc) (ls : Array Slot), (lfE S pp er y (dy s0) (rep (ii - 64 * s0)) lf) → oW D cA B0 ad d0 H → va_S (oA B0) s.heap H locs → lv_has ls 12 [(0, .ref (ad.1 16 0)), (1, .long y), (3, .long ys), (5, .int (nI s0)), (6, .int (nI 3)), (7, .long bf), (9, .int (nI ii))] → W p l e (oR 7 0 0) s m ([.ref (ad.1 16 0), .long y, .long ys, .int (nI s0), .int (nI 3)] : List Value).toArray below meth c H locs 0 0 (MQ below (oQi D cA B0 ad (fun r d1 => r = bI (sbV S pp er dy nn ys 2 y s0) ∧ d0 = d1)) ([.ref (ad.1 16 0), .long y, .long ys, .int (nI s0), .int (nI 3)] : List Value).toArray s 0 0 (oA B0)) (F0 m 55 ls [.long lf]) := by
          intro lf  H locs ls hlf hW hS hl
          refine lv_lstore (lv' := [(10, .long lf), (0, .ref (ad.1 16 0)), (1, .long y), (3, .long ys), (5, .int (nI s0)), (6, .int (nI 3)), (7, .long bf), (9, .int (nI ii))]) hx hb dX0_settlesBehind_55 hl (by decide) rfl (fun ls hl => ?_)
          refine lv_lload hx hb dX0_settlesBehind_57 (lv_at hl 0 rfl) ?_
          refine lv_lload hx hb dX0_settlesBehind_59 (lv_at hl 6 rfl) ?_
          refine lv_ldc2 (v := (-1)) hx hb hown (hu _ uK_X0_48) dX0_settlesBehind_61 ?_
          refine lv_lxor hx hb dX0_settlesBehind_64 ?_
          refine lv_land hx hb dX0_settlesBehind_65 ?_
          refine lv_lconst (v := 0) hx hb dX0_settlesBehind_66 (by decide) ?_
          refine W.lcmp hx hb dX0_settlesBehind_67 ?_
          refine lv_if_eq (tgt := 95) hx hb dX0_settlesBehind_68 (by decide) (fun c_b => ?_) (fun c_b => ?_)
          · have hSW2 := hSW.skip (fun h => stV_sub S pp er dy nn ys 2 (s0 + 1) h) hlf (lg0 c_b)
            refine n_iinc (q := 1) (lv' := [(9, .int (nI (ii + 1))), (10, .long lf), (0, .ref (ad.1 16 0)), (1, .long y), (3, .long ys), (5, .int (nI s0)), (6, .int (nI 3)), (7, .long bf)]) hx hb dX0_settlesBehind_95 hl (k := 7) rfl (by decide) (by decide) rfl (fun ls hl => ?_)
            refine lv_goto (tgt := 10) hx hb dX0_settlesBehind_98 (by decide) ?_
            exact ih_lp10 bf (ii + 1) _ _ ls (by omega) (by omega) (by omega) (by rw [show ii + 1 - 64 * s0 = (ii - 64 * s0) + 1 by omega]; exact hSW2) hW hS (lv_sub hl [2, 3, 4, 5, 6, 7, 0] rfl)
          · have hlx : ∀ m, m < 64 → hasB lf m = true → hasB x m = true := lf_sub hlf hyx
            have hl0 := and_nz (lg0n c_b)
            refine lv_aload_n hx hb dX0_settlesBehind_71 rfl (lv_at hl 1 rfl) ?_
            refine lv_lload hx hb dX0_settlesBehind_72 (lv_at hl 0 rfl) ?_
            refine lv_lload_n hx hb dX0_settlesBehind_74 rfl (lv_at hl 3 rfl) ?_
            refine lv_iload hx hb dX0_settlesBehind_75 (lv_at hl 4 rfl) ?_
            refine n_iconst (v := 1) hx hb dX0_settlesBehind_77 (by decide) ?_
            refine n_iadd hx hb dX0_settlesBehind_78 ?_
            refine lv_iload hx hb dX0_settlesBehind_79 (lv_at hl 5 rfl) ?_
            refine n_iconst (v := 1) hx hb dX0_settlesBehind_81 (by decide) ?_
            refine n_isub hx hb (by omega) dX0_settlesBehind_82 ?_
            refine n_top (b := 2) (rfl) ?_
            refine o_calli (o_runV (As := [.long lf, .long ys, .int (nI (s0 + 1)), .int (nI 2)]) (rest := []) ⟨hx, hb, hml, hown, hu⟩ (c_X0_canSettle_2 l D cA B0 ad hal S d0 hX pp er nn dy x hp hn6 hAL lf hlx ys (s0 + 1) (by omega)) (gV_X0_94 (fun _ h => h)) (n0 := 4) rfl (by decide +kernel) rfl ⟨Nat.le_of_ble_eq_true rfl, Nat.le_of_ble_eq_true rfl⟩ (o_recv hK hW (hA.o (k := 16) rfl) (kX_16 _ _ _ _) rfl) hK hW hB hS hl.1 rfl (lv_room (Nat.le_of_ble_eq_true rfl)) ⟨Nat.zero_le _, Nat.zero_le _⟩ dX0_settlesBehind_83) hS (fun r_3 d_2 q_4 H locs hW hS => ?_)
            obtain ⟨rfl, rfl⟩ := q_4
            refine lv_if_ne (tgt := 91) hx hb dX0_settlesBehind_86 (by decide) (fun c_s => ?_) (fun c_s => ?_)
            · have hSW2 := hSW.look hlf (show (fun z => stV S pp er dy nn ys 2 z (s0 + 1)) lf = true from bI_n c_s)
              refine lv_lload hx hb dX0_settlesBehind_91 (lv_at hl 0 rfl) ?_
              refine lv_lstore (lv' := [(7, .long lf), (10, .long lf), (0, .ref (ad.1 16 0)), (1, .long y), (3, .long ys), (5, .int (nI s0)), (6, .int (nI 3)), (9, .int (nI ii))]) hx hb dX0_settlesBehind_93 hl (by decide) rfl (fun ls hl => ?_)
              refine n_iinc (q := 1) (lv' := [(9, .int (nI (ii + 1))), (7, .long lf), (10, .long lf), (0, .ref (ad.1 16 0)), (1, .long y), (3, .long ys), (5, .int (nI s0)), (6, .int (nI 3))]) hx hb dX0_settlesBehind_95 hl (k := 7) rfl (by decide) (by decide) rfl (fun ls hl => ?_)
              refine lv_goto (tgt := 10) hx hb dX0_settlesBehind_98 (by decide) ?_
              exact ih_lp10 lf (ii + 1) _ _ ls (by omega) (by omega) (by omega) (by rw [show ii + 1 - 64 * s0 = (ii - 64 * s0) + 1 by omega]; exact hSW2) hW hS (lv_sub hl [3, 4, 5, 6, 7, 1, 0] rfl)
            · refine n_iconst (v := 0) hx hb dX0_settlesBehind_89 (by decide) ?_
              exact o_zret hx hb hr hlocks (by first | rfl | exact z_bI _ | (split <;> first | rfl | (split <;> rfl))) hW hS (⟨by rw [sb_no (k := 2) hlf hl0 (bI_z c_s)]; rfl, rfl⟩) dX0_settlesBehind_90
        refine lv_if_ne (tgt := 46) hx hb dX0_settlesBehind_39 (by decide) (fun c_h => ?_) (fun c_h => ?_)
        · refine lv_lload_n hx hb dX0_settlesBehind_46 rfl (lv_at hl 1 rfl) ?_
          refine lv_aload_n hx hb dX0_settlesBehind_47 rfl (lv_at hl 0 rfl) ?_
          refine x_gr hx hb hu in_X0 hown hK hW (hA.o (k := 16) rfl) (kX_16 _ _ _ _) rfl 1 (by decide) uF_X0_15 (hA.ah 1 (k := 18) (by decide)) dX0_settlesBehind_48 ?_
          refine lv_iload hx hb dX0_settlesBehind_51 (lv_at hl 6 rfl) ?_
          refine x_ll hx hb hK hW (hA.o (k := 18) rfl) (kX_18 _ _ _ _) (by decide) (by omega) dX0_settlesBehind_53 ?_
          refine n_topl (y := sLeft S pp x (dy s0) er (rep (ii - 64 * s0))) (by have z := (hrep (ii - 64 * s0) (by omega)).2.2.2; rw [show 64 * s0 + (ii - 64 * s0) = ii by omega] at z; exact z) ?_
          refine lv_land hx hb dX0_settlesBehind_54 ?_
          refine n_topl (y := sLeft S pp y (dy s0) er (rep (ii - 64 * s0))) (and_left hyx) ?_
          exact j55 (sLeft S pp y (dy s0) er (rep (ii - 64 * s0))) _ _ ls (by first | exact Or.inl ⟨lg0 c_h, rfl⟩ | exact Or.inr ⟨lg0n c_h, rfl⟩) hW hS (lv_sub hl [0, 1, 2, 3, 4, 5, 6] rfl)
        · refine lv_lconst (v := 0) hx hb dX0_settlesBehind_42 (by decide) ?_
          refine lv_goto (tgt := 55) hx hb dX0_settlesBehind_43 (by decide) ?_
          exact j55 0 _ _ ls (by first | exact Or.inl ⟨lg0 c_h, rfl⟩ | exact Or.inr ⟨lg0n c_h, rfl⟩) hW hS (lv_sub hl [0, 1, 2, 3, 4, 5, 6] rfl)
  exact lp10 (65) 0 (s0 * 64) _ _ ls (by omega) (by omega) (by omega) (⟨fun j hj => absurd hj (by omega), Or.inl rfl⟩) hW hS (lv_sub hl [2, 3, 4, 5, 6, 1, 0] rfl)

set_option maxHeartbeats 400000 in
set_option maxRecDepth 100000 in
theorem c_X0_canSettle_3 (l : Launch) (D : va_G) (cA : Nat → ClassId) (B0 : Nat) (ad : kA) (hal : mAl ad) (S : sS) (d0 : kD) (hX : XB cA ad S d0) (pp er nn : Nat) (dy : Nat → Nat) (x : Int64) (hp : pp < S 7 0) (hn6 : nn ≤ 6) (hAL : AL S pp er x dy nn d0) (y : Int64) (hyx : ∀ m, m < 64 → hasB y m = true → hasB x m = true) (ys : Int64) (i0 : Nat) (hi0 : i0 ≤ nn) : oM l yX0_canSettle wX0_canSettle 8 0 0 D cA B0 ad d0 ([.ref (ad.1 16 0), .long y, .long ys, .int (nI i0), .int (nI 3)] : List Value) (oQi D cA B0 ad (fun r d1 => r = bI (stV S pp er dy nn ys 3 y i0) ∧ d0 = d1)) := by
  refine o_ofW (cc := cX0_canSettle) (maxL := 8) (ret := some .boolean) (by decide) rfl (Nat.le_of_ble_eq_true rfl) ?_
  intro p e s m below meth c hx hb hr hml hts hown hlocks hnm hK hW hB hS ls hl
  have hu : ∀ w ∈ UW, w.before _ s = true := fun w h => hts w (uw_c w h)
  have hl : lv_has ls 8 [(0, .ref (ad.1 16 0)), (1, .long y), (3, .long ys), (5, .int (nI i0)), (6, .int (nI 3))] := hl
  have hA := hX.1
  have hG := hX.2.2
  have hb7 : S 7 0 ≤ 8 := hG.f 7 (mx := 8) (by decide)
  have hb11 : S 11 0 ≤ 20 := hG.f 11 (mx := 20) (by decide)
  have hb18 : S 18 0 ≤ 40 := hG.f 18 (mx := 40) (by decide)
  refine lv_lload_n hx hb dX0_canSettle_0 rfl (lv_at hl 1 rfl) ?_
  refine lv_lload_n hx hb dX0_canSettle_1 rfl (lv_at hl 2 rfl) ?_
  refine lv_land hx hb dX0_canSettle_2 ?_
  refine lv_lconst (v := 0) hx hb dX0_canSettle_3 (by decide) ?_
  refine W.lcmp hx hb dX0_canSettle_4 ?_
  refine lv_if_eq (tgt := 20) hx hb dX0_canSettle_5 (by decide) (fun c_1 => ?_) (fun c_1 => ?_)
  · have hb0 : stB ys y = true := stB_t (Or.inl (lg0 c_1))
    refine n_iconst (v := 1) hx hb dX0_canSettle_20 (by decide) ?_
    exact o_zret hx hb hr hlocks (by first | rfl | exact z_bI _ | (split <;> first | rfl | (split <;> rfl))) hW hS (⟨by rw [stV_suc, hb0, Bool.true_or]; rfl, rfl⟩) dX0_canSettle_21
  · refine lv_lload_n hx hb dX0_canSettle_8 rfl (lv_at hl 1 rfl) ?_
    refine lv_lload_n hx hb dX0_canSettle_9 rfl (lv_at hl 2 rfl) ?_
    refine lv_ldc2 (v := (-1)) hx hb hown (hu _ uK_X0_48) dX0_canSettle_10 ?_
    refine lv_lxor hx hb dX0_canSettle_13 ?_
    refine lv_land hx hb dX0_canSettle_14 ?_
    refine lv_lconst (v := 0) hx hb dX0_canSettle_15 (by decide) ?_
    refine W.lcmp hx hb dX0_canSettle_16 ?_
    refine lv_if_ne (tgt := 22) hx hb dX0_canSettle_17 (by decide) (fun c_2 => ?_) (fun c_2 => ?_)
    · have hb0 : stB ys y = false := stB_f (lg0n c_1) (fun q => lg0n c_2 (st_alt.mpr q))
      refine lv_iload hx hb dX0_canSettle_22 (lv_at hl 4 rfl) ?_
      refine n_if_gt (tgt := 29) hx hb (by omega) dX0_canSettle_24 (by decide) (fun c_k => ?_) (fun c_k => ?_)
      · refine lv_iload hx hb dX0_canSettle_29 (lv_at hl 3 rfl) ?_
        refine lv_istore (lv' := [(7, .int (nI i0)), (0, .ref (ad.1 16 0)), (1, .long y), (3, .long ys), (5, .int (nI i0)), (6, .int (nI 3))]) hx hb dX0_canSettle_31 hl (by decide) rfl (fun ls hl => ?_)
        have lp33 : ∀ (n : Nat) (j0 : Nat)  (H : Heap) (locs : List Loc) (ls : Array Slot), nn - j0 < n → (i0 ≤ j0) → (j0 ≤ nn) → (anyL (fun j => sbV S pp er dy nn ys 2 y (i0 + j)) (j0 - i0) = false) → oW D cA B0 ad d0 H → va_S (oA B0) s.heap H locs → lv_has ls 8 [(0, .ref (ad.1 16 0)), (1, .long y), (3, .long ys), (5, .int (nI i0)), (6, .int (nI 3)), (7, .int (nI j0))] → W p l e (oR 8 0 0) s m ([.ref (ad.1 16 0), .long y, .long ys, .int (nI i0), .int (nI 3)] : List Value).toArray below meth c H locs 0 0 (MQ below (oQi D cA B0 ad (fun r d1 => r = bI (stV S pp er dy nn ys 3 y i0) ∧ d0 = d1)) ([.ref (ad.1 16 0), .long y, .long ys, .int (nI i0), .int (nI 3)] : List Value).toArray s 0 0 (oA B0)) (F0 m 33 ls []) := by
          intro n
          induction n with
          | zero => intro j0  H locs ls hmu; exact absurd hmu (Nat.not_lt_zero _)
          | succ n ih_lp33 =>
            intro j0  H locs ls hmu hj1 hj2 hany hW hS hl
            refine lv_iload hx hb dX0_canSettle_33 (lv_at hl 5 rfl) ?_
            refine lv_aload_n hx hb dX0_canSettle_35 rfl (lv_at hl 0 rfl) ?_
            refine x_gi hx hb hu in_X0 hown hK hW (hA.o (k := 16) rfl) (kX_16 _ _ _ _) rfl 5 (by decide) uF_X0_28 dX0_canSettle_36 ?_
            refine n_topi (y := nI nn) (hAL.1) ?_
            refine n_icmp_ge (tgt := 63) hx hb (by omega) (by omega) dX0_canSettle_39 (by decide) (fun c_1 => ?_) (fun c_1 => ?_)
            · refine n_iconst (v := 0) hx hb dX0_canSettle_63 (by decide) ?_
              exact o_zret hx hb hr hlocks (by first | rfl | exact z_bI _ | (split <;> first | rfl | (split <;> rfl))) hW hS (⟨by rw [stV_suc, hb0, show nn - i0 = j0 - i0 by omega, hany]; rfl, rfl⟩) dX0_canSettle_64
            · refine lv_aload_n hx hb dX0_canSettle_42 rfl (lv_at hl 0 rfl) ?_
              refine lv_lload_n hx hb dX0_canSettle_43 rfl (lv_at hl 1 rfl) ?_
              refine lv_lload_n hx hb dX0_canSettle_44 rfl (lv_at hl 2 rfl) ?_
              refine lv_iload hx hb dX0_canSettle_45 (lv_at hl 5 rfl) ?_
              refine lv_iload hx hb dX0_canSettle_47 (lv_at hl 4 rfl) ?_
              refine o_calli (o_runV (As := [.long y, .long ys, .int (nI j0), .int (nI 3)]) (rest := []) ⟨hx, hb, hml, hown, hu⟩ (c_X0_settlesBehind_3 l D cA B0 ad hal S d0 hX pp er nn dy x hp hn6 hAL y hyx ys j0 (by omega)) (gV_X0_98 (fun _ h => h)) (n0 := 4) rfl (by decide +kernel) rfl ⟨Nat.le_of_ble_eq_true rfl, Nat.le_of_ble_eq_true rfl⟩ (o_recv hK hW (hA.o (k := 16) rfl) (kX_16 _ _ _ _) rfl) hK hW hB hS hl.1 rfl (lv_room (Nat.le_of_ble_eq_true rfl)) ⟨Nat.zero_le _, Nat.zero_le _⟩ dX0_canSettle_49) hS (fun r_3 d_2 q_4 H locs hW hS => ?_)
              obtain ⟨rfl, rfl⟩ := q_4
              refine lv_if_eq (tgt := 57) hx hb dX0_canSettle_52 (by decide) (fun c_s => ?_) (fun c_s => ?_)
              · have hsb : sbV S pp er dy nn ys 2 y j0 = false := bI_z c_s
                refine n_iinc (q := 1) (lv' := [(7, .int (nI (j0 + 1))), (0, .ref (ad.1 16 0)), (1, .long y), (3, .long ys), (5, .int (nI i0)), (6, .int (nI 3))]) hx hb dX0_canSettle_57 hl (k := 5) rfl (by decide) (by decide) rfl (fun ls hl => ?_)
                refine lv_goto (tgt := 33) hx hb dX0_canSettle_60 (by decide) ?_
                exact ih_lp33 (j0 + 1) _ _ ls (by omega) (by omega) (by omega) (by rw [show j0 + 1 - i0 = (j0 - i0) + 1 by omega]; exact anyL_f hany (by show sbV S pp er dy nn ys 2 y (i0 + (j0 - i0)) = false; rw [show i0 + (j0 - i0) = j0 by omega]; exact hsb)) hW hS (lv_sub hl [1, 2, 3, 4, 5, 0] rfl)
              · have hsb : sbV S pp er dy nn ys 2 y j0 = true := bI_n c_s
                refine n_iconst (v := 1) hx hb dX0_canSettle_55 (by decide) ?_
                exact o_zret hx hb hr hlocks (by first | rfl | exact z_bI _ | (split <;> first | rfl | (split <;> rfl))) hW hS (⟨by rw [stV_suc, anyL_t (nn - i0) (j := j0 - i0) (by omega) (by show sbV S pp er dy nn ys 2 y (i0 + (j0 - i0)) = true; rw [show i0 + (j0 - i0) = j0 by omega]; exact hsb), Bool.or_true]; rfl, rfl⟩) dX0_canSettle_56
        exact lp33 (nn + 1) i0 _ _ ls (by omega) (by omega) (by omega) (by rw [Nat.sub_self]; rfl) hW hS (lv_sub hl [1, 2, 3, 4, 5, 0] rfl)
      · exfalso; omega
    · have hb0 : stB ys y = true := stB_t (Or.inr (st_alt.mp (lg0 c_2)))
      refine n_iconst (v := 1) hx hb dX0_canSettle_20 (by decide) ?_
      exact o_zret hx hb hr hlocks (by first | rfl | exact z_bI _ | (split <;> first | rfl | (split <;> rfl))) hW hS (⟨by rw [stV_suc, hb0, Bool.true_or]; rfl, rfl⟩) dX0_canSettle_21

set_option maxHeartbeats 400000 in
set_option maxRecDepth 100000 in
theorem c_X0_fewestToSettle (l : Launch) (D : va_G) (cA : Nat → ClassId) (B0 : Nat) (ad : kA) (hal : mAl ad) (S : sS) (d0 : kD) (hX : XB cA ad S d0) (pp er nn : Nat) (dy : Nat → Nat) (x : Int64) (hp : pp < S 7 0) (hn6 : nn ≤ 6) (hAL : AL S pp er x dy nn d0) (ys : Int64) : oM l yX0_fewestToSettle wX0_fewestToSettle 9 0 0 D cA B0 ad d0 ([.ref (ad.1 16 0), .long x, .long ys] : List Value) (oQi D cA B0 ad (fun r d1 => r = slL S pp er dy nn ys x 4 0 ∧ d0 = d1)) := by
  refine o_ofW (cc := cX0_fewestToSettle) (maxL := 6) (ret := some .int) (by decide) rfl (Nat.le_of_ble_eq_true rfl) ?_
  intro p e s m below meth c hx hb hr hml hts hown hlocks hnm hK hW hB hS ls hl
  have hu : ∀ w ∈ UW, w.before _ s = true := fun w h => hts w (uw_c w h)
  have hl : lv_has ls 6 [(0, .ref (ad.1 16 0)), (1, .long x), (3, .long ys)] := hl
  have hA := hX.1
  have hG := hX.2.2
  have hb7 : S 7 0 ≤ 8 := hG.f 7 (mx := 8) (by decide)
  have hb11 : S 11 0 ≤ 20 := hG.f 11 (mx := 20) (by decide)
  have hb18 : S 18 0 ≤ 40 := hG.f 18 (mx := 40) (by decide)
  refine n_iconst (v := 0) hx hb dX0_fewestToSettle_0 (by decide) ?_
  refine lv_istore (lv' := [(5, .int (nI 0)), (0, .ref (ad.1 16 0)), (1, .long x), (3, .long ys)]) hx hb dX0_fewestToSettle_1 hl (by decide) rfl (fun ls hl => ?_)
  refine lv_iload hx hb dX0_fewestToSettle_3 (lv_at hl 0 rfl) ?_
  refine n_iconst (v := 3) hx hb dX0_fewestToSettle_5 (by decide) ?_
  refine n_icmp_gt (tgt := 30) hx hb (by omega) (by omega) dX0_fewestToSettle_6 (by decide) (fun c_k0 => ?_) (fun c_k0 => ?_)
  · exfalso; omega
  · refine lv_aload_n hx hb dX0_fewestToSettle_9 rfl (lv_at hl 1 rfl) ?_
    refine lv_lload_n hx hb dX0_fewestToSettle_10 rfl (lv_at hl 2 rfl) ?_
    refine lv_lload_n hx hb dX0_fewestToSettle_11 rfl (lv_at hl 3 rfl) ?_
    refine n_iconst (v := 0) hx hb dX0_fewestToSettle_12 (by decide) ?_
    refine lv_iload hx hb dX0_fewestToSettle_13 (lv_at hl 0 rfl) ?_
    refine o_calli (o_runV (As := [.long x, .long ys, .int (nI 0), .int (nI 0)]) (rest := []) ⟨hx, hb, hml, hown, hu⟩ (c_X0_canSettle_0 l D cA B0 ad hal S d0 hX pp er nn dy x hp hn6 hAL x (fun _ _ h => h) ys 0 (by omega)) (gV_X0_94 (fun _ h => h)) (n0 := 4) rfl (by decide +kernel) rfl ⟨Nat.le_of_ble_eq_true rfl, Nat.le_of_ble_eq_true rfl⟩ (o_recv hK hW (hA.o (k := 16) rfl) (kX_16 _ _ _ _) rfl) hK hW hB hS hl.1 rfl (lv_room (Nat.le_of_ble_eq_true rfl)) ⟨Nat.zero_le _, Nat.zero_le _⟩ dX0_fewestToSettle_15) hS (fun r_2 d_1 q_3 H locs hW hS => ?_)
    obtain ⟨rfl, rfl⟩ := q_3
    refine lv_if_eq (tgt := 24) hx hb dX0_fewestToSettle_18 (by decide) (fun c_s0 => ?_) (fun c_s0 => ?_)
    · have hs0 : stV S pp er dy nn ys 0 x 0 = false := bI_z c_s0
      refine n_iinc (q := 1) (lv' := [(5, .int (nI (0 + 1))), (0, .ref (ad.1 16 0)), (1, .long x), (3, .long ys)]) hx hb dX0_fewestToSettle_24 hl (k := 0) rfl (by decide) (by decide) rfl (fun ls hl => ?_)
      refine lv_goto (tgt := 3) hx hb dX0_fewestToSettle_27 (by decide) ?_
      refine lv_iload hx hb dX0_fewestToSettle_3 (lv_at hl 0 rfl) ?_
      refine n_iconst (v := 3) hx hb dX0_fewestToSettle_5 (by decide) ?_
      refine n_icmp_gt (tgt := 30) hx hb (by omega) (by omega) dX0_fewestToSettle_6 (by decide) (fun c_k1 => ?_) (fun c_k1 => ?_)
      · exfalso; omega
      · refine lv_aload_n hx hb dX0_fewestToSettle_9 rfl (lv_at hl 1 rfl) ?_
        refine lv_lload_n hx hb dX0_fewestToSettle_10 rfl (lv_at hl 2 rfl) ?_
        refine lv_lload_n hx hb dX0_fewestToSettle_11 rfl (lv_at hl 3 rfl) ?_
        refine n_iconst (v := 0) hx hb dX0_fewestToSettle_12 (by decide) ?_
        refine lv_iload hx hb dX0_fewestToSettle_13 (lv_at hl 0 rfl) ?_
        refine o_calli (o_runV (As := [.long x, .long ys, .int (nI 0), .int (nI (0 + 1))]) (rest := []) ⟨hx, hb, hml, hown, hu⟩ (c_X0_canSettle_1 l D cA B0 ad hal S d0 hX pp er nn dy x hp hn6 hAL x (fun _ _ h => h) ys 0 (by omega)) (gV_X0_94 (fun _ h => h)) (n0 := 4) rfl (by decide +kernel) rfl ⟨Nat.le_of_ble_eq_true rfl, Nat.le_of_ble_eq_true rfl⟩ (o_recv hK hW (hA.o (k := 16) rfl) (kX_16 _ _ _ _) rfl) hK hW hB hS hl.1 rfl (lv_room (Nat.le_of_ble_eq_true rfl)) ⟨Nat.zero_le _, Nat.zero_le _⟩ dX0_fewestToSettle_15) hS (fun r_5 d_4 q_6 H locs hW hS => ?_)
        obtain ⟨rfl, rfl⟩ := q_6
        refine lv_if_eq (tgt := 24) hx hb dX0_fewestToSettle_18 (by decide) (fun c_s1 => ?_) (fun c_s1 => ?_)
        · have hs1 : stV S pp er dy nn ys 1 x 0 = false := bI_z c_s1
          refine n_iinc (q := 1) (lv' := [(5, .int (nI (0 + 1 + 1))), (0, .ref (ad.1 16 0)), (1, .long x), (3, .long ys)]) hx hb dX0_fewestToSettle_24 hl (k := 0) rfl (by decide) (by decide) rfl (fun ls hl => ?_)
          refine lv_goto (tgt := 3) hx hb dX0_fewestToSettle_27 (by decide) ?_
          refine lv_iload hx hb dX0_fewestToSettle_3 (lv_at hl 0 rfl) ?_
          refine n_iconst (v := 3) hx hb dX0_fewestToSettle_5 (by decide) ?_
          refine n_icmp_gt (tgt := 30) hx hb (by omega) (by omega) dX0_fewestToSettle_6 (by decide) (fun c_k2 => ?_) (fun c_k2 => ?_)
          · exfalso; omega
          · refine lv_aload_n hx hb dX0_fewestToSettle_9 rfl (lv_at hl 1 rfl) ?_
            refine lv_lload_n hx hb dX0_fewestToSettle_10 rfl (lv_at hl 2 rfl) ?_
            refine lv_lload_n hx hb dX0_fewestToSettle_11 rfl (lv_at hl 3 rfl) ?_
            refine n_iconst (v := 0) hx hb dX0_fewestToSettle_12 (by decide) ?_
            refine lv_iload hx hb dX0_fewestToSettle_13 (lv_at hl 0 rfl) ?_
            refine o_calli (o_runV (As := [.long x, .long ys, .int (nI 0), .int (nI (0 + 1 + 1))]) (rest := []) ⟨hx, hb, hml, hown, hu⟩ (c_X0_canSettle_2 l D cA B0 ad hal S d0 hX pp er nn dy x hp hn6 hAL x (fun _ _ h => h) ys 0 (by omega)) (gV_X0_94 (fun _ h => h)) (n0 := 4) rfl (by decide +kernel) rfl ⟨Nat.le_of_ble_eq_true rfl, Nat.le_of_ble_eq_true rfl⟩ (o_recv hK hW (hA.o (k := 16) rfl) (kX_16 _ _ _ _) rfl) hK hW hB hS hl.1 rfl (lv_room (Nat.le_of_ble_eq_true rfl)) ⟨Nat.zero_le _, Nat.zero_le _⟩ dX0_fewestToSettle_15) hS (fun r_8 d_7 q_9 H locs hW hS => ?_)
            obtain ⟨rfl, rfl⟩ := q_9
            refine lv_if_eq (tgt := 24) hx hb dX0_fewestToSettle_18 (by decide) (fun c_s2 => ?_) (fun c_s2 => ?_)
            · have hs2 : stV S pp er dy nn ys 2 x 0 = false := bI_z c_s2
              refine n_iinc (q := 1) (lv' := [(5, .int (nI (0 + 1 + 1 + 1))), (0, .ref (ad.1 16 0)), (1, .long x), (3, .long ys)]) hx hb dX0_fewestToSettle_24 hl (k := 0) rfl (by decide) (by decide) rfl (fun ls hl => ?_)
              refine lv_goto (tgt := 3) hx hb dX0_fewestToSettle_27 (by decide) ?_
              refine lv_iload hx hb dX0_fewestToSettle_3 (lv_at hl 0 rfl) ?_
              refine n_iconst (v := 3) hx hb dX0_fewestToSettle_5 (by decide) ?_
              refine n_icmp_gt (tgt := 30) hx hb (by omega) (by omega) dX0_fewestToSettle_6 (by decide) (fun c_k3 => ?_) (fun c_k3 => ?_)
              · exfalso; omega
              · refine lv_aload_n hx hb dX0_fewestToSettle_9 rfl (lv_at hl 1 rfl) ?_
                refine lv_lload_n hx hb dX0_fewestToSettle_10 rfl (lv_at hl 2 rfl) ?_
                refine lv_lload_n hx hb dX0_fewestToSettle_11 rfl (lv_at hl 3 rfl) ?_
                refine n_iconst (v := 0) hx hb dX0_fewestToSettle_12 (by decide) ?_
                refine lv_iload hx hb dX0_fewestToSettle_13 (lv_at hl 0 rfl) ?_
                refine o_calli (o_runV (As := [.long x, .long ys, .int (nI 0), .int (nI (0 + 1 + 1 + 1))]) (rest := []) ⟨hx, hb, hml, hown, hu⟩ (c_X0_canSettle_3 l D cA B0 ad hal S d0 hX pp er nn dy x hp hn6 hAL x (fun _ _ h => h) ys 0 (by omega)) (gV_X0_94 (fun _ h => h)) (n0 := 4) rfl (by decide +kernel) rfl ⟨Nat.le_of_ble_eq_true rfl, Nat.le_of_ble_eq_true rfl⟩ (o_recv hK hW (hA.o (k := 16) rfl) (kX_16 _ _ _ _) rfl) hK hW hB hS hl.1 rfl (lv_room (Nat.le_of_ble_eq_true rfl)) ⟨Nat.zero_le _, Nat.zero_le _⟩ dX0_fewestToSettle_15) hS (fun r_11 d_10 q_12 H locs hW hS => ?_)
                obtain ⟨rfl, rfl⟩ := q_12
                refine lv_if_eq (tgt := 24) hx hb dX0_fewestToSettle_18 (by decide) (fun c_s3 => ?_) (fun c_s3 => ?_)
                · have hs3 : stV S pp er dy nn ys 3 x 0 = false := bI_z c_s3
                  refine n_iinc (q := 1) (lv' := [(5, .int (nI (0 + 1 + 1 + 1 + 1))), (0, .ref (ad.1 16 0)), (1, .long x), (3, .long ys)]) hx hb dX0_fewestToSettle_24 hl (k := 0) rfl (by decide) (by decide) rfl (fun ls hl => ?_)
                  refine lv_goto (tgt := 3) hx hb dX0_fewestToSettle_27 (by decide) ?_
                  refine lv_iload hx hb dX0_fewestToSettle_3 (lv_at hl 0 rfl) ?_
                  refine n_iconst (v := 3) hx hb dX0_fewestToSettle_5 (by decide) ?_
                  refine n_icmp_gt (tgt := 30) hx hb (by omega) (by omega) dX0_fewestToSettle_6 (by decide) (fun c_k4 => ?_) (fun c_k4 => ?_)
                  · refine lv_bipush (v := -2) hx hb dX0_fewestToSettle_30 (by decide) ?_
                    exact o_iret hx hb hr hlocks hW hS (⟨by rw [slL, if_neg (by rw [hs0]; decide), slL, if_neg (by rw [hs1]; decide), slL, if_neg (by rw [hs2]; decide), slL, if_neg (by rw [hs3]; decide)]; rfl, rfl⟩) dX0_fewestToSettle_32
                  · exfalso; omega
                · have hs3 : stV S pp er dy nn ys 3 x 0 = true := bI_n c_s3
                  refine lv_iload hx hb dX0_fewestToSettle_21 (lv_at hl 0 rfl) ?_
                  exact o_iret hx hb hr hlocks hW hS (⟨by rw [slL, if_neg (by rw [hs0]; decide), slL, if_neg (by rw [hs1]; decide), slL, if_neg (by rw [hs2]; decide), slL, if_pos hs3], rfl⟩) dX0_fewestToSettle_23
            · have hs2 : stV S pp er dy nn ys 2 x 0 = true := bI_n c_s2
              refine lv_iload hx hb dX0_fewestToSettle_21 (lv_at hl 0 rfl) ?_
              exact o_iret hx hb hr hlocks hW hS (⟨by rw [slL, if_neg (by rw [hs0]; decide), slL, if_neg (by rw [hs1]; decide), slL, if_pos hs2], rfl⟩) dX0_fewestToSettle_23
        · have hs1 : stV S pp er dy nn ys 1 x 0 = true := bI_n c_s1
          refine lv_iload hx hb dX0_fewestToSettle_21 (lv_at hl 0 rfl) ?_
          exact o_iret hx hb hr hlocks hW hS (⟨by rw [slL, if_neg (by rw [hs0]; decide), slL, if_pos hs1], rfl⟩) dX0_fewestToSettle_23
    · have hs0 : stV S pp er dy nn ys 0 x 0 = true := bI_n c_s0
      refine lv_iload hx hb dX0_fewestToSettle_21 (lv_at hl 0 rfl) ?_
      exact o_iret hx hb hr hlocks hW hS (⟨by rw [slL, if_pos hs0], rfl⟩) dX0_fewestToSettle_23

set_option maxHeartbeats 400000 in
set_option maxRecDepth 100000 in
theorem c_X9_settles (l : Launch) (D : va_G) (cA : Nat → ClassId) (B0 : Nat) (ad : kA) (hal : mAl ad) (S : sS) (sr : Nat → Int32) (d0 : kD) (hM : InvX cA ad S d0) (hR : RowX S sr d0) (pi qi day ai bi ni ei : Int32) : oM l yX9_settles wX9_settles 10 0 0 D cA B0 ad d0 ([.ref (ad.1 0 0), .int pi, .int qi, .int day, .int ai, .int bi, .int ni, .int ei] : List Value) (oQi D cA B0 ad (fun r d1 => r = aSettles S pi qi day ai bi ni ei ∧ PX cA ad S sr d0 d1)) := by
  refine o_ofW (cc := cX9_settles) (maxL := 9) (ret := some .int) (by decide) rfl (Nat.le_of_ble_eq_true rfl) ?_
  intro p e s m below meth c hx hb hr hml hts hown hlocks hnm hK hW hB hS ls hl
  have hu : ∀ w ∈ UW, w.before _ s = true := fun w h => hts w (uw_c w h)
  have hl : lv_has ls 9 [(0, .ref (ad.1 0 0)), (1, .int pi), (2, .int qi), (3, .int day), (4, .int ai), (5, .int bi), (6, .int ni), (7, .int ei)] := hl
  have hX := hM.1
  have hA := hX.1
  have hG := hX.2.2
  have hb7 : S 7 0 ≤ 8 := hG.f 7 (mx := 8) (by decide)
  have hb11 : S 11 0 ≤ 20 := hG.f 11 (mx := 20) (by decide)
  have hb18 : S 18 0 ≤ 40 := hG.f 18 (mx := 40) (by decide)
  have hI : XX cA ad S d0 d0 := XX.start hM
  have hb1 : S 1 0 ≤ 4 := hG.f 1 (mx := 4) (by decide)
  have hb19 : S 19 0 ≤ 399 := hG.f 19 (mx := 399) (by decide)
  have hb22 : S 22 0 ≤ 64 := hG.f 22 (mx := 64) (by decide)
  have hb25 : S 25 0 ≤ 4 := hG.f 25 (mx := 4) (by decide)
  have hb30 : S 30 0 ≤ 10 := hG.f 30 (mx := 10) (by decide)
  have hb32 : S 32 0 ≤ 64 := hG.f 32 (mx := 64) (by decide)
  refine lv_aload_n hx hb dX9_settles_0 rfl (lv_at hl 0 rfl) ?_
  refine lv_iload_n hx hb dX9_settles_1 rfl (lv_at hl 1 rfl) ?_
  refine o_callq (o_runV (As := [.int pi]) (rest := []) ⟨hx, hb, hml, hown, hu⟩ (c_X9_pierOf l D cA B0 ad hal S d0 hI.1.1 pi) (gV_X9_126 (fun _ h => h)) (n0 := 1) rfl (by decide +kernel) rfl ⟨Nat.le_of_ble_eq_true rfl, Nat.le_of_ble_eq_true rfl⟩ (o_recv hK hW (hA.o (k := 0) rfl) (kX_0 _ _ _ _) rfl) hK hW hB hS hl.1 rfl (lv_room (Nat.le_of_ble_eq_true rfl)) ⟨Nat.zero_le _, Nat.zero_le _⟩ dX9_settles_2) hS (fun r_2 d_1 q_3 H locs hW hS => ?_)
  obtain ⟨rfl, rfl⟩ := q_3
  cases o_4 : ix pi (S 7 0) with
  | false =>
    refine W.eq (g2 := F0 m 5 ls [.null]) rfl ?_
    refine lv_astoreN (lv' := [(8, .null), (0, .ref (ad.1 0 0)), (1, .int pi), (2, .int qi), (3, .int day), (4, .int ai), (5, .int bi), (6, .int ni), (7, .int ei)]) hx hb dX9_settles_5 hl (by decide) rfl (fun ls hl => ?_)
    refine lv_aloadN hx hb dX9_settles_7 (lv_at hl 0 rfl) ?_
    refine lv_ifnullN (tgt := 51) hx hb dX9_settles_9 (by decide) ?_
    refine lv_iconst (v := -1) hx hb dX9_settles_51 (by decide) ?_
    exact o_iret hx hb hr hlocks hW hS (⟨by simp only [aSettles, isPl_rw, Bool.false_and, Bool.and_false, Bool.true_and, Bool.and_true, ite_self, o_4, eq_self, ↓reduceIte, Bool.false_eq_true], hI.pub hR⟩) dX9_settles_52
  | true =>
    obtain ⟨pin, hpin, rfl⟩ := ix_t o_4 (by omega)
    refine W.eq (g2 := F0 m 5 ls [.ref (ad.1 6 pin)]) (by rw [if_pos rfl, nx_nI (by omega)]; rfl) ?_
    refine lv_astore (lv' := [(8, .ref (ad.1 6 pin)), (0, .ref (ad.1 0 0)), (1, .int (nI pin)), (2, .int qi), (3, .int day), (4, .int ai), (5, .int bi), (6, .int ni), (7, .int ei)]) hx hb dX9_settles_5 hl (by decide) rfl (fun ls hl => ?_)
    refine lv_aload hx hb dX9_settles_7 (lv_at hl 0 rfl) ?_
    refine lv_ifnull hx hb dX9_settles_9 ?_
    refine lv_iload_n hx hb dX9_settles_12 rfl (lv_at hl 3 rfl) ?_
    refine n_iconst (v := 0) hx hb dX9_settles_13 (by decide) ?_
    refine n_iconst (v := 1) hx hb dX9_settles_14 (by decide) ?_
    refine o_calli (o_runS (As := [.int qi, .int (nI 0), .int (nI 1)]) (rest := []) ⟨hx, hb, hml, hown, hu⟩ (c_X9_within l D cA B0 ad hal d0 qi (nI 0) (nI 1)) (gS_X9_85 (fun _ h => h)) (n0 := 3) rfl (by decide +kernel) rfl ⟨Nat.le_of_ble_eq_true rfl, Nat.le_of_ble_eq_true rfl⟩ hK hW hB hS hl.1 rfl (lv_room (Nat.le_of_ble_eq_true rfl)) ⟨Nat.zero_le _, Nat.zero_le _⟩ dX9_settles_15) hS (fun r_6 d_5 q_7 H locs hW hS => ?_)
    obtain ⟨rfl, rfl⟩ := q_7
    refine n_topi (y := bI (ix qi 2)) (in_ixc 2 rfl (by decide)) ?_
    refine lv_if_eq (tgt := 51) hx hb dX9_settles_18 (by decide) (fun c_8 => ?_) (fun c_8 => ?_)
    · refine lv_iconst (v := -1) hx hb dX9_settles_51 (by decide) ?_
      exact o_iret hx hb hr hlocks hW hS (⟨by simp only [aSettles, isPl_rw, Bool.false_and, Bool.and_false, Bool.true_and, Bool.and_true, ite_self, ix_nI hpin (by omega), nx_nI (j := pin) (by omega), bI_z c_8, eq_self, ↓reduceIte, Bool.false_eq_true], hI.pub hR⟩) dX9_settles_52
    · obtain ⟨qin, hqin, rfl⟩ := ix_t (bI_n c_8) (by omega)
      refine lv_iload_n hx hb dX9_settles_21 rfl (lv_at hl 4 rfl) ?_
      refine o_calli (o_runS (As := [.int day]) (rest := []) ⟨hx, hb, hml, hown, hu⟩ (c_X9_isDay l D cA B0 ad hal d0 day) (gS_X9_81 (fun _ h => h)) (n0 := 1) rfl (by decide +kernel) rfl ⟨Nat.le_of_ble_eq_true rfl, Nat.le_of_ble_eq_true rfl⟩ hK hW hB hS hl.1 rfl (lv_room (Nat.le_of_ble_eq_true rfl)) ⟨Nat.zero_le _, Nat.zero_le _⟩ dX9_settles_22) hS (fun r_10 d_9 q_11 H locs hW hS => ?_)
      obtain ⟨rfl, rfl⟩ := q_11
      refine lv_if_eq (tgt := 51) hx hb dX9_settles_25 (by decide) (fun c_12 => ?_) (fun c_12 => ?_)
      · refine lv_iconst (v := -1) hx hb dX9_settles_51 (by decide) ?_
        exact o_iret hx hb hr hlocks hW hS (⟨by simp only [aSettles, isPl_rw, Bool.false_and, Bool.and_false, Bool.true_and, Bool.and_true, ite_self, ix_nI hpin (by omega), nx_nI (j := pin) (by omega), ix_nI hqin (by omega), nx_nI (j := qin) (by omega), bI_z c_12, eq_self, ↓reduceIte, Bool.false_eq_true], hI.pub hR⟩) dX9_settles_52
      · obtain ⟨dayn, hdayn, rfl⟩ := ix_t (bI_n c_12) (by omega)
        refine lv_iload hx hb dX9_settles_28 (lv_at hl 5 rfl) ?_
        refine lv_iload hx hb dX9_settles_30 (lv_at hl 6 rfl) ?_
        refine lv_iload hx hb dX9_settles_32 (lv_at hl 7 rfl) ?_
        refine o_calli (o_runS (As := [.int ai, .int bi, .int ni]) (rest := []) ⟨hx, hb, hml, hown, hu⟩ (c_X9_isRowOfDays l D cA B0 ad hal d0 ai bi ni ) (gS_X9_252 (fun _ h => h)) (n0 := 3) rfl (by decide +kernel) rfl ⟨Nat.le_of_ble_eq_true rfl, Nat.le_of_ble_eq_true rfl⟩ hK hW hB hS hl.1 rfl (lv_room (Nat.le_of_ble_eq_true rfl)) ⟨Nat.zero_le _, Nat.zero_le _⟩ dX9_settles_34) hS (fun r_14 d_13 q_15 H locs hW hS => ?_)
        obtain ⟨rfl, rfl⟩ := q_15
        refine lv_if_eq (tgt := 51) hx hb dX9_settles_37 (by decide) (fun c_r => ?_) (fun c_r => ?_)
        · refine lv_iconst (v := -1) hx hb dX9_settles_51 (by decide) ?_
          exact o_iret hx hb hr hlocks hW hS (⟨by simp only [aSettles, isPl_rw, Bool.false_and, Bool.and_false, Bool.true_and, Bool.and_true, ite_self, ix_nI hpin (by omega), nx_nI (j := pin) (by omega), ix_nI hqin (by omega), nx_nI (j := qin) (by omega), ix_nI hdayn (by omega), nx_nI (j := dayn) (by omega), bI_z c_r, eq_self, ↓reduceIte, Bool.false_eq_true], hI.pub hR⟩) dX9_settles_52
        · have hrw := bI_n c_r
          obtain ⟨ain, bin, nin, hain, hbina, hbin, hnina, hnin, hdyl, rfl, rfl, rfl⟩ := isRw_t hrw
          have hdyF : ∀ i, i < nin → dyF ain bin i < 400 := fun i hi => dyF_le hdyl hi
          refine lv_iload hx hb dX9_settles_40 (lv_at hl 8 rfl) ?_
          refine n_iconst (v := 0) hx hb dX9_settles_42 (by decide) ?_
          refine n_bipush (v := 50) hx hb dX9_settles_43 (by decide) ?_
          refine o_calli (o_runS (As := [.int ei, .int (nI 0), .int (nI 50)]) (rest := []) ⟨hx, hb, hml, hown, hu⟩ (c_X9_within l D cA B0 ad hal d0 ei (nI 0) (nI 50)) (gS_X9_85 (fun _ h => h)) (n0 := 3) rfl (by decide +kernel) rfl ⟨Nat.le_of_ble_eq_true rfl, Nat.le_of_ble_eq_true rfl⟩ hK hW hB hS hl.1 rfl (lv_room (Nat.le_of_ble_eq_true rfl)) ⟨Nat.zero_le _, Nat.zero_le _⟩ dX9_settles_45) hS (fun r_17 d_16 q_18 H locs hW hS => ?_)
          obtain ⟨rfl, rfl⟩ := q_18
          refine n_topi (y := bI (ix ei 51)) (in_ixc 51 rfl (by decide)) ?_
          refine lv_if_ne (tgt := 53) hx hb dX9_settles_48 (by decide) (fun c_19 => ?_) (fun c_19 => ?_)
          · obtain ⟨ein, hein, rfl⟩ := ix_t (bI_n c_19) (by omega)
            refine lv_aload_n hx hb dX9_settles_53 rfl (lv_at hl 1 rfl) ?_
            refine lv_aload_n hx hb dX9_settles_54 rfl (lv_at hl 1 rfl) ?_
            refine x_gi hx hb hu in_X9 hown hK hW (hA.o (k := 0) rfl) (kX_0 _ _ _ _) rfl 15 (by decide) uF_X9_78 dX9_settles_55 ?_
            refine n_topi (y := nI (S 19 0)) (hI.1.1.2.1.as) ?_
            have b_20 : S 19 0 ≤ 399 := hG.f 19 (mx := 399) (by decide)
            refine o_callv (o_runV (As := [.int (nI (S 19 0))]) (rest := []) ⟨hx, hb, hml, hown, hu⟩ (c_X9_findKept l D cA B0 ad hal S d0 hI.1 (S 19 0) (by omega)) (gV_X9_160 (fun _ h => h)) (n0 := 1) rfl (by decide +kernel) rfl ⟨Nat.le_of_ble_eq_true rfl, Nat.le_of_ble_eq_true rfl⟩ (o_recv hK hW (hA.o (k := 0) rfl) (kX_0 _ _ _ _) rfl) hK hW hB hS hl.1 rfl (lv_room (Nat.le_of_ble_eq_true rfl)) ⟨Nat.zero_le _, Nat.zero_le _⟩ dX9_settles_58) hS (fun d_21 q_23 H locs hW hS => ?_)
            obtain ⟨hq, hKP⟩ := q_23
            have hI := hI.k hq
            refine lv_aload hx hb dX9_settles_61 (lv_at hl 0 rfl) ?_
            refine x_gl hx hb hu in_X5 hown hK hW (hA.pier (by omega)) (kX_6 _ _ _ _) rfl 12 (by decide) uF_X9_171 dX9_settles_63 ?_
            refine n_topl (y := (sKept S pin (S 19 0))) ((hKP.1 pin (by omega)).2) ?_
            refine lv_lconst (v := 0) hx hb dX9_settles_66 (by decide) ?_
            refine W.lcmp hx hb dX9_settles_67 ?_
            refine lv_if_ne (tgt := 73) hx hb dX9_settles_68 (by decide) (fun c_z => ?_) (fun c_z => ?_)
            · have hz : ¬ (sKept S pin (S 19 0)) = 0 := lg0n c_z
              refine lv_aload_n hx hb dX9_settles_73 rfl (lv_at hl 1 rfl) ?_
              refine lv_aload hx hb dX9_settles_74 (lv_at hl 0 rfl) ?_
              refine lv_iload hx hb dX9_settles_76 (lv_at hl 5 rfl) ?_
              refine lv_iload hx hb dX9_settles_78 (lv_at hl 6 rfl) ?_
              refine lv_iload hx hb dX9_settles_80 (lv_at hl 7 rfl) ?_
              refine lv_iload hx hb dX9_settles_82 (lv_at hl 8 rfl) ?_
              refine o_callv (o_runV (As := [.ref (ad.1 6 pin), .int (nI ain), .int (nI bin), .int (nI nin), .int (nI ein)]) (rest := []) ⟨hx, hb, hml, hown, hu⟩ (c_X9_prepareAhead l D cA B0 ad hal S d_21 hI.1 pin ain bin nin ein (sKept S pin (S 19 0)) (by omega) (by omega) (by omega) hdyF ((hKP.1 pin (by omega)).2)) (gV_X9_255 (fun _ h => h)) (n0 := 5) rfl (by decide +kernel) rfl ⟨Nat.le_of_ble_eq_true rfl, Nat.le_of_ble_eq_true rfl⟩ (o_recv hK hW (hA.o (k := 0) rfl) (kX_0 _ _ _ _) rfl) hK hW hB hS hl.1 rfl (lv_room (Nat.le_of_ble_eq_true rfl)) ⟨Nat.zero_le _, Nat.zero_le _⟩ dX9_settles_84) hS (fun d_24 q_26 H locs hW hS => ?_)
              obtain ⟨hq, hAL⟩ := q_26
              have hI := hI.a hq
              have hKP := hKP.fa hq.2
              refine lv_aload_n hx hb dX9_settles_87 rfl (lv_at hl 1 rfl) ?_
              refine x_gr hx hb hu in_X9 hown hK hW (hA.o (k := 0) rfl) (kX_0 _ _ _ _) rfl 8 (by decide) uF_X9_51 (hA.f 8 (k := 16) (i := 0) (by decide) (hA.o (k := 16) rfl)) dX9_settles_88 ?_
              refine lv_aload hx hb dX9_settles_91 (lv_at hl 0 rfl) ?_
              refine x_gl hx hb hu in_X5 hown hK hW (hA.pier (by omega)) (kX_6 _ _ _ _) rfl 12 (by decide) uF_X9_171 dX9_settles_93 ?_
              refine n_topl (y := (sKept S pin (S 19 0))) ((hKP.1 pin (by omega)).2) ?_
              refine lv_aload hx hb dX9_settles_96 (lv_at hl 0 rfl) ?_
              refine lv_iload_n hx hb dX9_settles_98 rfl (lv_at hl 4 rfl) ?_
              refine lv_iload_n hx hb dX9_settles_99 rfl (lv_at hl 3 rfl) ?_
              refine o_calll (o_runV (As := [.int (nI dayn), .int (nI qin)]) (rest := [.long (sKept S pin (S 19 0)), .ref (ad.1 16 0)]) ⟨hx, hb, hml, hown, hu⟩ (c_X5_mindsThatSayYes l D cA B0 ad hal S d_24 hI.1 pin dayn qin (sKept S pin (S 19 0)) (by omega) (by omega) (by omega) ((hKP.1 pin (by omega)).2)) (gV_X9_245 (fun _ h => h)) (n0 := 2) rfl (by decide +kernel) rfl ⟨Nat.le_of_ble_eq_true rfl, Nat.le_of_ble_eq_true rfl⟩ (o_recv hK hW (hA.pier (by omega)) (kX_6 _ _ _ _) rfl) hK hW hB hS hl.1 rfl (lv_room (Nat.le_of_ble_eq_true rfl)) ⟨Nat.zero_le _, Nat.zero_le _⟩ dX9_settles_100) hS (fun r_28 d_27 q_29 H locs hW hS => ?_)
              obtain ⟨rfl, hq, hF1⟩ := q_29
              have hI := hI.w hq
              have hAL := hAL.w hq.2
              refine o_calli (o_runV (As := [.long (sKept S pin (S 19 0)), .long (sYes S pin (sKept S pin (S 19 0)) dayn qin)]) (rest := []) ⟨hx, hb, hml, hown, hu⟩ (c_X0_fewestToSettle l D cA B0 ad hal S d_27 hI.1.1 pin ein nin (dyF ain bin) (sKept S pin (S 19 0)) (by omega) (by omega) hAL (sYes S pin (sKept S pin (S 19 0)) dayn qin)) (gV_X9_265 (fun _ h => h)) (n0 := 2) rfl (by decide +kernel) rfl ⟨Nat.le_of_ble_eq_true rfl, Nat.le_of_ble_eq_true rfl⟩ (o_recv hK hW (hA.o (k := 16) rfl) (kX_16 _ _ _ _) rfl) hK hW hB hS hl.1 rfl (lv_room (Nat.le_of_ble_eq_true rfl)) ⟨Nat.zero_le _, Nat.zero_le _⟩ dX9_settles_103) hS (fun r_31 d_30 q_32 H locs hW hS => ?_)
              obtain ⟨rfl, rfl⟩ := q_32
              exact o_iret hx hb hr hlocks hW hS (⟨by simp only [aSettles, isPl_rw, Bool.false_and, Bool.and_false, Bool.true_and, Bool.and_true, ite_self, ix_nI hpin (by omega), nx_nI (j := pin) (by omega), ix_nI hqin (by omega), nx_nI (j := qin) (by omega), ix_nI hdayn (by omega), nx_nI (j := dayn) (by omega), hrw, nx_nI (j := ain) (by omega), nx_nI (j := bin) (by omega), nx_nI (j := nin) (by omega), ix_nI hein (by omega), nx_nI (j := ein) (by omega), hz, eq_self, ↓reduceIte, Bool.false_eq_true]; rfl, hI.pub hR⟩) dX9_settles_106
            · have hz : (sKept S pin (S 19 0)) = 0 := lg0 c_z
              refine lv_iconst (v := -1) hx hb dX9_settles_71 (by decide) ?_
              exact o_iret hx hb hr hlocks hW hS (⟨by simp only [aSettles, isPl_rw, Bool.false_and, Bool.and_false, Bool.true_and, Bool.and_true, ite_self, ix_nI hpin (by omega), nx_nI (j := pin) (by omega), ix_nI hqin (by omega), nx_nI (j := qin) (by omega), ix_nI hdayn (by omega), nx_nI (j := dayn) (by omega), hrw, nx_nI (j := ain) (by omega), nx_nI (j := bin) (by omega), nx_nI (j := nin) (by omega), ix_nI hein (by omega), nx_nI (j := ein) (by omega), hz, eq_self, ↓reduceIte, Bool.false_eq_true], hI.pub hR⟩) dX9_settles_72
          · refine lv_iconst (v := -1) hx hb dX9_settles_51 (by decide) ?_
            exact o_iret hx hb hr hlocks hW hS (⟨by simp only [aSettles, isPl_rw, Bool.false_and, Bool.and_false, Bool.true_and, Bool.and_true, ite_self, ix_nI hpin (by omega), nx_nI (j := pin) (by omega), ix_nI hqin (by omega), nx_nI (j := qin) (by omega), ix_nI hdayn (by omega), nx_nI (j := dayn) (by omega), hrw, nx_nI (j := ain) (by omega), nx_nI (j := bin) (by omega), nx_nI (j := nin) (by omega), bI_z c_19, eq_self, ↓reduceIte, Bool.false_eq_true], hI.pub hR⟩) dX9_settles_52
