set_option maxHeartbeats 400000 in
set_option maxRecDepth 100000 in
theorem c_X0_leastWorst_0 (l : Launch) (D : va_G) (cA : Nat → ClassId) (B0 : Nat) (ad : kA) (hal : mAl ad) (S : sS) (d0 : kD) (hX : XB cA ad S d0) (pp er nn : Nat) (dy : Nat → Nat) (x : Int64) (hp : pp < S 7 0) (hn6 : nn ≤ 6) (hAL : AL S pp er x dy nn d0) (y : Int64) (hyx : ∀ m, m < 64 → hasB y m = true → hasB x m = true) (i0 fl en : Nat) (hi0 : i0 ≤ nn) (hfl : fl ≤ 64) (hen : en ≤ 65) : oM l yX0_leastWorst wX0_leastWorst 2 0 0 D cA B0 ad d0 ([.ref (ad.1 16 0), .long y, .int (nI i0), .int (nI 0), .int (nI fl), .int (nI en)] : List Value) (oQi D cA B0 ad (fun r d1 => ∃ v, r = nI v ∧ v ≤ 65 ∧ max fl v = max fl (min en (plV S pp er dy nn 0 y i0)) ∧ d0 = d1)) := by
  refine o_ofW (cc := cX0_leastWorst) (maxL := 9) (ret := some .int) (by decide) rfl (Nat.le_of_ble_eq_true rfl) ?_
  intro p e s m below meth c hx hb hr hml hts hown hlocks hnm hK hW hB hS ls hl
  have hu : ∀ w ∈ UW, w.before _ s = true := fun w h => hts w (uw_c w h)
  have hl : lv_has ls 9 [(0, .ref (ad.1 16 0)), (1, .long y), (3, .int (nI i0)), (4, .int (nI 0)), (5, .int (nI fl)), (6, .int (nI en))] := hl
  have hA := hX.1
  have hG := hX.2.2
  have hb7 : S 7 0 ≤ 8 := hG.f 7 (mx := 8) (by decide)
  have hb11 : S 11 0 ≤ 20 := hG.f 11 (mx := 20) (by decide)
  have hb18 : S 18 0 ≤ 40 := hG.f 18 (mx := 40) (by decide)
  refine lv_iload hx hb dX0_leastWorst_0 (lv_at hl 5 rfl) ?_
  refine lv_lload_n hx hb dX0_leastWorst_2 rfl (lv_at hl 1 rfl) ?_
  refine o_calli (o_runS (As := [.long y]) (rest := [.int (nI en)]) ⟨hx, hb, hml, hown, hu⟩ (c_J13_bitCount_95d88 l D cA B0 ad hal d0 y) (gS_X0_81 (fun _ h => h)) (n0 := 1) rfl (by decide +kernel) rfl ⟨Nat.le_of_ble_eq_true rfl, Nat.le_of_ble_eq_true rfl⟩ hK hW hB hS hl.1 rfl (lv_room (Nat.le_of_ble_eq_true rfl)) ⟨Nat.zero_le _, Nat.zero_le _⟩ dX0_leastWorst_3) hS (fun r_2 d_1 q_3 H locs hW hS => ?_)
  obtain ⟨rfl, rfl⟩ := q_3
  have b_4 := popN_le y
  refine va_mmin hx hb (hml.trans hl.1.symm) hown (hu _ uM_X0_39) (hu _ uT_J9_min_7cf53) (hu _ uI_J9) (hu _ uC_J9_min_7cf53) (Nat.le_of_ble_eq_true rfl) (Nat.le_of_ble_eq_true rfl) (Nat.le_of_ble_eq_true rfl) (Nat.le_of_ble_eq_true rfl) dX0_leastWorst_6 ?_
  refine n_topi (y := nI (min en (popN y))) (n_min (by omega) (by omega)) ?_
  refine lv_istore (lv' := [(7, .int (nI (min en (popN y)))), (0, .ref (ad.1 16 0)), (1, .long y), (3, .int (nI i0)), (4, .int (nI 0)), (5, .int (nI fl)), (6, .int (nI en))]) hx hb dX0_leastWorst_9 hl (by decide) rfl (fun ls hl => ?_)
  refine lv_iload hx hb dX0_leastWorst_11 (lv_at hl 4 rfl) ?_
  refine n_if_gt (tgt := 19) hx hb (by omega) dX0_leastWorst_13 (by decide) (fun c_k => ?_) (fun c_k => ?_)
  · exfalso; omega
  · refine lv_iload hx hb dX0_leastWorst_16 (lv_at hl 0 rfl) ?_
    exact o_iret hx hb hr hlocks hW hS (⟨_, rfl, by omega, rfl, rfl⟩) dX0_leastWorst_18

set_option maxHeartbeats 400000 in
set_option maxRecDepth 100000 in
theorem c_X0_worstBehind_1 (l : Launch) (D : va_G) (cA : Nat → ClassId) (B0 : Nat) (ad : kA) (hal : mAl ad) (S : sS) (d0 : kD) (hX : XB cA ad S d0) (pp er nn : Nat) (dy : Nat → Nat) (x : Int64) (hp : pp < S 7 0) (hn6 : nn ≤ 6) (hAL : AL S pp er x dy nn d0) (y : Int64) (hyx : ∀ m, m < 64 → hasB y m = true → hasB x m = true) (s0 fl en : Nat) (hs0 : s0 < nn) (hfl : fl ≤ 64) (hen : en ≤ 65) : oM l yX0_worstBehind wX0_worstBehind 3 0 0 D cA B0 ad d0 ([.ref (ad.1 16 0), .long y, .int (nI s0), .int (nI 1), .int (nI fl), .int (nI en)] : List Value) (oQi D cA B0 ad (fun r d1 => r = nI (max fl (min en (bhV S pp er dy nn 0 y s0))) ∧ d0 = d1)) := by
  refine o_ofW (cc := cX0_worstBehind) (maxL := 13) (ret := some .int) (by decide) rfl (Nat.le_of_ble_eq_true rfl) ?_
  intro p e s m below meth c hx hb hr hml hts hown hlocks hnm hK hW hB hS ls hl
  have hu : ∀ w ∈ UW, w.before _ s = true := fun w h => hts w (uw_c w h)
  have hl : lv_has ls 13 [(0, .ref (ad.1 16 0)), (1, .long y), (3, .int (nI s0)), (4, .int (nI 1)), (5, .int (nI fl)), (6, .int (nI en))] := hl
  have hA := hX.1
  have hG := hX.2.2
  have hb7 : S 7 0 ≤ 8 := hG.f 7 (mx := 8) (by decide)
  have hb11 : S 11 0 ≤ 20 := hG.f 11 (mx := 20) (by decide)
  have hb18 : S 18 0 ≤ 40 := hG.f 18 (mx := 40) (by decide)
  obtain ⟨cn, hc6, h19, rep, hrep, hcov⟩ := hAL.2 s0 hs0
  refine lv_iload hx hb dX0_worstBehind_0 (lv_at hl 4 rfl) ?_
  refine lv_istore (lv' := [(7, .int (nI fl)), (0, .ref (ad.1 16 0)), (1, .long y), (3, .int (nI s0)), (4, .int (nI 1)), (5, .int (nI fl)), (6, .int (nI en))]) hx hb dX0_worstBehind_2 hl (by decide) rfl (fun ls hl => ?_)
  refine lv_lconst (v := 0) hx hb dX0_worstBehind_4 (by decide) ?_
  refine lv_lstore (lv' := [(8, .long 0), (7, .int (nI fl)), (0, .ref (ad.1 16 0)), (1, .long y), (3, .int (nI s0)), (4, .int (nI 1)), (5, .int (nI fl)), (6, .int (nI en))]) hx hb dX0_worstBehind_5 hl (by decide) rfl (fun ls hl => ?_)
  refine lv_iload_n hx hb dX0_worstBehind_7 rfl (lv_at hl 4 rfl) ?_
  refine n_bipush (v := 64) hx hb dX0_worstBehind_8 (by decide) ?_
  refine n_imul hx hb dX0_worstBehind_10 ?_
  refine lv_istore (lv' := [(10, .int (nI (s0 * 64))), (8, .long 0), (7, .int (nI fl)), (0, .ref (ad.1 16 0)), (1, .long y), (3, .int (nI s0)), (4, .int (nI 1)), (5, .int (nI fl)), (6, .int (nI en))]) hx hb dX0_worstBehind_11 hl (by decide) rfl (fun ls hl => ?_)
  have lp13 : ∀ (n : Nat) (w : Nat) (bf : Int64) (ii : Nat)  (H : Heap) (locs : List Loc) (ls : Array Slot), 64 * s0 + cn - ii < n → (64 * s0 ≤ ii) → (ii ≤ 64 * s0 + cn) → (w ≤ 65) → (WB S pp er y (dy s0) (fun z => plV S pp er dy nn 0 z (s0 + 1)) rep fl en (ii - 64 * s0) w bf) → oW D cA B0 ad d0 H → va_S (oA B0) s.heap H locs → lv_has ls 13 [(0, .ref (ad.1 16 0)), (1, .long y), (3, .int (nI s0)), (4, .int (nI 1)), (5, .int (nI fl)), (6, .int (nI en)), (7, .int (nI w)), (8, .long bf), (10, .int (nI ii))] → W p l e (oR 3 0 0) s m ([.ref (ad.1 16 0), .long y, .int (nI s0), .int (nI 1), .int (nI fl), .int (nI en)] : List Value).toArray below meth c H locs 0 0 (MQ below (oQi D cA B0 ad (fun r d1 => r = nI (max fl (min en (bhV S pp er dy nn 0 y s0))) ∧ d0 = d1)) ([.ref (ad.1 16 0), .long y, .int (nI s0), .int (nI 1), .int (nI fl), .int (nI en)] : List Value).toArray s 0 0 (oA B0)) (F0 m 13 ls []) := by
    intro n
    induction n with
    | zero => intro w bf ii  H locs ls hmu; exact absurd hmu (Nat.not_lt_zero _)
    | succ n ih_lp13 =>
      intro w bf ii  H locs ls hmu hi1 hi2 hw6 hWB hW hS hl
      refine lv_iload hx hb dX0_worstBehind_13 (lv_at hl 8 rfl) ?_
      refine lv_iload_n hx hb dX0_worstBehind_15 rfl (lv_at hl 2 rfl) ?_
      refine n_bipush (v := 64) hx hb dX0_worstBehind_16 (by decide) ?_
      refine n_imul hx hb dX0_worstBehind_18 ?_
      refine lv_aload_n hx hb dX0_worstBehind_19 rfl (lv_at hl 0 rfl) ?_
      refine x_gr hx hb hu in_X0 hown hK hW (hA.o (k := 16) rfl) (kX_16 _ _ _ _) rfl 2 (by decide) uF_X0_18 (hA.ah 2 (k := 19) (by decide)) dX0_worstBehind_20 ?_
      refine lv_iload_n hx hb dX0_worstBehind_23 rfl (lv_at hl 2 rfl) ?_
      refine x_il hx hb hK hW (hA.o (k := 19) rfl) (kX_19 _ _ _ _) (by decide) (by omega) dX0_worstBehind_24 ?_
      refine n_topi (y := nI cn) (h19) ?_
      refine n_iadd hx hb dX0_worstBehind_25 ?_
      refine n_icmp_ge (tgt := 113) hx hb (by omega) (by omega) dX0_worstBehind_26 (by decide) (fun c_i => ?_) (fun c_i => ?_)
      · have hfin := hWB.end (c := cn) (fun m hm hb => hcov m hm (hyx m hm hb)) (Or.inl (by omega))
        refine lv_iload hx hb dX0_worstBehind_113 (lv_at hl 6 rfl) ?_
        exact o_iret hx hb hr hlocks hW hS (⟨congrArg nI hfin, rfl⟩) dX0_worstBehind_115
      · refine lv_iload hx hb dX0_worstBehind_29 (lv_at hl 6 rfl) ?_
        refine lv_iload hx hb dX0_worstBehind_31 (lv_at hl 5 rfl) ?_
        refine n_icmp_ge (tgt := 113) hx hb (by omega) (by omega) dX0_worstBehind_33 (by decide) (fun c_e => ?_) (fun c_e => ?_)
        · have hfin := hWB.end (c := cn) (fun m hm hb => hcov m hm (hyx m hm hb)) (Or.inr (by omega))
          refine lv_iload hx hb dX0_worstBehind_113 (lv_at hl 6 rfl) ?_
          exact o_iret hx hb hr hlocks hW hS (⟨congrArg nI hfin, rfl⟩) dX0_worstBehind_115
        · refine lv_lload_n hx hb dX0_worstBehind_36 rfl (lv_at hl 1 rfl) ?_
          refine lv_aload_n hx hb dX0_worstBehind_37 rfl (lv_at hl 0 rfl) ?_
          refine x_gr hx hb hu in_X0 hown hK hW (hA.o (k := 16) rfl) (kX_16 _ _ _ _) rfl 0 (by decide) uF_X0_9 (hA.ah 0 (k := 17) (by decide)) dX0_worstBehind_38 ?_
          refine lv_iload hx hb dX0_worstBehind_41 (lv_at hl 8 rfl) ?_
          refine x_ll hx hb hK hW (hA.o (k := 17) rfl) (kX_17 _ _ _ _) (by decide) (by omega) dX0_worstBehind_43 ?_
          refine n_topl (y := sHB S pp x (dy s0) (sHole S pp (rep (ii - 64 * s0)) (dy s0))) (by have z := (hrep (ii - 64 * s0) (by omega)).2.2.1; rw [show 64 * s0 + (ii - 64 * s0) = ii by omega] at z; exact z) ?_
          refine lv_land hx hb dX0_worstBehind_44 ?_
          refine n_topl (y := sHB S pp y (dy s0) (sHole S pp (rep (ii - 64 * s0)) (dy s0))) (and_HB hyx) ?_
          refine lv_lconst (v := 0) hx hb dX0_worstBehind_45 (by decide) ?_
          refine W.lcmp hx hb dX0_worstBehind_46 ?_
          have j63 : ∀ (lf : Int64)  (H : Heap) (locs : List Loc) (ls : Array Slot), (lfE S pp er y (dy s0) (rep (ii - 64 * s0)) lf) → oW D cA B0 ad d0 H → va_S (oA B0) s.heap H locs → lv_has ls 13 [(0, .ref (ad.1 16 0)), (1, .long y), (3, .int (nI s0)), (4, .int (nI 1)), (5, .int (nI fl)), (6, .int (nI en)), (7, .int (nI w)), (8, .long bf), (10, .int (nI ii))] → W p l e (oR 3 0 0) s m ([.ref (ad.1 16 0), .long y, .int (nI s0), .int (nI 1), .int (nI fl), .int (nI en)] : List Value).toArray below meth c H locs 0 0 (MQ below (oQi D cA B0 ad (fun r d1 => r = nI (max fl (min en (bhV S pp er dy nn 0 y s0))) ∧ d0 = d1)) ([.ref (ad.1 16 0), .long y, .int (nI s0), .int (nI 1), .int (nI fl), .int (nI en)] : List Value).toArray s 0 0 (oA B0)) (F0 m 63 ls [.long lf]) := by
            intro lf  H locs ls hlf hW hS hl
            refine lv_lstore (lv' := [(11, .long lf), (0, .ref (ad.1 16 0)), (1, .long y), (3, .int (nI s0)), (4, .int (nI 1)), (5, .int (nI fl)), (6, .int (nI en)), (7, .int (nI w)), (8, .long bf), (10, .int (nI ii))]) hx hb dX0_worstBehind_63 hl (by decide) rfl (fun ls hl => ?_)
            refine lv_lload hx hb dX0_worstBehind_65 (lv_at hl 0 rfl) ?_
            refine lv_lload hx hb dX0_worstBehind_67 (lv_at hl 8 rfl) ?_
            refine lv_ldc2 (v := (-1)) hx hb hown (hu _ uK_X0_48) dX0_worstBehind_69 ?_
            refine lv_lxor hx hb dX0_worstBehind_72 ?_
            refine lv_land hx hb dX0_worstBehind_73 ?_
            refine lv_lconst (v := 0) hx hb dX0_worstBehind_74 (by decide) ?_
            refine W.lcmp hx hb dX0_worstBehind_75 ?_
            refine lv_if_eq (tgt := 107) hx hb dX0_worstBehind_76 (by decide) (fun c_b => ?_) (fun c_b => ?_)
            · have hWB2 := hWB.skip (fun h => plV_mono S pp er dy nn 0 (s0 + 1) h) hlf (lg0 c_b)
              refine n_iinc (q := 1) (lv' := [(10, .int (nI (ii + 1))), (11, .long lf), (0, .ref (ad.1 16 0)), (1, .long y), (3, .int (nI s0)), (4, .int (nI 1)), (5, .int (nI fl)), (6, .int (nI en)), (7, .int (nI w)), (8, .long bf)]) hx hb dX0_worstBehind_107 hl (k := 9) rfl (by decide) (by decide) rfl (fun ls hl => ?_)
              refine lv_goto (tgt := 13) hx hb dX0_worstBehind_110 (by decide) ?_
              exact ih_lp13 w bf (ii + 1) _ _ ls (by omega) (by omega) (by omega) (by omega) (by rw [show ii + 1 - 64 * s0 = (ii - 64 * s0) + 1 by omega]; exact hWB2) hW hS (lv_sub hl [2, 3, 4, 5, 6, 7, 8, 9, 0] rfl)
            · have hlx : ∀ m, m < 64 → hasB lf m = true → hasB x m = true := lf_sub hlf hyx
              have hl0 := and_nz (lg0n c_b)
              refine lv_iload hx hb dX0_worstBehind_79 (lv_at hl 7 rfl) ?_
              refine lv_aload_n hx hb dX0_worstBehind_81 rfl (lv_at hl 1 rfl) ?_
              refine lv_lload hx hb dX0_worstBehind_82 (lv_at hl 0 rfl) ?_
              refine lv_iload_n hx hb dX0_worstBehind_84 rfl (lv_at hl 3 rfl) ?_
              refine n_iconst (v := 1) hx hb dX0_worstBehind_85 (by decide) ?_
              refine n_iadd hx hb dX0_worstBehind_86 ?_
              refine lv_iload hx hb dX0_worstBehind_87 (lv_at hl 4 rfl) ?_
              refine n_iconst (v := 1) hx hb dX0_worstBehind_89 (by decide) ?_
              refine n_isub hx hb (by omega) dX0_worstBehind_90 ?_
              refine n_top (b := 0) (rfl) ?_
              refine lv_iload hx hb dX0_worstBehind_91 (lv_at hl 7 rfl) ?_
              refine lv_iload hx hb dX0_worstBehind_93 (lv_at hl 6 rfl) ?_
              refine o_calli (o_runV (As := [.long lf, .int (nI (s0 + 1)), .int (nI 0), .int (nI w), .int (nI en)]) (rest := [.int (nI w)]) ⟨hx, hb, hml, hown, hu⟩ (c_X0_leastWorst_0 l D cA B0 ad hal S d0 hX pp er nn dy x hp hn6 hAL lf hlx (s0 + 1) w en (by omega) (by omega) (by omega)) (gV_X0_91 (fun _ h => h)) (n0 := 5) rfl (by decide +kernel) rfl ⟨Nat.le_of_ble_eq_true rfl, Nat.le_of_ble_eq_true rfl⟩ (o_recv hK hW (hA.o (k := 16) rfl) (kX_16 _ _ _ _) rfl) hK hW hB hS hl.1 rfl (lv_room (Nat.le_of_ble_eq_true rfl)) ⟨Nat.zero_le _, Nat.zero_le _⟩ dX0_worstBehind_95) hS (fun r_2 d_1 q_3 H locs hW hS => ?_)
              obtain ⟨r_2v, rfl, r_2a, r_2b, rfl⟩ := q_3
              have hWB2 := hWB.look hlf hl0 r_2b
              refine va_mmax hx hb (hml.trans hl.1.symm) hown (hu _ uM_X0_45) (hu _ uT_J9_max_7cf53) (hu _ uI_J9) (hu _ uC_J9_max_7cf53) (Nat.le_of_ble_eq_true rfl) (Nat.le_of_ble_eq_true rfl) (Nat.le_of_ble_eq_true rfl) (Nat.le_of_ble_eq_true rfl) dX0_worstBehind_98 ?_
              refine n_topi (y := nI (max w r_2v)) (n_max (by omega) (by omega)) ?_
              refine lv_istore (lv' := [(7, .int (nI (max w r_2v))), (11, .long lf), (0, .ref (ad.1 16 0)), (1, .long y), (3, .int (nI s0)), (4, .int (nI 1)), (5, .int (nI fl)), (6, .int (nI en)), (8, .long bf), (10, .int (nI ii))]) hx hb dX0_worstBehind_101 hl (by decide) rfl (fun ls hl => ?_)
              refine lv_lload hx hb dX0_worstBehind_103 (lv_at hl 1 rfl) ?_
              refine lv_lstore (lv' := [(8, .long lf), (7, .int (nI (max w r_2v))), (11, .long lf), (0, .ref (ad.1 16 0)), (1, .long y), (3, .int (nI s0)), (4, .int (nI 1)), (5, .int (nI fl)), (6, .int (nI en)), (10, .int (nI ii))]) hx hb dX0_worstBehind_105 hl (by decide) rfl (fun ls hl => ?_)
              refine n_iinc (q := 1) (lv' := [(10, .int (nI (ii + 1))), (8, .long lf), (7, .int (nI (max w r_2v))), (11, .long lf), (0, .ref (ad.1 16 0)), (1, .long y), (3, .int (nI s0)), (4, .int (nI 1)), (5, .int (nI fl)), (6, .int (nI en))]) hx hb dX0_worstBehind_107 hl (k := 9) rfl (by decide) (by decide) rfl (fun ls hl => ?_)
              refine lv_goto (tgt := 13) hx hb dX0_worstBehind_110 (by decide) ?_
              exact ih_lp13 (max w r_2v) lf (ii + 1) _ _ ls (by omega) (by omega) (by omega) (by omega) (by rw [show ii + 1 - 64 * s0 = (ii - 64 * s0) + 1 by omega]; exact hWB2) hW hS (lv_sub hl [4, 5, 6, 7, 8, 9, 2, 1, 0] rfl)
          refine lv_if_ne (tgt := 54) hx hb dX0_worstBehind_47 (by decide) (fun c_h => ?_) (fun c_h => ?_)
          · refine lv_lload_n hx hb dX0_worstBehind_54 rfl (lv_at hl 1 rfl) ?_
            refine lv_aload_n hx hb dX0_worstBehind_55 rfl (lv_at hl 0 rfl) ?_
            refine x_gr hx hb hu in_X0 hown hK hW (hA.o (k := 16) rfl) (kX_16 _ _ _ _) rfl 1 (by decide) uF_X0_15 (hA.ah 1 (k := 18) (by decide)) dX0_worstBehind_56 ?_
            refine lv_iload hx hb dX0_worstBehind_59 (lv_at hl 8 rfl) ?_
            refine x_ll hx hb hK hW (hA.o (k := 18) rfl) (kX_18 _ _ _ _) (by decide) (by omega) dX0_worstBehind_61 ?_
            refine n_topl (y := sLeft S pp x (dy s0) er (rep (ii - 64 * s0))) (by have z := (hrep (ii - 64 * s0) (by omega)).2.2.2; rw [show 64 * s0 + (ii - 64 * s0) = ii by omega] at z; exact z) ?_
            refine lv_land hx hb dX0_worstBehind_62 ?_
            refine n_topl (y := sLeft S pp y (dy s0) er (rep (ii - 64 * s0))) (and_left hyx) ?_
            exact j63 (sLeft S pp y (dy s0) er (rep (ii - 64 * s0))) _ _ ls (by first | exact Or.inl ⟨lg0 c_h, rfl⟩ | exact Or.inr ⟨lg0n c_h, rfl⟩) hW hS (lv_sub hl [0, 1, 2, 3, 4, 5, 6, 7, 8] rfl)
          · refine lv_lconst (v := 0) hx hb dX0_worstBehind_50 (by decide) ?_
            refine lv_goto (tgt := 63) hx hb dX0_worstBehind_51 (by decide) ?_
            exact j63 0 _ _ ls (by first | exact Or.inl ⟨lg0 c_h, rfl⟩ | exact Or.inr ⟨lg0n c_h, rfl⟩) hW hS (lv_sub hl [0, 1, 2, 3, 4, 5, 6, 7, 8] rfl)
  exact lp13 (65) fl 0 (s0 * 64) _ _ ls (by omega) (by omega) (by omega) (by omega) (by rw [show s0 * 64 - 64 * s0 = 0 by omega]; exact WB.start S pp er y (dy s0) _ rep fl en) hW hS (lv_sub hl [3, 4, 5, 6, 7, 8, 2, 1, 0] rfl)

set_option maxHeartbeats 400000 in
set_option maxRecDepth 100000 in
theorem c_X0_leastWorst_1 (l : Launch) (D : va_G) (cA : Nat → ClassId) (B0 : Nat) (ad : kA) (hal : mAl ad) (S : sS) (d0 : kD) (hX : XB cA ad S d0) (pp er nn : Nat) (dy : Nat → Nat) (x : Int64) (hp : pp < S 7 0) (hn6 : nn ≤ 6) (hAL : AL S pp er x dy nn d0) (y : Int64) (hyx : ∀ m, m < 64 → hasB y m = true → hasB x m = true) (i0 fl en : Nat) (hi0 : i0 ≤ nn) (hfl : fl ≤ 64) (hen : en ≤ 65) : oM l yX0_leastWorst wX0_leastWorst 4 0 0 D cA B0 ad d0 ([.ref (ad.1 16 0), .long y, .int (nI i0), .int (nI 1), .int (nI fl), .int (nI en)] : List Value) (oQi D cA B0 ad (fun r d1 => ∃ v, r = nI v ∧ v ≤ 65 ∧ max fl v = max fl (min en (plV S pp er dy nn 1 y i0)) ∧ d0 = d1)) := by
  refine o_ofW (cc := cX0_leastWorst) (maxL := 9) (ret := some .int) (by decide) rfl (Nat.le_of_ble_eq_true rfl) ?_
  intro p e s m below meth c hx hb hr hml hts hown hlocks hnm hK hW hB hS ls hl
  have hu : ∀ w ∈ UW, w.before _ s = true := fun w h => hts w (uw_c w h)
  have hl : lv_has ls 9 [(0, .ref (ad.1 16 0)), (1, .long y), (3, .int (nI i0)), (4, .int (nI 1)), (5, .int (nI fl)), (6, .int (nI en))] := hl
  have hA := hX.1
  have hG := hX.2.2
  have hb7 : S 7 0 ≤ 8 := hG.f 7 (mx := 8) (by decide)
  have hb11 : S 11 0 ≤ 20 := hG.f 11 (mx := 20) (by decide)
  have hb18 : S 18 0 ≤ 40 := hG.f 18 (mx := 40) (by decide)
  refine lv_iload hx hb dX0_leastWorst_0 (lv_at hl 5 rfl) ?_
  refine lv_lload_n hx hb dX0_leastWorst_2 rfl (lv_at hl 1 rfl) ?_
  refine o_calli (o_runS (As := [.long y]) (rest := [.int (nI en)]) ⟨hx, hb, hml, hown, hu⟩ (c_J13_bitCount_95d88 l D cA B0 ad hal d0 y) (gS_X0_81 (fun _ h => h)) (n0 := 1) rfl (by decide +kernel) rfl ⟨Nat.le_of_ble_eq_true rfl, Nat.le_of_ble_eq_true rfl⟩ hK hW hB hS hl.1 rfl (lv_room (Nat.le_of_ble_eq_true rfl)) ⟨Nat.zero_le _, Nat.zero_le _⟩ dX0_leastWorst_3) hS (fun r_2 d_1 q_3 H locs hW hS => ?_)
  obtain ⟨rfl, rfl⟩ := q_3
  have b_4 := popN_le y
  refine va_mmin hx hb (hml.trans hl.1.symm) hown (hu _ uM_X0_39) (hu _ uT_J9_min_7cf53) (hu _ uI_J9) (hu _ uC_J9_min_7cf53) (Nat.le_of_ble_eq_true rfl) (Nat.le_of_ble_eq_true rfl) (Nat.le_of_ble_eq_true rfl) (Nat.le_of_ble_eq_true rfl) dX0_leastWorst_6 ?_
  refine n_topi (y := nI (min en (popN y))) (n_min (by omega) (by omega)) ?_
  refine lv_istore (lv' := [(7, .int (nI (min en (popN y)))), (0, .ref (ad.1 16 0)), (1, .long y), (3, .int (nI i0)), (4, .int (nI 1)), (5, .int (nI fl)), (6, .int (nI en))]) hx hb dX0_leastWorst_9 hl (by decide) rfl (fun ls hl => ?_)
  refine lv_iload hx hb dX0_leastWorst_11 (lv_at hl 4 rfl) ?_
  refine n_if_gt (tgt := 19) hx hb (by omega) dX0_leastWorst_13 (by decide) (fun c_k => ?_) (fun c_k => ?_)
  · refine lv_iload_n hx hb dX0_leastWorst_19 rfl (lv_at hl 3 rfl) ?_
    refine lv_istore (lv' := [(8, .int (nI i0)), (7, .int (nI (min en (popN y)))), (0, .ref (ad.1 16 0)), (1, .long y), (3, .int (nI i0)), (4, .int (nI 1)), (5, .int (nI fl)), (6, .int (nI en))]) hx hb dX0_leastWorst_20 hl (by decide) rfl (fun ls hl => ?_)
    have lp22 : ∀ (n : Nat) (le : Nat) (j0 : Nat)  (H : Heap) (locs : List Loc) (ls : Array Slot), nn - j0 < n → (i0 ≤ j0) → (j0 ≤ nn) → (le ≤ 65) → (max fl le = max fl (min en (minL (fun j => bhV S pp er dy nn 0 y (i0 + j)) (popN y) (j0 - i0)))) → oW D cA B0 ad d0 H → va_S (oA B0) s.heap H locs → lv_has ls 9 [(0, .ref (ad.1 16 0)), (1, .long y), (3, .int (nI i0)), (4, .int (nI 1)), (5, .int (nI fl)), (6, .int (nI en)), (7, .int (nI le)), (8, .int (nI j0))] → W p l e (oR 4 0 0) s m ([.ref (ad.1 16 0), .long y, .int (nI i0), .int (nI 1), .int (nI fl), .int (nI en)] : List Value).toArray below meth c H locs 0 0 (MQ below (oQi D cA B0 ad (fun r d1 => ∃ v, r = nI v ∧ v ≤ 65 ∧ max fl v = max fl (min en (plV S pp er dy nn 1 y i0)) ∧ d0 = d1)) ([.ref (ad.1 16 0), .long y, .int (nI i0), .int (nI 1), .int (nI fl), .int (nI en)] : List Value).toArray s 0 0 (oA B0)) (F0 m 22 ls []) := by
      intro n
      induction n with
      | zero => intro le j0  H locs ls hmu; exact absurd hmu (Nat.not_lt_zero _)
      | succ n ih_lp22 =>
        intro le j0  H locs ls hmu hj1 hj2 hle hb0 hW hS hl
        refine lv_iload hx hb dX0_leastWorst_22 (lv_at hl 7 rfl) ?_
        refine lv_aload_n hx hb dX0_leastWorst_24 rfl (lv_at hl 0 rfl) ?_
        refine x_gi hx hb hu in_X0 hown hK hW (hA.o (k := 16) rfl) (kX_16 _ _ _ _) rfl 5 (by decide) uF_X0_28 dX0_leastWorst_25 ?_
        refine n_topi (y := nI nn) (hAL.1) ?_
        refine n_icmp_ge (tgt := 64) hx hb (by omega) (by omega) dX0_leastWorst_28 (by decide) (fun c_j => ?_) (fun c_j => ?_)
        · have hfin : max fl le = max fl (min en (plV S pp er dy nn 1 y i0)) := by rw [plV_suc, show nn - i0 = j0 - i0 by omega]; exact hb0
          refine lv_iload hx hb dX0_leastWorst_64 (lv_at hl 6 rfl) ?_
          exact o_iret hx hb hr hlocks hW hS (⟨le, rfl, by omega, hfin, rfl⟩) dX0_leastWorst_66
        · refine lv_iload hx hb dX0_leastWorst_31 (lv_at hl 6 rfl) ?_
          refine lv_iload hx hb dX0_leastWorst_33 (lv_at hl 4 rfl) ?_
          refine n_icmp_le (tgt := 64) hx hb (by omega) (by omega) dX0_leastWorst_35 (by decide) (fun c_f => ?_) (fun c_f => ?_)
          · have hfin : max fl le = max fl (min en (plV S pp er dy nn 1 y i0)) := by have z := minL_anti (fun j => bhV S pp er dy nn 0 y (i0 + j)) (popN y) (i := j0 - i0) (nn - i0) (by omega); rw [plV_suc]; omega
            refine lv_iload hx hb dX0_leastWorst_64 (lv_at hl 6 rfl) ?_
            exact o_iret hx hb hr hlocks hW hS (⟨le, rfl, by omega, hfin, rfl⟩) dX0_leastWorst_66
          · refine lv_iload hx hb dX0_leastWorst_38 (lv_at hl 6 rfl) ?_
            refine lv_aload_n hx hb dX0_leastWorst_40 rfl (lv_at hl 0 rfl) ?_
            refine lv_lload_n hx hb dX0_leastWorst_41 rfl (lv_at hl 1 rfl) ?_
            refine lv_iload hx hb dX0_leastWorst_42 (lv_at hl 7 rfl) ?_
            refine lv_iload hx hb dX0_leastWorst_44 (lv_at hl 3 rfl) ?_
            refine lv_iload hx hb dX0_leastWorst_46 (lv_at hl 4 rfl) ?_
            refine lv_iload hx hb dX0_leastWorst_48 (lv_at hl 6 rfl) ?_
            refine o_calli (o_runV (As := [.long y, .int (nI j0), .int (nI 1), .int (nI fl), .int (nI le)]) (rest := [.int (nI le)]) ⟨hx, hb, hml, hown, hu⟩ (c_X0_worstBehind_1 l D cA B0 ad hal S d0 hX pp er nn dy x hp hn6 hAL y hyx j0 fl le (by omega) (by omega) (by omega)) (gV_X0_87 (fun _ h => h)) (n0 := 5) rfl (by decide +kernel) rfl ⟨Nat.le_of_ble_eq_true rfl, Nat.le_of_ble_eq_true rfl⟩ (o_recv hK hW (hA.o (k := 16) rfl) (kX_16 _ _ _ _) rfl) hK hW hB hS hl.1 rfl (lv_room (Nat.le_of_ble_eq_true rfl)) ⟨Nat.zero_le _, Nat.zero_le _⟩ dX0_leastWorst_50) hS (fun r_6 d_5 q_7 H locs hW hS => ?_)
            obtain ⟨rfl, rfl⟩ := q_7
            have hms : minL (fun j => bhV S pp er dy nn 0 y (i0 + j)) (popN y) (j0 + 1 - i0) = min (minL (fun j => bhV S pp er dy nn 0 y (i0 + j)) (popN y) (j0 - i0)) (bhV S pp er dy nn 0 y j0) := by rw [show j0 + 1 - i0 = (j0 - i0) + 1 by omega, minL, show i0 + (j0 - i0) = j0 by omega]
            have hst := lw_step (b := bhV S pp er dy nn 0 y j0) hb0 (by omega)
            have hb9 := bhV_64 S pp er dy nn 0 y j0
            refine va_mmin hx hb (hml.trans hl.1.symm) hown (hu _ uM_X0_39) (hu _ uT_J9_min_7cf53) (hu _ uI_J9) (hu _ uC_J9_min_7cf53) (Nat.le_of_ble_eq_true rfl) (Nat.le_of_ble_eq_true rfl) (Nat.le_of_ble_eq_true rfl) (Nat.le_of_ble_eq_true rfl) dX0_leastWorst_53 ?_
            refine n_topi (y := nI (min le (max fl (min le (bhV S pp er dy nn 0 y j0))))) (n_min (by omega) (by omega)) ?_
            refine lv_istore (lv' := [(7, .int (nI (min le (max fl (min le (bhV S pp er dy nn 0 y j0)))))), (0, .ref (ad.1 16 0)), (1, .long y), (3, .int (nI i0)), (4, .int (nI 1)), (5, .int (nI fl)), (6, .int (nI en)), (8, .int (nI j0))]) hx hb dX0_leastWorst_56 hl (by decide) rfl (fun ls hl => ?_)
            refine n_iinc (q := 1) (lv' := [(8, .int (nI (j0 + 1))), (7, .int (nI (min le (max fl (min le (bhV S pp er dy nn 0 y j0)))))), (0, .ref (ad.1 16 0)), (1, .long y), (3, .int (nI i0)), (4, .int (nI 1)), (5, .int (nI fl)), (6, .int (nI en))]) hx hb dX0_leastWorst_58 hl (k := 7) rfl (by decide) (by decide) rfl (fun ls hl => ?_)
            refine lv_goto (tgt := 22) hx hb dX0_leastWorst_61 (by decide) ?_
            exact ih_lp22 (min le (max fl (min le (bhV S pp er dy nn 0 y j0)))) (j0 + 1) _ _ ls (by omega) (by omega) (by omega) (by omega) (by rw [hms]; exact hst) hW hS (lv_sub hl [2, 3, 4, 5, 6, 7, 1, 0] rfl)
    exact lp22 (nn + 1) (min en (popN y)) i0 _ _ ls (by omega) (by omega) (by omega) (by omega) (by rw [Nat.sub_self]; rfl) hW hS (lv_sub hl [2, 3, 4, 5, 6, 7, 1, 0] rfl)
  · exfalso; omega

set_option maxHeartbeats 400000 in
set_option maxRecDepth 100000 in
theorem c_X0_worstBehind_2 (l : Launch) (D : va_G) (cA : Nat → ClassId) (B0 : Nat) (ad : kA) (hal : mAl ad) (S : sS) (d0 : kD) (hX : XB cA ad S d0) (pp er nn : Nat) (dy : Nat → Nat) (x : Int64) (hp : pp < S 7 0) (hn6 : nn ≤ 6) (hAL : AL S pp er x dy nn d0) (y : Int64) (hyx : ∀ m, m < 64 → hasB y m = true → hasB x m = true) (s0 fl en : Nat) (hs0 : s0 < nn) (hfl : fl ≤ 64) (hen : en ≤ 65) : oM l yX0_worstBehind wX0_worstBehind 5 0 0 D cA B0 ad d0 ([.ref (ad.1 16 0), .long y, .int (nI s0), .int (nI 2), .int (nI fl), .int (nI en)] : List Value) (oQi D cA B0 ad (fun r d1 => r = nI (max fl (min en (bhV S pp er dy nn 1 y s0))) ∧ d0 = d1)) := by
  refine o_ofW (cc := cX0_worstBehind) (maxL := 13) (ret := some .int) (by decide) rfl (Nat.le_of_ble_eq_true rfl) ?_
  intro p e s m below meth c hx hb hr hml hts hown hlocks hnm hK hW hB hS ls hl
  have hu : ∀ w ∈ UW, w.before _ s = true := fun w h => hts w (uw_c w h)
  have hl : lv_has ls 13 [(0, .ref (ad.1 16 0)), (1, .long y), (3, .int (nI s0)), (4, .int (nI 2)), (5, .int (nI fl)), (6, .int (nI en))] := hl
  have hA := hX.1
  have hG := hX.2.2
  have hb7 : S 7 0 ≤ 8 := hG.f 7 (mx := 8) (by decide)
  have hb11 : S 11 0 ≤ 20 := hG.f 11 (mx := 20) (by decide)
  have hb18 : S 18 0 ≤ 40 := hG.f 18 (mx := 40) (by decide)
  obtain ⟨cn, hc6, h19, rep, hrep, hcov⟩ := hAL.2 s0 hs0
  refine lv_iload hx hb dX0_worstBehind_0 (lv_at hl 4 rfl) ?_
  refine lv_istore (lv' := [(7, .int (nI fl)), (0, .ref (ad.1 16 0)), (1, .long y), (3, .int (nI s0)), (4, .int (nI 2)), (5, .int (nI fl)), (6, .int (nI en))]) hx hb dX0_worstBehind_2 hl (by decide) rfl (fun ls hl => ?_)
  refine lv_lconst (v := 0) hx hb dX0_worstBehind_4 (by decide) ?_
  refine lv_lstore (lv' := [(8, .long 0), (7, .int (nI fl)), (0, .ref (ad.1 16 0)), (1, .long y), (3, .int (nI s0)), (4, .int (nI 2)), (5, .int (nI fl)), (6, .int (nI en))]) hx hb dX0_worstBehind_5 hl (by decide) rfl (fun ls hl => ?_)
  refine lv_iload_n hx hb dX0_worstBehind_7 rfl (lv_at hl 4 rfl) ?_
  refine n_bipush (v := 64) hx hb dX0_worstBehind_8 (by decide) ?_
  refine n_imul hx hb dX0_worstBehind_10 ?_
  refine lv_istore (lv' := [(10, .int (nI (s0 * 64))), (8, .long 0), (7, .int (nI fl)), (0, .ref (ad.1 16 0)), (1, .long y), (3, .int (nI s0)), (4, .int (nI 2)), (5, .int (nI fl)), (6, .int (nI en))]) hx hb dX0_worstBehind_11 hl (by decide) rfl (fun ls hl => ?_)
  have lp13 : ∀ (n : Nat) (w : Nat) (bf : Int64) (ii : Nat)  (H : Heap) (locs : List Loc) (ls : Array Slot), 64 * s0 + cn - ii < n → (64 * s0 ≤ ii) → (ii ≤ 64 * s0 + cn) → (w ≤ 65) → (WB S pp er y (dy s0) (fun z => plV S pp er dy nn 1 z (s0 + 1)) rep fl en (ii - 64 * s0) w bf) → oW D cA B0 ad d0 H → va_S (oA B0) s.heap H locs → lv_has ls 13 [(0, .ref (ad.1 16 0)), (1, .long y), (3, .int (nI s0)), (4, .int (nI 2)), (5, .int (nI fl)), (6, .int (nI en)), (7, .int (nI w)), (8, .long bf), (10, .int (nI ii))] → W p l e (oR 5 0 0) s m ([.ref (ad.1 16 0), .long y, .int (nI s0), .int (nI 2), .int (nI fl), .int (nI en)] : List Value).toArray below meth c H locs 0 0 (MQ below (oQi D cA B0 ad (fun r d1 => r = nI (max fl (min en (bhV S pp er dy nn 1 y s0))) ∧ d0 = d1)) ([.ref (ad.1 16 0), .long y, .int (nI s0), .int (nI 2), .int (nI fl), .int (nI en)] : List Value).toArray s 0 0 (oA B0)) (F0 m 13 ls []) := by
    intro n
    induction n with
    | zero => intro w bf ii  H locs ls hmu; exact absurd hmu (Nat.not_lt_zero _)
    | succ n ih_lp13 =>
      intro w bf ii  H locs ls hmu hi1 hi2 hw6 hWB hW hS hl
      refine lv_iload hx hb dX0_worstBehind_13 (lv_at hl 8 rfl) ?_
      refine lv_iload_n hx hb dX0_worstBehind_15 rfl (lv_at hl 2 rfl) ?_
      refine n_bipush (v := 64) hx hb dX0_worstBehind_16 (by decide) ?_
      refine n_imul hx hb dX0_worstBehind_18 ?_
      refine lv_aload_n hx hb dX0_worstBehind_19 rfl (lv_at hl 0 rfl) ?_
      refine x_gr hx hb hu in_X0 hown hK hW (hA.o (k := 16) rfl) (kX_16 _ _ _ _) rfl 2 (by decide) uF_X0_18 (hA.ah 2 (k := 19) (by decide)) dX0_worstBehind_20 ?_
      refine lv_iload_n hx hb dX0_worstBehind_23 rfl (lv_at hl 2 rfl) ?_
      refine x_il hx hb hK hW (hA.o (k := 19) rfl) (kX_19 _ _ _ _) (by decide) (by omega) dX0_worstBehind_24 ?_
      refine n_topi (y := nI cn) (h19) ?_
      refine n_iadd hx hb dX0_worstBehind_25 ?_
      refine n_icmp_ge (tgt := 113) hx hb (by omega) (by omega) dX0_worstBehind_26 (by decide) (fun c_i => ?_) (fun c_i => ?_)
      · have hfin := hWB.end (c := cn) (fun m hm hb => hcov m hm (hyx m hm hb)) (Or.inl (by omega))
        refine lv_iload hx hb dX0_worstBehind_113 (lv_at hl 6 rfl) ?_
        exact o_iret hx hb hr hlocks hW hS (⟨congrArg nI hfin, rfl⟩) dX0_worstBehind_115
      · refine lv_iload hx hb dX0_worstBehind_29 (lv_at hl 6 rfl) ?_
        refine lv_iload hx hb dX0_worstBehind_31 (lv_at hl 5 rfl) ?_
        refine n_icmp_ge (tgt := 113) hx hb (by omega) (by omega) dX0_worstBehind_33 (by decide) (fun c_e => ?_) (fun c_e => ?_)
        · have hfin := hWB.end (c := cn) (fun m hm hb => hcov m hm (hyx m hm hb)) (Or.inr (by omega))
          refine lv_iload hx hb dX0_worstBehind_113 (lv_at hl 6 rfl) ?_
          exact o_iret hx hb hr hlocks hW hS (⟨congrArg nI hfin, rfl⟩) dX0_worstBehind_115
        · refine lv_lload_n hx hb dX0_worstBehind_36 rfl (lv_at hl 1 rfl) ?_
          refine lv_aload_n hx hb dX0_worstBehind_37 rfl (lv_at hl 0 rfl) ?_
          refine x_gr hx hb hu in_X0 hown hK hW (hA.o (k := 16) rfl) (kX_16 _ _ _ _) rfl 0 (by decide) uF_X0_9 (hA.ah 0 (k := 17) (by decide)) dX0_worstBehind_38 ?_
          refine lv_iload hx hb dX0_worstBehind_41 (lv_at hl 8 rfl) ?_
          refine x_ll hx hb hK hW (hA.o (k := 17) rfl) (kX_17 _ _ _ _) (by decide) (by omega) dX0_worstBehind_43 ?_
          refine n_topl (y := sHB S pp x (dy s0) (sHole S pp (rep (ii - 64 * s0)) (dy s0))) (by have z := (hrep (ii - 64 * s0) (by omega)).2.2.1; rw [show 64 * s0 + (ii - 64 * s0) = ii by omega] at z; exact z) ?_
          refine lv_land hx hb dX0_worstBehind_44 ?_
          refine n_topl (y := sHB S pp y (dy s0) (sHole S pp (rep (ii - 64 * s0)) (dy s0))) (and_HB hyx) ?_
          refine lv_lconst (v := 0) hx hb dX0_worstBehind_45 (by decide) ?_
          refine W.lcmp hx hb dX0_worstBehind_46 ?_
          have j63 : ∀ (lf : Int64)  (H : Heap) (locs : List Loc) (ls : Array Slot), (lfE S pp er y (dy s0) (rep (ii - 64 * s0)) lf) → oW D cA B0 ad d0 H → va_S (oA B0) s.heap H locs → lv_has ls 13 [(0, .ref (ad.1 16 0)), (1, .long y), (3, .int (nI s0)), (4, .int (nI 2)), (5, .int (nI fl)), (6, .int (nI en)), (7, .int (nI w)), (8, .long bf), (10, .int (nI ii))] → W p l e (oR 5 0 0) s m ([.ref (ad.1 16 0), .long y, .int (nI s0), .int (nI 2), .int (nI fl), .int (nI en)] : List Value).toArray below meth c H locs 0 0 (MQ below (oQi D cA B0 ad (fun r d1 => r = nI (max fl (min en (bhV S pp er dy nn 1 y s0))) ∧ d0 = d1)) ([.ref (ad.1 16 0), .long y, .int (nI s0), .int (nI 2), .int (nI fl), .int (nI en)] : List Value).toArray s 0 0 (oA B0)) (F0 m 63 ls [.long lf]) := by
            intro lf  H locs ls hlf hW hS hl
            refine lv_lstore (lv' := [(11, .long lf), (0, .ref (ad.1 16 0)), (1, .long y), (3, .int (nI s0)), (4, .int (nI 2)), (5, .int (nI fl)), (6, .int (nI en)), (7, .int (nI w)), (8, .long bf), (10, .int (nI ii))]) hx hb dX0_worstBehind_63 hl (by decide) rfl (fun ls hl => ?_)
            refine lv_lload hx hb dX0_worstBehind_65 (lv_at hl 0 rfl) ?_
            refine lv_lload hx hb dX0_worstBehind_67 (lv_at hl 8 rfl) ?_
            refine lv_ldc2 (v := (-1)) hx hb hown (hu _ uK_X0_48) dX0_worstBehind_69 ?_
            refine lv_lxor hx hb dX0_worstBehind_72 ?_
            refine lv_land hx hb dX0_worstBehind_73 ?_
            refine lv_lconst (v := 0) hx hb dX0_worstBehind_74 (by decide) ?_
            refine W.lcmp hx hb dX0_worstBehind_75 ?_
            refine lv_if_eq (tgt := 107) hx hb dX0_worstBehind_76 (by decide) (fun c_b => ?_) (fun c_b => ?_)
            · have hWB2 := hWB.skip (fun h => plV_mono S pp er dy nn 1 (s0 + 1) h) hlf (lg0 c_b)
              refine n_iinc (q := 1) (lv' := [(10, .int (nI (ii + 1))), (11, .long lf), (0, .ref (ad.1 16 0)), (1, .long y), (3, .int (nI s0)), (4, .int (nI 2)), (5, .int (nI fl)), (6, .int (nI en)), (7, .int (nI w)), (8, .long bf)]) hx hb dX0_worstBehind_107 hl (k := 9) rfl (by decide) (by decide) rfl (fun ls hl => ?_)
              refine lv_goto (tgt := 13) hx hb dX0_worstBehind_110 (by decide) ?_
              exact ih_lp13 w bf (ii + 1) _ _ ls (by omega) (by omega) (by omega) (by omega) (by rw [show ii + 1 - 64 * s0 = (ii - 64 * s0) + 1 by omega]; exact hWB2) hW hS (lv_sub hl [2, 3, 4, 5, 6, 7, 8, 9, 0] rfl)
            · have hlx : ∀ m, m < 64 → hasB lf m = true → hasB x m = true := lf_sub hlf hyx
              have hl0 := and_nz (lg0n c_b)
              refine lv_iload hx hb dX0_worstBehind_79 (lv_at hl 7 rfl) ?_
              refine lv_aload_n hx hb dX0_worstBehind_81 rfl (lv_at hl 1 rfl) ?_
              refine lv_lload hx hb dX0_worstBehind_82 (lv_at hl 0 rfl) ?_
              refine lv_iload_n hx hb dX0_worstBehind_84 rfl (lv_at hl 3 rfl) ?_
              refine n_iconst (v := 1) hx hb dX0_worstBehind_85 (by decide) ?_
              refine n_iadd hx hb dX0_worstBehind_86 ?_
              refine lv_iload hx hb dX0_worstBehind_87 (lv_at hl 4 rfl) ?_
              refine n_iconst (v := 1) hx hb dX0_worstBehind_89 (by decide) ?_
              refine n_isub hx hb (by omega) dX0_worstBehind_90 ?_
              refine n_top (b := 1) (rfl) ?_
              refine lv_iload hx hb dX0_worstBehind_91 (lv_at hl 7 rfl) ?_
              refine lv_iload hx hb dX0_worstBehind_93 (lv_at hl 6 rfl) ?_
              refine o_calli (o_runV (As := [.long lf, .int (nI (s0 + 1)), .int (nI 1), .int (nI w), .int (nI en)]) (rest := [.int (nI w)]) ⟨hx, hb, hml, hown, hu⟩ (c_X0_leastWorst_1 l D cA B0 ad hal S d0 hX pp er nn dy x hp hn6 hAL lf hlx (s0 + 1) w en (by omega) (by omega) (by omega)) (gV_X0_91 (fun _ h => h)) (n0 := 5) rfl (by decide +kernel) rfl ⟨Nat.le_of_ble_eq_true rfl, Nat.le_of_ble_eq_true rfl⟩ (o_recv hK hW (hA.o (k := 16) rfl) (kX_16 _ _ _ _) rfl) hK hW hB hS hl.1 rfl (lv_room (Nat.le_of_ble_eq_true rfl)) ⟨Nat.zero_le _, Nat.zero_le _⟩ dX0_worstBehind_95) hS (fun r_2 d_1 q_3 H locs hW hS => ?_)
              obtain ⟨r_2v, rfl, r_2a, r_2b, rfl⟩ := q_3
              have hWB2 := hWB.look hlf hl0 r_2b
              refine va_mmax hx hb (hml.trans hl.1.symm) hown (hu _ uM_X0_45) (hu _ uT_J9_max_7cf53) (hu _ uI_J9) (hu _ uC_J9_max_7cf53) (Nat.le_of_ble_eq_true rfl) (Nat.le_of_ble_eq_true rfl) (Nat.le_of_ble_eq_true rfl) (Nat.le_of_ble_eq_true rfl) dX0_worstBehind_98 ?_
              refine n_topi (y := nI (max w r_2v)) (n_max (by omega) (by omega)) ?_
              refine lv_istore (lv' := [(7, .int (nI (max w r_2v))), (11, .long lf), (0, .ref (ad.1 16 0)), (1, .long y), (3, .int (nI s0)), (4, .int (nI 2)), (5, .int (nI fl)), (6, .int (nI en)), (8, .long bf), (10, .int (nI ii))]) hx hb dX0_worstBehind_101 hl (by decide) rfl (fun ls hl => ?_)
              refine lv_lload hx hb dX0_worstBehind_103 (lv_at hl 1 rfl) ?_
              refine lv_lstore (lv' := [(8, .long lf), (7, .int (nI (max w r_2v))), (11, .long lf), (0, .ref (ad.1 16 0)), (1, .long y), (3, .int (nI s0)), (4, .int (nI 2)), (5, .int (nI fl)), (6, .int (nI en)), (10, .int (nI ii))]) hx hb dX0_worstBehind_105 hl (by decide) rfl (fun ls hl => ?_)
              refine n_iinc (q := 1) (lv' := [(10, .int (nI (ii + 1))), (8, .long lf), (7, .int (nI (max w r_2v))), (11, .long lf), (0, .ref (ad.1 16 0)), (1, .long y), (3, .int (nI s0)), (4, .int (nI 2)), (5, .int (nI fl)), (6, .int (nI en))]) hx hb dX0_worstBehind_107 hl (k := 9) rfl (by decide) (by decide) rfl (fun ls hl => ?_)
              refine lv_goto (tgt := 13) hx hb dX0_worstBehind_110 (by decide) ?_
              exact ih_lp13 (max w r_2v) lf (ii + 1) _ _ ls (by omega) (by omega) (by omega) (by omega) (by rw [show ii + 1 - 64 * s0 = (ii - 64 * s0) + 1 by omega]; exact hWB2) hW hS (lv_sub hl [4, 5, 6, 7, 8, 9, 2, 1, 0] rfl)
          refine lv_if_ne (tgt := 54) hx hb dX0_worstBehind_47 (by decide) (fun c_h => ?_) (fun c_h => ?_)
          · refine lv_lload_n hx hb dX0_worstBehind_54 rfl (lv_at hl 1 rfl) ?_
            refine lv_aload_n hx hb dX0_worstBehind_55 rfl (lv_at hl 0 rfl) ?_
            refine x_gr hx hb hu in_X0 hown hK hW (hA.o (k := 16) rfl) (kX_16 _ _ _ _) rfl 1 (by decide) uF_X0_15 (hA.ah 1 (k := 18) (by decide)) dX0_worstBehind_56 ?_
            refine lv_iload hx hb dX0_worstBehind_59 (lv_at hl 8 rfl) ?_
            refine x_ll hx hb hK hW (hA.o (k := 18) rfl) (kX_18 _ _ _ _) (by decide) (by omega) dX0_worstBehind_61 ?_
            refine n_topl (y := sLeft S pp x (dy s0) er (rep (ii - 64 * s0))) (by have z := (hrep (ii - 64 * s0) (by omega)).2.2.2; rw [show 64 * s0 + (ii - 64 * s0) = ii by omega] at z; exact z) ?_
            refine lv_land hx hb dX0_worstBehind_62 ?_
            refine n_topl (y := sLeft S pp y (dy s0) er (rep (ii - 64 * s0))) (and_left hyx) ?_
            exact j63 (sLeft S pp y (dy s0) er (rep (ii - 64 * s0))) _ _ ls (by first | exact Or.inl ⟨lg0 c_h, rfl⟩ | exact Or.inr ⟨lg0n c_h, rfl⟩) hW hS (lv_sub hl [0, 1, 2, 3, 4, 5, 6, 7, 8] rfl)
          · refine lv_lconst (v := 0) hx hb dX0_worstBehind_50 (by decide) ?_
            refine lv_goto (tgt := 63) hx hb dX0_worstBehind_51 (by decide) ?_
            exact j63 0 _ _ ls (by first | exact Or.inl ⟨lg0 c_h, rfl⟩ | exact Or.inr ⟨lg0n c_h, rfl⟩) hW hS (lv_sub hl [0, 1, 2, 3, 4, 5, 6, 7, 8] rfl)
  exact lp13 (65) fl 0 (s0 * 64) _ _ ls (by omega) (by omega) (by omega) (by omega) (by rw [show s0 * 64 - 64 * s0 = 0 by omega]; exact WB.start S pp er y (dy s0) _ rep fl en) hW hS (lv_sub hl [3, 4, 5, 6, 7, 8, 2, 1, 0] rfl)

set_option maxHeartbeats 400000 in
set_option maxRecDepth 100000 in
theorem c_X0_leastWorst_2 (l : Launch) (D : va_G) (cA : Nat → ClassId) (B0 : Nat) (ad : kA) (hal : mAl ad) (S : sS) (d0 : kD) (hX : XB cA ad S d0) (pp er nn : Nat) (dy : Nat → Nat) (x : Int64) (hp : pp < S 7 0) (hn6 : nn ≤ 6) (hAL : AL S pp er x dy nn d0) (y : Int64) (hyx : ∀ m, m < 64 → hasB y m = true → hasB x m = true) (i0 fl en : Nat) (hi0 : i0 ≤ nn) (hfl : fl ≤ 64) (hen : en ≤ 65) : oM l yX0_leastWorst wX0_leastWorst 6 0 0 D cA B0 ad d0 ([.ref (ad.1 16 0), .long y, .int (nI i0), .int (nI 2), .int (nI fl), .int (nI en)] : List Value) (oQi D cA B0 ad (fun r d1 => ∃ v, r = nI v ∧ v ≤ 65 ∧ max fl v = max fl (min en (plV S pp er dy nn 2 y i0)) ∧ d0 = d1)) := by
  refine o_ofW (cc := cX0_leastWorst) (maxL := 9) (ret := some .int) (by decide) rfl (Nat.le_of_ble_eq_true rfl) ?_
  intro p e s m below meth c hx hb hr hml hts hown hlocks hnm hK hW hB hS ls hl
  have hu : ∀ w ∈ UW, w.before _ s = true := fun w h => hts w (uw_c w h)
  have hl : lv_has ls 9 [(0, .ref (ad.1 16 0)), (1, .long y), (3, .int (nI i0)), (4, .int (nI 2)), (5, .int (nI fl)), (6, .int (nI en))] := hl
  have hA := hX.1
  have hG := hX.2.2
  have hb7 : S 7 0 ≤ 8 := hG.f 7 (mx := 8) (by decide)
  have hb11 : S 11 0 ≤ 20 := hG.f 11 (mx := 20) (by decide)
  have hb18 : S 18 0 ≤ 40 := hG.f 18 (mx := 40) (by decide)
  refine lv_iload hx hb dX0_leastWorst_0 (lv_at hl 5 rfl) ?_
  refine lv_lload_n hx hb dX0_leastWorst_2 rfl (lv_at hl 1 rfl) ?_
  refine o_calli (o_runS (As := [.long y]) (rest := [.int (nI en)]) ⟨hx, hb, hml, hown, hu⟩ (c_J13_bitCount_95d88 l D cA B0 ad hal d0 y) (gS_X0_81 (fun _ h => h)) (n0 := 1) rfl (by decide +kernel) rfl ⟨Nat.le_of_ble_eq_true rfl, Nat.le_of_ble_eq_true rfl⟩ hK hW hB hS hl.1 rfl (lv_room (Nat.le_of_ble_eq_true rfl)) ⟨Nat.zero_le _, Nat.zero_le _⟩ dX0_leastWorst_3) hS (fun r_2 d_1 q_3 H locs hW hS => ?_)
  obtain ⟨rfl, rfl⟩ := q_3
  have b_4 := popN_le y
  refine va_mmin hx hb (hml.trans hl.1.symm) hown (hu _ uM_X0_39) (hu _ uT_J9_min_7cf53) (hu _ uI_J9) (hu _ uC_J9_min_7cf53) (Nat.le_of_ble_eq_true rfl) (Nat.le_of_ble_eq_true rfl) (Nat.le_of_ble_eq_true rfl) (Nat.le_of_ble_eq_true rfl) dX0_leastWorst_6 ?_
  refine n_topi (y := nI (min en (popN y))) (n_min (by omega) (by omega)) ?_
  refine lv_istore (lv' := [(7, .int (nI (min en (popN y)))), (0, .ref (ad.1 16 0)), (1, .long y), (3, .int (nI i0)), (4, .int (nI 2)), (5, .int (nI fl)), (6, .int (nI en))]) hx hb dX0_leastWorst_9 hl (by decide) rfl (fun ls hl => ?_)
  refine lv_iload hx hb dX0_leastWorst_11 (lv_at hl 4 rfl) ?_
  refine n_if_gt (tgt := 19) hx hb (by omega) dX0_leastWorst_13 (by decide) (fun c_k => ?_) (fun c_k => ?_)
  · refine lv_iload_n hx hb dX0_leastWorst_19 rfl (lv_at hl 3 rfl) ?_
    refine lv_istore (lv' := [(8, .int (nI i0)), (7, .int (nI (min en (popN y)))), (0, .ref (ad.1 16 0)), (1, .long y), (3, .int (nI i0)), (4, .int (nI 2)), (5, .int (nI fl)), (6, .int (nI en))]) hx hb dX0_leastWorst_20 hl (by decide) rfl (fun ls hl => ?_)
    have lp22 : ∀ (n : Nat) (le : Nat) (j0 : Nat)  (H : Heap) (locs : List Loc) (ls : Array Slot), nn - j0 < n → (i0 ≤ j0) → (j0 ≤ nn) → (le ≤ 65) → (max fl le = max fl (min en (minL (fun j => bhV S pp er dy nn 1 y (i0 + j)) (popN y) (j0 - i0)))) → oW D cA B0 ad d0 H → va_S (oA B0) s.heap H locs → lv_has ls 9 [(0, .ref (ad.1 16 0)), (1, .long y), (3, .int (nI i0)), (4, .int (nI 2)), (5, .int (nI fl)), (6, .int (nI en)), (7, .int (nI le)), (8, .int (nI j0))] → W p l e (oR 6 0 0) s m ([.ref (ad.1 16 0), .long y, .int (nI i0), .int (nI 2), .int (nI fl), .int (nI en)] : List Value).toArray below meth c H locs 0 0 (MQ below (oQi D cA B0 ad (fun r d1 => ∃ v, r = nI v ∧ v ≤ 65 ∧ max fl v = max fl (min en (plV S pp er dy nn 2 y i0)) ∧ d0 = d1)) ([.ref (ad.1 16 0), .long y, .int (nI i0), .int (nI 2), .int (nI fl), .int (nI en)] : List Value).toArray s 0 0 (oA B0)) (F0 m 22 ls []) := by
      intro n
      induction n with
      | zero => intro le j0  H locs ls hmu; exact absurd hmu (Nat.not_lt_zero _)
      | succ n ih_lp22 =>
        intro le j0  H locs ls hmu hj1 hj2 hle hb0 hW hS hl
        refine lv_iload hx hb dX0_leastWorst_22 (lv_at hl 7 rfl) ?_
        refine lv_aload_n hx hb dX0_leastWorst_24 rfl (lv_at hl 0 rfl) ?_
        refine x_gi hx hb hu in_X0 hown hK hW (hA.o (k := 16) rfl) (kX_16 _ _ _ _) rfl 5 (by decide) uF_X0_28 dX0_leastWorst_25 ?_
        refine n_topi (y := nI nn) (hAL.1) ?_
        refine n_icmp_ge (tgt := 64) hx hb (by omega) (by omega) dX0_leastWorst_28 (by decide) (fun c_j => ?_) (fun c_j => ?_)
        · have hfin : max fl le = max fl (min en (plV S pp er dy nn 2 y i0)) := by rw [plV_suc, show nn - i0 = j0 - i0 by omega]; exact hb0
          refine lv_iload hx hb dX0_leastWorst_64 (lv_at hl 6 rfl) ?_
          exact o_iret hx hb hr hlocks hW hS (⟨le, rfl, by omega, hfin, rfl⟩) dX0_leastWorst_66
        · refine lv_iload hx hb dX0_leastWorst_31 (lv_at hl 6 rfl) ?_
          refine lv_iload hx hb dX0_leastWorst_33 (lv_at hl 4 rfl) ?_
          refine n_icmp_le (tgt := 64) hx hb (by omega) (by omega) dX0_leastWorst_35 (by decide) (fun c_f => ?_) (fun c_f => ?_)
          · have hfin : max fl le = max fl (min en (plV S pp er dy nn 2 y i0)) := by have z := minL_anti (fun j => bhV S pp er dy nn 1 y (i0 + j)) (popN y) (i := j0 - i0) (nn - i0) (by omega); rw [plV_suc]; omega
            refine lv_iload hx hb dX0_leastWorst_64 (lv_at hl 6 rfl) ?_
            exact o_iret hx hb hr hlocks hW hS (⟨le, rfl, by omega, hfin, rfl⟩) dX0_leastWorst_66
          · refine lv_iload hx hb dX0_leastWorst_38 (lv_at hl 6 rfl) ?_
            refine lv_aload_n hx hb dX0_leastWorst_40 rfl (lv_at hl 0 rfl) ?_
            refine lv_lload_n hx hb dX0_leastWorst_41 rfl (lv_at hl 1 rfl) ?_
            refine lv_iload hx hb dX0_leastWorst_42 (lv_at hl 7 rfl) ?_
            refine lv_iload hx hb dX0_leastWorst_44 (lv_at hl 3 rfl) ?_
            refine lv_iload hx hb dX0_leastWorst_46 (lv_at hl 4 rfl) ?_
            refine lv_iload hx hb dX0_leastWorst_48 (lv_at hl 6 rfl) ?_
            refine o_calli (o_runV (As := [.long y, .int (nI j0), .int (nI 2), .int (nI fl), .int (nI le)]) (rest := [.int (nI le)]) ⟨hx, hb, hml, hown, hu⟩ (c_X0_worstBehind_2 l D cA B0 ad hal S d0 hX pp er nn dy x hp hn6 hAL y hyx j0 fl le (by omega) (by omega) (by omega)) (gV_X0_87 (fun _ h => h)) (n0 := 5) rfl (by decide +kernel) rfl ⟨Nat.le_of_ble_eq_true rfl, Nat.le_of_ble_eq_true rfl⟩ (o_recv hK hW (hA.o (k := 16) rfl) (kX_16 _ _ _ _) rfl) hK hW hB hS hl.1 rfl (lv_room (Nat.le_of_ble_eq_true rfl)) ⟨Nat.zero_le _, Nat.zero_le _⟩ dX0_leastWorst_50) hS (fun r_6 d_5 q_7 H locs hW hS => ?_)
            obtain ⟨rfl, rfl⟩ := q_7
            have hms : minL (fun j => bhV S pp er dy nn 1 y (i0 + j)) (popN y) (j0 + 1 - i0) = min (minL (fun j => bhV S pp er dy nn 1 y (i0 + j)) (popN y) (j0 - i0)) (bhV S pp er dy nn 1 y j0) := by rw [show j0 + 1 - i0 = (j0 - i0) + 1 by omega, minL, show i0 + (j0 - i0) = j0 by omega]
            have hst := lw_step (b := bhV S pp er dy nn 1 y j0) hb0 (by omega)
            have hb9 := bhV_64 S pp er dy nn 1 y j0
            refine va_mmin hx hb (hml.trans hl.1.symm) hown (hu _ uM_X0_39) (hu _ uT_J9_min_7cf53) (hu _ uI_J9) (hu _ uC_J9_min_7cf53) (Nat.le_of_ble_eq_true rfl) (Nat.le_of_ble_eq_true rfl) (Nat.le_of_ble_eq_true rfl) (Nat.le_of_ble_eq_true rfl) dX0_leastWorst_53 ?_
            refine n_topi (y := nI (min le (max fl (min le (bhV S pp er dy nn 1 y j0))))) (n_min (by omega) (by omega)) ?_
            refine lv_istore (lv' := [(7, .int (nI (min le (max fl (min le (bhV S pp er dy nn 1 y j0)))))), (0, .ref (ad.1 16 0)), (1, .long y), (3, .int (nI i0)), (4, .int (nI 2)), (5, .int (nI fl)), (6, .int (nI en)), (8, .int (nI j0))]) hx hb dX0_leastWorst_56 hl (by decide) rfl (fun ls hl => ?_)
            refine n_iinc (q := 1) (lv' := [(8, .int (nI (j0 + 1))), (7, .int (nI (min le (max fl (min le (bhV S pp er dy nn 1 y j0)))))), (0, .ref (ad.1 16 0)), (1, .long y), (3, .int (nI i0)), (4, .int (nI 2)), (5, .int (nI fl)), (6, .int (nI en))]) hx hb dX0_leastWorst_58 hl (k := 7) rfl (by decide) (by decide) rfl (fun ls hl => ?_)
            refine lv_goto (tgt := 22) hx hb dX0_leastWorst_61 (by decide) ?_
            exact ih_lp22 (min le (max fl (min le (bhV S pp er dy nn 1 y j0)))) (j0 + 1) _ _ ls (by omega) (by omega) (by omega) (by omega) (by rw [hms]; exact hst) hW hS (lv_sub hl [2, 3, 4, 5, 6, 7, 1, 0] rfl)
    exact lp22 (nn + 1) (min en (popN y)) i0 _ _ ls (by omega) (by omega) (by omega) (by omega) (by rw [Nat.sub_self]; rfl) hW hS (lv_sub hl [2, 3, 4, 5, 6, 7, 1, 0] rfl)
  · exfalso; omega

set_option maxHeartbeats 400000 in
set_option maxRecDepth 100000 in
theorem c_X0_worstBehind_3 (l : Launch) (D : va_G) (cA : Nat → ClassId) (B0 : Nat) (ad : kA) (hal : mAl ad) (S : sS) (d0 : kD) (hX : XB cA ad S d0) (pp er nn : Nat) (dy : Nat → Nat) (x : Int64) (hp : pp < S 7 0) (hn6 : nn ≤ 6) (hAL : AL S pp er x dy nn d0) (y : Int64) (hyx : ∀ m, m < 64 → hasB y m = true → hasB x m = true) (s0 fl en : Nat) (hs0 : s0 < nn) (hfl : fl ≤ 64) (hen : en ≤ 65) : oM l yX0_worstBehind wX0_worstBehind 7 0 0 D cA B0 ad d0 ([.ref (ad.1 16 0), .long y, .int (nI s0), .int (nI 3), .int (nI fl), .int (nI en)] : List Value) (oQi D cA B0 ad (fun r d1 => r = nI (max fl (min en (bhV S pp er dy nn 2 y s0))) ∧ d0 = d1)) := by
  refine o_ofW (cc := cX0_worstBehind) (maxL := 13) (ret := some .int) (by decide) rfl (Nat.le_of_ble_eq_true rfl) ?_
  intro p e s m below meth c hx hb hr hml hts hown hlocks hnm hK hW hB hS ls hl
  have hu : ∀ w ∈ UW, w.before _ s = true := fun w h => hts w (uw_c w h)
  have hl : lv_has ls 13 [(0, .ref (ad.1 16 0)), (1, .long y), (3, .int (nI s0)), (4, .int (nI 3)), (5, .int (nI fl)), (6, .int (nI en))] := hl
  have hA := hX.1
  have hG := hX.2.2
  have hb7 : S 7 0 ≤ 8 := hG.f 7 (mx := 8) (by decide)
  have hb11 : S 11 0 ≤ 20 := hG.f 11 (mx := 20) (by decide)
  have hb18 : S 18 0 ≤ 40 := hG.f 18 (mx := 40) (by decide)
  obtain ⟨cn, hc6, h19, rep, hrep, hcov⟩ := hAL.2 s0 hs0
  refine lv_iload hx hb dX0_worstBehind_0 (lv_at hl 4 rfl) ?_
  refine lv_istore (lv' := [(7, .int (nI fl)), (0, .ref (ad.1 16 0)), (1, .long y), (3, .int (nI s0)), (4, .int (nI 3)), (5, .int (nI fl)), (6, .int (nI en))]) hx hb dX0_worstBehind_2 hl (by decide) rfl (fun ls hl => ?_)
  refine lv_lconst (v := 0) hx hb dX0_worstBehind_4 (by decide) ?_
  refine lv_lstore (lv' := [(8, .long 0), (7, .int (nI fl)), (0, .ref (ad.1 16 0)), (1, .long y), (3, .int (nI s0)), (4, .int (nI 3)), (5, .int (nI fl)), (6, .int (nI en))]) hx hb dX0_worstBehind_5 hl (by decide) rfl (fun ls hl => ?_)
  refine lv_iload_n hx hb dX0_worstBehind_7 rfl (lv_at hl 4 rfl) ?_
  refine n_bipush (v := 64) hx hb dX0_worstBehind_8 (by decide) ?_
  refine n_imul hx hb dX0_worstBehind_10 ?_
  refine lv_istore (lv' := [(10, .int (nI (s0 * 64))), (8, .long 0), (7, .int (nI fl)), (0, .ref (ad.1 16 0)), (1, .long y), (3, .int (nI s0)), (4, .int (nI 3)), (5, .int (nI fl)), (6, .int (nI en))]) hx hb dX0_worstBehind_11 hl (by decide) rfl (fun ls hl => ?_)
  have lp13 : ∀ (n : Nat) (w : Nat) (bf : Int64) (ii : Nat)  (H : Heap) (locs : List Loc) (ls : Array Slot), 64 * s0 + cn - ii < n → (64 * s0 ≤ ii) → (ii ≤ 64 * s0 + cn) → (w ≤ 65) → (WB S pp er y (dy s0) (fun z => plV S pp er dy nn 2 z (s0 + 1)) rep fl en (ii - 64 * s0) w bf) → oW D cA B0 ad d0 H → va_S (oA B0) s.heap H locs → lv_has ls 13 [(0, .ref (ad.1 16 0)), (1, .long y), (3, .int (nI s0)), (4, .int (nI 3)), (5, .int (nI fl)), (6, .int (nI en)), (7, .int (nI w)), (8, .long bf), (10, .int (nI ii))] → W p l e (oR 7 0 0) s m ([.ref (ad.1 16 0), .long y, .int (nI s0), .int (nI 3), .int (nI fl), .int (nI en)] : List Value).toArray below meth c H locs 0 0 (MQ below (oQi D cA B0 ad (fun r d1 => r = nI (max fl (min en (bhV S pp er dy nn 2 y s0))) ∧ d0 = d1)) ([.ref (ad.1 16 0), .long y, .int (nI s0), .int (nI 3), .int (nI fl), .int (nI en)] : List Value).toArray s 0 0 (oA B0)) (F0 m 13 ls []) := by
    intro n
    induction n with
    | zero => intro w bf ii  H locs ls hmu; exact absurd hmu (Nat.not_lt_zero _)
    | succ n ih_lp13 =>
      intro w bf ii  H locs ls hmu hi1 hi2 hw6 hWB hW hS hl
      refine lv_iload hx hb dX0_worstBehind_13 (lv_at hl 8 rfl) ?_
      refine lv_iload_n hx hb dX0_worstBehind_15 rfl (lv_at hl 2 rfl) ?_
      refine n_bipush (v := 64) hx hb dX0_worstBehind_16 (by decide) ?_
      refine n_imul hx hb dX0_worstBehind_18 ?_
      refine lv_aload_n hx hb dX0_worstBehind_19 rfl (lv_at hl 0 rfl) ?_
      refine x_gr hx hb hu in_X0 hown hK hW (hA.o (k := 16) rfl) (kX_16 _ _ _ _) rfl 2 (by decide) uF_X0_18 (hA.ah 2 (k := 19) (by decide)) dX0_worstBehind_20 ?_
      refine lv_iload_n hx hb dX0_worstBehind_23 rfl (lv_at hl 2 rfl) ?_
      refine x_il hx hb hK hW (hA.o (k := 19) rfl) (kX_19 _ _ _ _) (by decide) (by omega) dX0_worstBehind_24 ?_
      refine n_topi (y := nI cn) (h19) ?_
      refine n_iadd hx hb dX0_worstBehind_25 ?_
      refine n_icmp_ge (tgt := 113) hx hb (by omega) (by omega) dX0_worstBehind_26 (by decide) (fun c_i => ?_) (fun c_i => ?_)
      · have hfin := hWB.end (c := cn) (fun m hm hb => hcov m hm (hyx m hm hb)) (Or.inl (by omega))
        refine lv_iload hx hb dX0_worstBehind_113 (lv_at hl 6 rfl) ?_
        exact o_iret hx hb hr hlocks hW hS (⟨congrArg nI hfin, rfl⟩) dX0_worstBehind_115
      · refine lv_iload hx hb dX0_worstBehind_29 (lv_at hl 6 rfl) ?_
        refine lv_iload hx hb dX0_worstBehind_31 (lv_at hl 5 rfl) ?_
        refine n_icmp_ge (tgt := 113) hx hb (by omega) (by omega) dX0_worstBehind_33 (by decide) (fun c_e => ?_) (fun c_e => ?_)
        · have hfin := hWB.end (c := cn) (fun m hm hb => hcov m hm (hyx m hm hb)) (Or.inr (by omega))
          refine lv_iload hx hb dX0_worstBehind_113 (lv_at hl 6 rfl) ?_
          exact o_iret hx hb hr hlocks hW hS (⟨congrArg nI hfin, rfl⟩) dX0_worstBehind_115
        · refine lv_lload_n hx hb dX0_worstBehind_36 rfl (lv_at hl 1 rfl) ?_
          refine lv_aload_n hx hb dX0_worstBehind_37 rfl (lv_at hl 0 rfl) ?_
          refine x_gr hx hb hu in_X0 hown hK hW (hA.o (k := 16) rfl) (kX_16 _ _ _ _) rfl 0 (by decide) uF_X0_9 (hA.ah 0 (k := 17) (by decide)) dX0_worstBehind_38 ?_
          refine lv_iload hx hb dX0_worstBehind_41 (lv_at hl 8 rfl) ?_
          refine x_ll hx hb hK hW (hA.o (k := 17) rfl) (kX_17 _ _ _ _) (by decide) (by omega) dX0_worstBehind_43 ?_
          refine n_topl (y := sHB S pp x (dy s0) (sHole S pp (rep (ii - 64 * s0)) (dy s0))) (by have z := (hrep (ii - 64 * s0) (by omega)).2.2.1; rw [show 64 * s0 + (ii - 64 * s0) = ii by omega] at z; exact z) ?_
          refine lv_land hx hb dX0_worstBehind_44 ?_
          refine n_topl (y := sHB S pp y (dy s0) (sHole S pp (rep (ii - 64 * s0)) (dy s0))) (and_HB hyx) ?_
          refine lv_lconst (v := 0) hx hb dX0_worstBehind_45 (by decide) ?_
          refine W.lcmp hx hb dX0_worstBehind_46 ?_
          have j63 : ∀ (lf : Int64)  (H : Heap) (locs : List Loc) (ls : Array Slot), (lfE S pp er y (dy s0) (rep (ii - 64 * s0)) lf) → oW D cA B0 ad d0 H → va_S (oA B0) s.heap H locs → lv_has ls 13 [(0, .ref (ad.1 16 0)), (1, .long y), (3, .int (nI s0)), (4, .int (nI 3)), (5, .int (nI fl)), (6, .int (nI en)), (7, .int (nI w)), (8, .long bf), (10, .int (nI ii))] → W p l e (oR 7 0 0) s m ([.ref (ad.1 16 0), .long y, .int (nI s0), .int (nI 3), .int (nI fl), .int (nI en)] : List Value).toArray below meth c H locs 0 0 (MQ below (oQi D cA B0 ad (fun r d1 => r = nI (max fl (min en (bhV S pp er dy nn 2 y s0))) ∧ d0 = d1)) ([.ref (ad.1 16 0), .long y, .int (nI s0), .int (nI 3), .int (nI fl), .int (nI en)] : List Value).toArray s 0 0 (oA B0)) (F0 m 63 ls [.long lf]) := by
            intro lf  H locs ls hlf hW hS hl
            refine lv_lstore (lv' := [(11, .long lf), (0, .ref (ad.1 16 0)), (1, .long y), (3, .int (nI s0)), (4, .int (nI 3)), (5, .int (nI fl)), (6, .int (nI en)), (7, .int (nI w)), (8, .long bf), (10, .int (nI ii))]) hx hb dX0_worstBehind_63 hl (by decide) rfl (fun ls hl => ?_)
            refine lv_lload hx hb dX0_worstBehind_65 (lv_at hl 0 rfl) ?_
            refine lv_lload hx hb dX0_worstBehind_67 (lv_at hl 8 rfl) ?_
            refine lv_ldc2 (v := (-1)) hx hb hown (hu _ uK_X0_48) dX0_worstBehind_69 ?_
            refine lv_lxor hx hb dX0_worstBehind_72 ?_
            refine lv_land hx hb dX0_worstBehind_73 ?_
            refine lv_lconst (v := 0) hx hb dX0_worstBehind_74 (by decide) ?_
            refine W.lcmp hx hb dX0_worstBehind_75 ?_
            refine lv_if_eq (tgt := 107) hx hb dX0_worstBehind_76 (by decide) (fun c_b => ?_) (fun c_b => ?_)
            · have hWB2 := hWB.skip (fun h => plV_mono S pp er dy nn 2 (s0 + 1) h) hlf (lg0 c_b)
              refine n_iinc (q := 1) (lv' := [(10, .int (nI (ii + 1))), (11, .long lf), (0, .ref (ad.1 16 0)), (1, .long y), (3, .int (nI s0)), (4, .int (nI 3)), (5, .int (nI fl)), (6, .int (nI en)), (7, .int (nI w)), (8, .long bf)]) hx hb dX0_worstBehind_107 hl (k := 9) rfl (by decide) (by decide) rfl (fun ls hl => ?_)
              refine lv_goto (tgt := 13) hx hb dX0_worstBehind_110 (by decide) ?_
              exact ih_lp13 w bf (ii + 1) _ _ ls (by omega) (by omega) (by omega) (by omega) (by rw [show ii + 1 - 64 * s0 = (ii - 64 * s0) + 1 by omega]; exact hWB2) hW hS (lv_sub hl [2, 3, 4, 5, 6, 7, 8, 9, 0] rfl)
            · have hlx : ∀ m, m < 64 → hasB lf m = true → hasB x m = true := lf_sub hlf hyx
              have hl0 := and_nz (lg0n c_b)
              refine lv_iload hx hb dX0_worstBehind_79 (lv_at hl 7 rfl) ?_
              refine lv_aload_n hx hb dX0_worstBehind_81 rfl (lv_at hl 1 rfl) ?_
              refine lv_lload hx hb dX0_worstBehind_82 (lv_at hl 0 rfl) ?_
              refine lv_iload_n hx hb dX0_worstBehind_84 rfl (lv_at hl 3 rfl) ?_
              refine n_iconst (v := 1) hx hb dX0_worstBehind_85 (by decide) ?_
              refine n_iadd hx hb dX0_worstBehind_86 ?_
              refine lv_iload hx hb dX0_worstBehind_87 (lv_at hl 4 rfl) ?_
              refine n_iconst (v := 1) hx hb dX0_worstBehind_89 (by decide) ?_
              refine n_isub hx hb (by omega) dX0_worstBehind_90 ?_
              refine n_top (b := 2) (rfl) ?_
              refine lv_iload hx hb dX0_worstBehind_91 (lv_at hl 7 rfl) ?_
              refine lv_iload hx hb dX0_worstBehind_93 (lv_at hl 6 rfl) ?_
              refine o_calli (o_runV (As := [.long lf, .int (nI (s0 + 1)), .int (nI 2), .int (nI w), .int (nI en)]) (rest := [.int (nI w)]) ⟨hx, hb, hml, hown, hu⟩ (c_X0_leastWorst_2 l D cA B0 ad hal S d0 hX pp er nn dy x hp hn6 hAL lf hlx (s0 + 1) w en (by omega) (by omega) (by omega)) (gV_X0_91 (fun _ h => h)) (n0 := 5) rfl (by decide +kernel) rfl ⟨Nat.le_of_ble_eq_true rfl, Nat.le_of_ble_eq_true rfl⟩ (o_recv hK hW (hA.o (k := 16) rfl) (kX_16 _ _ _ _) rfl) hK hW hB hS hl.1 rfl (lv_room (Nat.le_of_ble_eq_true rfl)) ⟨Nat.zero_le _, Nat.zero_le _⟩ dX0_worstBehind_95) hS (fun r_2 d_1 q_3 H locs hW hS => ?_)
              obtain ⟨r_2v, rfl, r_2a, r_2b, rfl⟩ := q_3
              have hWB2 := hWB.look hlf hl0 r_2b
              refine va_mmax hx hb (hml.trans hl.1.symm) hown (hu _ uM_X0_45) (hu _ uT_J9_max_7cf53) (hu _ uI_J9) (hu _ uC_J9_max_7cf53) (Nat.le_of_ble_eq_true rfl) (Nat.le_of_ble_eq_true rfl) (Nat.le_of_ble_eq_true rfl) (Nat.le_of_ble_eq_true rfl) dX0_worstBehind_98 ?_
              refine n_topi (y := nI (max w r_2v)) (n_max (by omega) (by omega)) ?_
              refine lv_istore (lv' := [(7, .int (nI (max w r_2v))), (11, .long lf), (0, .ref (ad.1 16 0)), (1, .long y), (3, .int (nI s0)), (4, .int (nI 3)), (5, .int (nI fl)), (6, .int (nI en)), (8, .long bf), (10, .int (nI ii))]) hx hb dX0_worstBehind_101 hl (by decide) rfl (fun ls hl => ?_)
              refine lv_lload hx hb dX0_worstBehind_103 (lv_at hl 1 rfl) ?_
              refine lv_lstore (lv' := [(8, .long lf), (7, .int (nI (max w r_2v))), (11, .long lf), (0, .ref (ad.1 16 0)), (1, .long y), (3, .int (nI s0)), (4, .int (nI 3)), (5, .int (nI fl)), (6, .int (nI en)), (10, .int (nI ii))]) hx hb dX0_worstBehind_105 hl (by decide) rfl (fun ls hl => ?_)
              refine n_iinc (q := 1) (lv' := [(10, .int (nI (ii + 1))), (8, .long lf), (7, .int (nI (max w r_2v))), (11, .long lf), (0, .ref (ad.1 16 0)), (1, .long y), (3, .int (nI s0)), (4, .int (nI 3)), (5, .int (nI fl)), (6, .int (nI en))]) hx hb dX0_worstBehind_107 hl (k := 9) rfl (by decide) (by decide) rfl (fun ls hl => ?_)
              refine lv_goto (tgt := 13) hx hb dX0_worstBehind_110 (by decide) ?_
              exact ih_lp13 (max w r_2v) lf (ii + 1) _ _ ls (by omega) (by omega) (by omega) (by omega) (by rw [show ii + 1 - 64 * s0 = (ii - 64 * s0) + 1 by omega]; exact hWB2) hW hS (lv_sub hl [4, 5, 6, 7, 8, 9, 2, 1, 0] rfl)
          refine lv_if_ne (tgt := 54) hx hb dX0_worstBehind_47 (by decide) (fun c_h => ?_) (fun c_h => ?_)
          · refine lv_lload_n hx hb dX0_worstBehind_54 rfl (lv_at hl 1 rfl) ?_
            refine lv_aload_n hx hb dX0_worstBehind_55 rfl (lv_at hl 0 rfl) ?_
            refine x_gr hx hb hu in_X0 hown hK hW (hA.o (k := 16) rfl) (kX_16 _ _ _ _) rfl 1 (by decide) uF_X0_15 (hA.ah 1 (k := 18) (by decide)) dX0_worstBehind_56 ?_
            refine lv_iload hx hb dX0_worstBehind_59 (lv_at hl 8 rfl) ?_
            refine x_ll hx hb hK hW (hA.o (k := 18) rfl) (kX_18 _ _ _ _) (by decide) (by omega) dX0_worstBehind_61 ?_
            refine n_topl (y := sLeft S pp x (dy s0) er (rep (ii - 64 * s0))) (by have z := (hrep (ii - 64 * s0) (by omega)).2.2.2; rw [show 64 * s0 + (ii - 64 * s0) = ii by omega] at z; exact z) ?_
            refine lv_land hx hb dX0_worstBehind_62 ?_
            refine n_topl (y := sLeft S pp y (dy s0) er (rep (ii - 64 * s0))) (and_left hyx) ?_
            exact j63 (sLeft S pp y (dy s0) er (rep (ii - 64 * s0))) _ _ ls (by first | exact Or.inl ⟨lg0 c_h, rfl⟩ | exact Or.inr ⟨lg0n c_h, rfl⟩) hW hS (lv_sub hl [0, 1, 2, 3, 4, 5, 6, 7, 8] rfl)
          · refine lv_lconst (v := 0) hx hb dX0_worstBehind_50 (by decide) ?_
            refine lv_goto (tgt := 63) hx hb dX0_worstBehind_51 (by decide) ?_
            exact j63 0 _ _ ls (by first | exact Or.inl ⟨lg0 c_h, rfl⟩ | exact Or.inr ⟨lg0n c_h, rfl⟩) hW hS (lv_sub hl [0, 1, 2, 3, 4, 5, 6, 7, 8] rfl)
  exact lp13 (65) fl 0 (s0 * 64) _ _ ls (by omega) (by omega) (by omega) (by omega) (by rw [show s0 * 64 - 64 * s0 = 0 by omega]; exact WB.start S pp er y (dy s0) _ rep fl en) hW hS (lv_sub hl [3, 4, 5, 6, 7, 8, 2, 1, 0] rfl)

set_option maxHeartbeats 400000 in
set_option maxRecDepth 100000 in
theorem c_X0_worstBehind_1u (l : Launch) (D : va_G) (cA : Nat → ClassId) (B0 : Nat) (ad : kA) (hal : mAl ad) (S : sS) (d0 : kD) (hX : XB cA ad S d0) (pp er nn : Nat) (dy : Nat → Nat) (x : Int64) (hp : pp < S 7 0) (hn6 : nn ≤ 6) (hAL : AL S pp er x dy nn d0) (y : Int64) (hyx : ∀ m, m < 64 → hasB y m = true → hasB x m = true) (s0 fl en : Nat) (hs0 : s0 < nn) (hfl : fl ≤ 64) (hen : en ≤ 65) : oM l yX0_worstBehind wX0_worstBehind 7 0 0 D cA B0 ad d0 ([.ref (ad.1 16 0), .long y, .int (nI s0), .int (nI 1), .int (nI fl), .int (nI en)] : List Value) (oQi D cA B0 ad (fun r d1 => r = nI (max fl (min en (bhV S pp er dy nn 0 y s0))) ∧ d0 = d1)) := by
  refine o_ofW (cc := cX0_worstBehind) (maxL := 13) (ret := some .int) (by decide) rfl (Nat.le_of_ble_eq_true rfl) ?_
  intro p e s m below meth c hx hb hr hml hts hown hlocks hnm hK hW hB hS ls hl
  have hu : ∀ w ∈ UW, w.before _ s = true := fun w h => hts w (uw_c w h)
  have hl : lv_has ls 13 [(0, .ref (ad.1 16 0)), (1, .long y), (3, .int (nI s0)), (4, .int (nI 1)), (5, .int (nI fl)), (6, .int (nI en))] := hl
  have hA := hX.1
  have hG := hX.2.2
  have hb7 : S 7 0 ≤ 8 := hG.f 7 (mx := 8) (by decide)
  have hb11 : S 11 0 ≤ 20 := hG.f 11 (mx := 20) (by decide)
  have hb18 : S 18 0 ≤ 40 := hG.f 18 (mx := 40) (by decide)
  obtain ⟨cn, hc6, h19, rep, hrep, hcov⟩ := hAL.2 s0 hs0
  refine lv_iload hx hb dX0_worstBehind_0 (lv_at hl 4 rfl) ?_
  refine lv_istore (lv' := [(7, .int (nI fl)), (0, .ref (ad.1 16 0)), (1, .long y), (3, .int (nI s0)), (4, .int (nI 1)), (5, .int (nI fl)), (6, .int (nI en))]) hx hb dX0_worstBehind_2 hl (by decide) rfl (fun ls hl => ?_)
  refine lv_lconst (v := 0) hx hb dX0_worstBehind_4 (by decide) ?_
  refine lv_lstore (lv' := [(8, .long 0), (7, .int (nI fl)), (0, .ref (ad.1 16 0)), (1, .long y), (3, .int (nI s0)), (4, .int (nI 1)), (5, .int (nI fl)), (6, .int (nI en))]) hx hb dX0_worstBehind_5 hl (by decide) rfl (fun ls hl => ?_)
  refine lv_iload_n hx hb dX0_worstBehind_7 rfl (lv_at hl 4 rfl) ?_
  refine n_bipush (v := 64) hx hb dX0_worstBehind_8 (by decide) ?_
  refine n_imul hx hb dX0_worstBehind_10 ?_
  refine lv_istore (lv' := [(10, .int (nI (s0 * 64))), (8, .long 0), (7, .int (nI fl)), (0, .ref (ad.1 16 0)), (1, .long y), (3, .int (nI s0)), (4, .int (nI 1)), (5, .int (nI fl)), (6, .int (nI en))]) hx hb dX0_worstBehind_11 hl (by decide) rfl (fun ls hl => ?_)
  have lp13 : ∀ (n : Nat) (w : Nat) (bf : Int64) (ii : Nat)  (H : Heap) (locs : List Loc) (ls : Array Slot), 64 * s0 + cn - ii < n → (64 * s0 ≤ ii) → (ii ≤ 64 * s0 + cn) → (w ≤ 65) → (WB S pp er y (dy s0) (fun z => plV S pp er dy nn 0 z (s0 + 1)) rep fl en (ii - 64 * s0) w bf) → oW D cA B0 ad d0 H → va_S (oA B0) s.heap H locs → lv_has ls 13 [(0, .ref (ad.1 16 0)), (1, .long y), (3, .int (nI s0)), (4, .int (nI 1)), (5, .int (nI fl)), (6, .int (nI en)), (7, .int (nI w)), (8, .long bf), (10, .int (nI ii))] → W p l e (oR 7 0 0) s m ([.ref (ad.1 16 0), .long y, .int (nI s0), .int (nI 1), .int (nI fl), .int (nI en)] : List Value).toArray below meth c H locs 0 0 (MQ below (oQi D cA B0 ad (fun r d1 => r = nI (max fl (min en (bhV S pp er dy nn 0 y s0))) ∧ d0 = d1)) ([.ref (ad.1 16 0), .long y, .int (nI s0), .int (nI 1), .int (nI fl), .int (nI en)] : List Value).toArray s 0 0 (oA B0)) (F0 m 13 ls []) := by
    intro n
    induction n with
    | zero => intro w bf ii  H locs ls hmu; exact absurd hmu (Nat.not_lt_zero _)
    | succ n ih_lp13 =>
      intro w bf ii  H locs ls hmu hi1 hi2 hw6 hWB hW hS hl
      refine lv_iload hx hb dX0_worstBehind_13 (lv_at hl 8 rfl) ?_
      refine lv_iload_n hx hb dX0_worstBehind_15 rfl (lv_at hl 2 rfl) ?_
      refine n_bipush (v := 64) hx hb dX0_worstBehind_16 (by decide) ?_
      refine n_imul hx hb dX0_worstBehind_18 ?_
      refine lv_aload_n hx hb dX0_worstBehind_19 rfl (lv_at hl 0 rfl) ?_
      refine x_gr hx hb hu in_X0 hown hK hW (hA.o (k := 16) rfl) (kX_16 _ _ _ _) rfl 2 (by decide) uF_X0_18 (hA.ah 2 (k := 19) (by decide)) dX0_worstBehind_20 ?_
      refine lv_iload_n hx hb dX0_worstBehind_23 rfl (lv_at hl 2 rfl) ?_
      refine x_il hx hb hK hW (hA.o (k := 19) rfl) (kX_19 _ _ _ _) (by decide) (by omega) dX0_worstBehind_24 ?_
      refine n_topi (y := nI cn) (h19) ?_
      refine n_iadd hx hb dX0_worstBehind_25 ?_
      refine n_icmp_ge (tgt := 113) hx hb (by omega) (by omega) dX0_worstBehind_26 (by decide) (fun c_i => ?_) (fun c_i => ?_)
      · have hfin := hWB.end (c := cn) (fun m hm hb => hcov m hm (hyx m hm hb)) (Or.inl (by omega))
        refine lv_iload hx hb dX0_worstBehind_113 (lv_at hl 6 rfl) ?_
        exact o_iret hx hb hr hlocks hW hS (⟨congrArg nI hfin, rfl⟩) dX0_worstBehind_115
      · refine lv_iload hx hb dX0_worstBehind_29 (lv_at hl 6 rfl) ?_
        refine lv_iload hx hb dX0_worstBehind_31 (lv_at hl 5 rfl) ?_
        refine n_icmp_ge (tgt := 113) hx hb (by omega) (by omega) dX0_worstBehind_33 (by decide) (fun c_e => ?_) (fun c_e => ?_)
        · have hfin := hWB.end (c := cn) (fun m hm hb => hcov m hm (hyx m hm hb)) (Or.inr (by omega))
          refine lv_iload hx hb dX0_worstBehind_113 (lv_at hl 6 rfl) ?_
          exact o_iret hx hb hr hlocks hW hS (⟨congrArg nI hfin, rfl⟩) dX0_worstBehind_115
        · refine lv_lload_n hx hb dX0_worstBehind_36 rfl (lv_at hl 1 rfl) ?_
          refine lv_aload_n hx hb dX0_worstBehind_37 rfl (lv_at hl 0 rfl) ?_
          refine x_gr hx hb hu in_X0 hown hK hW (hA.o (k := 16) rfl) (kX_16 _ _ _ _) rfl 0 (by decide) uF_X0_9 (hA.ah 0 (k := 17) (by decide)) dX0_worstBehind_38 ?_
          refine lv_iload hx hb dX0_worstBehind_41 (lv_at hl 8 rfl) ?_
          refine x_ll hx hb hK hW (hA.o (k := 17) rfl) (kX_17 _ _ _ _) (by decide) (by omega) dX0_worstBehind_43 ?_
          refine n_topl (y := sHB S pp x (dy s0) (sHole S pp (rep (ii - 64 * s0)) (dy s0))) (by have z := (hrep (ii - 64 * s0) (by omega)).2.2.1; rw [show 64 * s0 + (ii - 64 * s0) = ii by omega] at z; exact z) ?_
          refine lv_land hx hb dX0_worstBehind_44 ?_
          refine n_topl (y := sHB S pp y (dy s0) (sHole S pp (rep (ii - 64 * s0)) (dy s0))) (and_HB hyx) ?_
          refine lv_lconst (v := 0) hx hb dX0_worstBehind_45 (by decide) ?_
          refine W.lcmp hx hb dX0_worstBehind_46 ?_
          have j63 : ∀ (lf : Int64)  (H : Heap) (locs : List Loc) (ls : Array Slot), (lfE S pp er y (dy s0) (rep (ii - 64 * s0)) lf) → oW D cA B0 ad d0 H → va_S (oA B0) s.heap H locs → lv_has ls 13 [(0, .ref (ad.1 16 0)), (1, .long y), (3, .int (nI s0)), (4, .int (nI 1)), (5, .int (nI fl)), (6, .int (nI en)), (7, .int (nI w)), (8, .long bf), (10, .int (nI ii))] → W p l e (oR 7 0 0) s m ([.ref (ad.1 16 0), .long y, .int (nI s0), .int (nI 1), .int (nI fl), .int (nI en)] : List Value).toArray below meth c H locs 0 0 (MQ below (oQi D cA B0 ad (fun r d1 => r = nI (max fl (min en (bhV S pp er dy nn 0 y s0))) ∧ d0 = d1)) ([.ref (ad.1 16 0), .long y, .int (nI s0), .int (nI 1), .int (nI fl), .int (nI en)] : List Value).toArray s 0 0 (oA B0)) (F0 m 63 ls [.long lf]) := by
            intro lf  H locs ls hlf hW hS hl
            refine lv_lstore (lv' := [(11, .long lf), (0, .ref (ad.1 16 0)), (1, .long y), (3, .int (nI s0)), (4, .int (nI 1)), (5, .int (nI fl)), (6, .int (nI en)), (7, .int (nI w)), (8, .long bf), (10, .int (nI ii))]) hx hb dX0_worstBehind_63 hl (by decide) rfl (fun ls hl => ?_)
            refine lv_lload hx hb dX0_worstBehind_65 (lv_at hl 0 rfl) ?_
            refine lv_lload hx hb dX0_worstBehind_67 (lv_at hl 8 rfl) ?_
            refine lv_ldc2 (v := (-1)) hx hb hown (hu _ uK_X0_48) dX0_worstBehind_69 ?_
            refine lv_lxor hx hb dX0_worstBehind_72 ?_
            refine lv_land hx hb dX0_worstBehind_73 ?_
            refine lv_lconst (v := 0) hx hb dX0_worstBehind_74 (by decide) ?_
            refine W.lcmp hx hb dX0_worstBehind_75 ?_
            refine lv_if_eq (tgt := 107) hx hb dX0_worstBehind_76 (by decide) (fun c_b => ?_) (fun c_b => ?_)
            · have hWB2 := hWB.skip (fun h => plV_mono S pp er dy nn 0 (s0 + 1) h) hlf (lg0 c_b)
              refine n_iinc (q := 1) (lv' := [(10, .int (nI (ii + 1))), (11, .long lf), (0, .ref (ad.1 16 0)), (1, .long y), (3, .int (nI s0)), (4, .int (nI 1)), (5, .int (nI fl)), (6, .int (nI en)), (7, .int (nI w)), (8, .long bf)]) hx hb dX0_worstBehind_107 hl (k := 9) rfl (by decide) (by decide) rfl (fun ls hl => ?_)
              refine lv_goto (tgt := 13) hx hb dX0_worstBehind_110 (by decide) ?_
              exact ih_lp13 w bf (ii + 1) _ _ ls (by omega) (by omega) (by omega) (by omega) (by rw [show ii + 1 - 64 * s0 = (ii - 64 * s0) + 1 by omega]; exact hWB2) hW hS (lv_sub hl [2, 3, 4, 5, 6, 7, 8, 9, 0] rfl)
            · have hlx : ∀ m, m < 64 → hasB lf m = true → hasB x m = true := lf_sub hlf hyx
              have hl0 := and_nz (lg0n c_b)
              refine lv_iload hx hb dX0_worstBehind_79 (lv_at hl 7 rfl) ?_
              refine lv_aload_n hx hb dX0_worstBehind_81 rfl (lv_at hl 1 rfl) ?_
              refine lv_lload hx hb dX0_worstBehind_82 (lv_at hl 0 rfl) ?_
              refine lv_iload_n hx hb dX0_worstBehind_84 rfl (lv_at hl 3 rfl) ?_
              refine n_iconst (v := 1) hx hb dX0_worstBehind_85 (by decide) ?_
              refine n_iadd hx hb dX0_worstBehind_86 ?_
              refine lv_iload hx hb dX0_worstBehind_87 (lv_at hl 4 rfl) ?_
              refine n_iconst (v := 1) hx hb dX0_worstBehind_89 (by decide) ?_
              refine n_isub hx hb (by omega) dX0_worstBehind_90 ?_
              refine n_top (b := 0) (rfl) ?_
              refine lv_iload hx hb dX0_worstBehind_91 (lv_at hl 7 rfl) ?_
              refine lv_iload hx hb dX0_worstBehind_93 (lv_at hl 6 rfl) ?_
              refine o_calli (o_runV (As := [.long lf, .int (nI (s0 + 1)), .int (nI 0), .int (nI w), .int (nI en)]) (rest := [.int (nI w)]) ⟨hx, hb, hml, hown, hu⟩ (c_X0_leastWorst_0 l D cA B0 ad hal S d0 hX pp er nn dy x hp hn6 hAL lf hlx (s0 + 1) w en (by omega) (by omega) (by omega)) (gV_X0_91 (fun _ h => h)) (n0 := 5) rfl (by decide +kernel) rfl ⟨Nat.le_of_ble_eq_true rfl, Nat.le_of_ble_eq_true rfl⟩ (o_recv hK hW (hA.o (k := 16) rfl) (kX_16 _ _ _ _) rfl) hK hW hB hS hl.1 rfl (lv_room (Nat.le_of_ble_eq_true rfl)) ⟨Nat.zero_le _, Nat.zero_le _⟩ dX0_worstBehind_95) hS (fun r_2 d_1 q_3 H locs hW hS => ?_)
              obtain ⟨r_2v, rfl, r_2a, r_2b, rfl⟩ := q_3
              have hWB2 := hWB.look hlf hl0 r_2b
              refine va_mmax hx hb (hml.trans hl.1.symm) hown (hu _ uM_X0_45) (hu _ uT_J9_max_7cf53) (hu _ uI_J9) (hu _ uC_J9_max_7cf53) (Nat.le_of_ble_eq_true rfl) (Nat.le_of_ble_eq_true rfl) (Nat.le_of_ble_eq_true rfl) (Nat.le_of_ble_eq_true rfl) dX0_worstBehind_98 ?_
              refine n_topi (y := nI (max w r_2v)) (n_max (by omega) (by omega)) ?_
              refine lv_istore (lv' := [(7, .int (nI (max w r_2v))), (11, .long lf), (0, .ref (ad.1 16 0)), (1, .long y), (3, .int (nI s0)), (4, .int (nI 1)), (5, .int (nI fl)), (6, .int (nI en)), (8, .long bf), (10, .int (nI ii))]) hx hb dX0_worstBehind_101 hl (by decide) rfl (fun ls hl => ?_)
              refine lv_lload hx hb dX0_worstBehind_103 (lv_at hl 1 rfl) ?_
              refine lv_lstore (lv' := [(8, .long lf), (7, .int (nI (max w r_2v))), (11, .long lf), (0, .ref (ad.1 16 0)), (1, .long y), (3, .int (nI s0)), (4, .int (nI 1)), (5, .int (nI fl)), (6, .int (nI en)), (10, .int (nI ii))]) hx hb dX0_worstBehind_105 hl (by decide) rfl (fun ls hl => ?_)
              refine n_iinc (q := 1) (lv' := [(10, .int (nI (ii + 1))), (8, .long lf), (7, .int (nI (max w r_2v))), (11, .long lf), (0, .ref (ad.1 16 0)), (1, .long y), (3, .int (nI s0)), (4, .int (nI 1)), (5, .int (nI fl)), (6, .int (nI en))]) hx hb dX0_worstBehind_107 hl (k := 9) rfl (by decide) (by decide) rfl (fun ls hl => ?_)
              refine lv_goto (tgt := 13) hx hb dX0_worstBehind_110 (by decide) ?_
              exact ih_lp13 (max w r_2v) lf (ii + 1) _ _ ls (by omega) (by omega) (by omega) (by omega) (by rw [show ii + 1 - 64 * s0 = (ii - 64 * s0) + 1 by omega]; exact hWB2) hW hS (lv_sub hl [4, 5, 6, 7, 8, 9, 2, 1, 0] rfl)
          refine lv_if_ne (tgt := 54) hx hb dX0_worstBehind_47 (by decide) (fun c_h => ?_) (fun c_h => ?_)
          · refine lv_lload_n hx hb dX0_worstBehind_54 rfl (lv_at hl 1 rfl) ?_
            refine lv_aload_n hx hb dX0_worstBehind_55 rfl (lv_at hl 0 rfl) ?_
            refine x_gr hx hb hu in_X0 hown hK hW (hA.o (k := 16) rfl) (kX_16 _ _ _ _) rfl 1 (by decide) uF_X0_15 (hA.ah 1 (k := 18) (by decide)) dX0_worstBehind_56 ?_
            refine lv_iload hx hb dX0_worstBehind_59 (lv_at hl 8 rfl) ?_
            refine x_ll hx hb hK hW (hA.o (k := 18) rfl) (kX_18 _ _ _ _) (by decide) (by omega) dX0_worstBehind_61 ?_
            refine n_topl (y := sLeft S pp x (dy s0) er (rep (ii - 64 * s0))) (by have z := (hrep (ii - 64 * s0) (by omega)).2.2.2; rw [show 64 * s0 + (ii - 64 * s0) = ii by omega] at z; exact z) ?_
            refine lv_land hx hb dX0_worstBehind_62 ?_
            refine n_topl (y := sLeft S pp y (dy s0) er (rep (ii - 64 * s0))) (and_left hyx) ?_
            exact j63 (sLeft S pp y (dy s0) er (rep (ii - 64 * s0))) _ _ ls (by first | exact Or.inl ⟨lg0 c_h, rfl⟩ | exact Or.inr ⟨lg0n c_h, rfl⟩) hW hS (lv_sub hl [0, 1, 2, 3, 4, 5, 6, 7, 8] rfl)
          · refine lv_lconst (v := 0) hx hb dX0_worstBehind_50 (by decide) ?_
            refine lv_goto (tgt := 63) hx hb dX0_worstBehind_51 (by decide) ?_
            exact j63 0 _ _ ls (by first | exact Or.inl ⟨lg0 c_h, rfl⟩ | exact Or.inr ⟨lg0n c_h, rfl⟩) hW hS (lv_sub hl [0, 1, 2, 3, 4, 5, 6, 7, 8] rfl)
  exact lp13 (65) fl 0 (s0 * 64) _ _ ls (by omega) (by omega) (by omega) (by omega) (by rw [show s0 * 64 - 64 * s0 = 0 by omega]; exact WB.start S pp er y (dy s0) _ rep fl en) hW hS (lv_sub hl [3, 4, 5, 6, 7, 8, 2, 1, 0] rfl)

set_option maxHeartbeats 400000 in
set_option maxRecDepth 100000 in
theorem c_X0_worstBehind_2u (l : Launch) (D : va_G) (cA : Nat → ClassId) (B0 : Nat) (ad : kA) (hal : mAl ad) (S : sS) (d0 : kD) (hX : XB cA ad S d0) (pp er nn : Nat) (dy : Nat → Nat) (x : Int64) (hp : pp < S 7 0) (hn6 : nn ≤ 6) (hAL : AL S pp er x dy nn d0) (y : Int64) (hyx : ∀ m, m < 64 → hasB y m = true → hasB x m = true) (s0 fl en : Nat) (hs0 : s0 < nn) (hfl : fl ≤ 64) (hen : en ≤ 65) : oM l yX0_worstBehind wX0_worstBehind 7 0 0 D cA B0 ad d0 ([.ref (ad.1 16 0), .long y, .int (nI s0), .int (nI 2), .int (nI fl), .int (nI en)] : List Value) (oQi D cA B0 ad (fun r d1 => r = nI (max fl (min en (bhV S pp er dy nn 1 y s0))) ∧ d0 = d1)) := by
  refine o_ofW (cc := cX0_worstBehind) (maxL := 13) (ret := some .int) (by decide) rfl (Nat.le_of_ble_eq_true rfl) ?_
  intro p e s m below meth c hx hb hr hml hts hown hlocks hnm hK hW hB hS ls hl
  have hu : ∀ w ∈ UW, w.before _ s = true := fun w h => hts w (uw_c w h)
  have hl : lv_has ls 13 [(0, .ref (ad.1 16 0)), (1, .long y), (3, .int (nI s0)), (4, .int (nI 2)), (5, .int (nI fl)), (6, .int (nI en))] := hl
  have hA := hX.1
  have hG := hX.2.2
  have hb7 : S 7 0 ≤ 8 := hG.f 7 (mx := 8) (by decide)
  have hb11 : S 11 0 ≤ 20 := hG.f 11 (mx := 20) (by decide)
  have hb18 : S 18 0 ≤ 40 := hG.f 18 (mx := 40) (by decide)
  obtain ⟨cn, hc6, h19, rep, hrep, hcov⟩ := hAL.2 s0 hs0
  refine lv_iload hx hb dX0_worstBehind_0 (lv_at hl 4 rfl) ?_
  refine lv_istore (lv' := [(7, .int (nI fl)), (0, .ref (ad.1 16 0)), (1, .long y), (3, .int (nI s0)), (4, .int (nI 2)), (5, .int (nI fl)), (6, .int (nI en))]) hx hb dX0_worstBehind_2 hl (by decide) rfl (fun ls hl => ?_)
  refine lv_lconst (v := 0) hx hb dX0_worstBehind_4 (by decide) ?_
  refine lv_lstore (lv' := [(8, .long 0), (7, .int (nI fl)), (0, .ref (ad.1 16 0)), (1, .long y), (3, .int (nI s0)), (4, .int (nI 2)), (5, .int (nI fl)), (6, .int (nI en))]) hx hb dX0_worstBehind_5 hl (by decide) rfl (fun ls hl => ?_)
  refine lv_iload_n hx hb dX0_worstBehind_7 rfl (lv_at hl 4 rfl) ?_
  refine n_bipush (v := 64) hx hb dX0_worstBehind_8 (by decide) ?_
  refine n_imul hx hb dX0_worstBehind_10 ?_
  refine lv_istore (lv' := [(10, .int (nI (s0 * 64))), (8, .long 0), (7, .int (nI fl)), (0, .ref (ad.1 16 0)), (1, .long y), (3, .int (nI s0)), (4, .int (nI 2)), (5, .int (nI fl)), (6, .int (nI en))]) hx hb dX0_worstBehind_11 hl (by decide) rfl (fun ls hl => ?_)
  have lp13 : ∀ (n : Nat) (w : Nat) (bf : Int64) (ii : Nat)  (H : Heap) (locs : List Loc) (ls : Array Slot), 64 * s0 + cn - ii < n → (64 * s0 ≤ ii) → (ii ≤ 64 * s0 + cn) → (w ≤ 65) → (WB S pp er y (dy s0) (fun z => plV S pp er dy nn 1 z (s0 + 1)) rep fl en (ii - 64 * s0) w bf) → oW D cA B0 ad d0 H → va_S (oA B0) s.heap H locs → lv_has ls 13 [(0, .ref (ad.1 16 0)), (1, .long y), (3, .int (nI s0)), (4, .int (nI 2)), (5, .int (nI fl)), (6, .int (nI en)), (7, .int (nI w)), (8, .long bf), (10, .int (nI ii))] → W p l e (oR 7 0 0) s m ([.ref (ad.1 16 0), .long y, .int (nI s0), .int (nI 2), .int (nI fl), .int (nI en)] : List Value).toArray below meth c H locs 0 0 (MQ below (oQi D cA B0 ad (fun r d1 => r = nI (max fl (min en (bhV S pp er dy nn 1 y s0))) ∧ d0 = d1)) ([.ref (ad.1 16 0), .long y, .int (nI s0), .int (nI 2), .int (nI fl), .int (nI en)] : List Value).toArray s 0 0 (oA B0)) (F0 m 13 ls []) := by
    intro n
    induction n with
    | zero => intro w bf ii  H locs ls hmu; exact absurd hmu (Nat.not_lt_zero _)
    | succ n ih_lp13 =>
      intro w bf ii  H locs ls hmu hi1 hi2 hw6 hWB hW hS hl
      refine lv_iload hx hb dX0_worstBehind_13 (lv_at hl 8 rfl) ?_
      refine lv_iload_n hx hb dX0_worstBehind_15 rfl (lv_at hl 2 rfl) ?_
      refine n_bipush (v := 64) hx hb dX0_worstBehind_16 (by decide) ?_
      refine n_imul hx hb dX0_worstBehind_18 ?_
      refine lv_aload_n hx hb dX0_worstBehind_19 rfl (lv_at hl 0 rfl) ?_
      refine x_gr hx hb hu in_X0 hown hK hW (hA.o (k := 16) rfl) (kX_16 _ _ _ _) rfl 2 (by decide) uF_X0_18 (hA.ah 2 (k := 19) (by decide)) dX0_worstBehind_20 ?_
      refine lv_iload_n hx hb dX0_worstBehind_23 rfl (lv_at hl 2 rfl) ?_
      refine x_il hx hb hK hW (hA.o (k := 19) rfl) (kX_19 _ _ _ _) (by decide) (by omega) dX0_worstBehind_24 ?_
      refine n_topi (y := nI cn) (h19) ?_
      refine n_iadd hx hb dX0_worstBehind_25 ?_
      refine n_icmp_ge (tgt := 113) hx hb (by omega) (by omega) dX0_worstBehind_26 (by decide) (fun c_i => ?_) (fun c_i => ?_)
      · have hfin := hWB.end (c := cn) (fun m hm hb => hcov m hm (hyx m hm hb)) (Or.inl (by omega))
        refine lv_iload hx hb dX0_worstBehind_113 (lv_at hl 6 rfl) ?_
        exact o_iret hx hb hr hlocks hW hS (⟨congrArg nI hfin, rfl⟩) dX0_worstBehind_115
      · refine lv_iload hx hb dX0_worstBehind_29 (lv_at hl 6 rfl) ?_
        refine lv_iload hx hb dX0_worstBehind_31 (lv_at hl 5 rfl) ?_
        refine n_icmp_ge (tgt := 113) hx hb (by omega) (by omega) dX0_worstBehind_33 (by decide) (fun c_e => ?_) (fun c_e => ?_)
        · have hfin := hWB.end (c := cn) (fun m hm hb => hcov m hm (hyx m hm hb)) (Or.inr (by omega))
          refine lv_iload hx hb dX0_worstBehind_113 (lv_at hl 6 rfl) ?_
          exact o_iret hx hb hr hlocks hW hS (⟨congrArg nI hfin, rfl⟩) dX0_worstBehind_115
        · refine lv_lload_n hx hb dX0_worstBehind_36 rfl (lv_at hl 1 rfl) ?_
          refine lv_aload_n hx hb dX0_worstBehind_37 rfl (lv_at hl 0 rfl) ?_
          refine x_gr hx hb hu in_X0 hown hK hW (hA.o (k := 16) rfl) (kX_16 _ _ _ _) rfl 0 (by decide) uF_X0_9 (hA.ah 0 (k := 17) (by decide)) dX0_worstBehind_38 ?_
          refine lv_iload hx hb dX0_worstBehind_41 (lv_at hl 8 rfl) ?_
          refine x_ll hx hb hK hW (hA.o (k := 17) rfl) (kX_17 _ _ _ _) (by decide) (by omega) dX0_worstBehind_43 ?_
          refine n_topl (y := sHB S pp x (dy s0) (sHole S pp (rep (ii - 64 * s0)) (dy s0))) (by have z := (hrep (ii - 64 * s0) (by omega)).2.2.1; rw [show 64 * s0 + (ii - 64 * s0) = ii by omega] at z; exact z) ?_
          refine lv_land hx hb dX0_worstBehind_44 ?_
          refine n_topl (y := sHB S pp y (dy s0) (sHole S pp (rep (ii - 64 * s0)) (dy s0))) (and_HB hyx) ?_
          refine lv_lconst (v := 0) hx hb dX0_worstBehind_45 (by decide) ?_
          refine W.lcmp hx hb dX0_worstBehind_46 ?_
          have j63 : ∀ (lf : Int64)  (H : Heap) (locs : List Loc) (ls : Array Slot), (lfE S pp er y (dy s0) (rep (ii - 64 * s0)) lf) → oW D cA B0 ad d0 H → va_S (oA B0) s.heap H locs → lv_has ls 13 [(0, .ref (ad.1 16 0)), (1, .long y), (3, .int (nI s0)), (4, .int (nI 2)), (5, .int (nI fl)), (6, .int (nI en)), (7, .int (nI w)), (8, .long bf), (10, .int (nI ii))] → W p l e (oR 7 0 0) s m ([.ref (ad.1 16 0), .long y, .int (nI s0), .int (nI 2), .int (nI fl), .int (nI en)] : List Value).toArray below meth c H locs 0 0 (MQ below (oQi D cA B0 ad (fun r d1 => r = nI (max fl (min en (bhV S pp er dy nn 1 y s0))) ∧ d0 = d1)) ([.ref (ad.1 16 0), .long y, .int (nI s0), .int (nI 2), .int (nI fl), .int (nI en)] : List Value).toArray s 0 0 (oA B0)) (F0 m 63 ls [.long lf]) := by
            intro lf  H locs ls hlf hW hS hl
            refine lv_lstore (lv' := [(11, .long lf), (0, .ref (ad.1 16 0)), (1, .long y), (3, .int (nI s0)), (4, .int (nI 2)), (5, .int (nI fl)), (6, .int (nI en)), (7, .int (nI w)), (8, .long bf), (10, .int (nI ii))]) hx hb dX0_worstBehind_63 hl (by decide) rfl (fun ls hl => ?_)
            refine lv_lload hx hb dX0_worstBehind_65 (lv_at hl 0 rfl) ?_
            refine lv_lload hx hb dX0_worstBehind_67 (lv_at hl 8 rfl) ?_
            refine lv_ldc2 (v := (-1)) hx hb hown (hu _ uK_X0_48) dX0_worstBehind_69 ?_
            refine lv_lxor hx hb dX0_worstBehind_72 ?_
            refine lv_land hx hb dX0_worstBehind_73 ?_
            refine lv_lconst (v := 0) hx hb dX0_worstBehind_74 (by decide) ?_
            refine W.lcmp hx hb dX0_worstBehind_75 ?_
            refine lv_if_eq (tgt := 107) hx hb dX0_worstBehind_76 (by decide) (fun c_b => ?_) (fun c_b => ?_)
            · have hWB2 := hWB.skip (fun h => plV_mono S pp er dy nn 1 (s0 + 1) h) hlf (lg0 c_b)
              refine n_iinc (q := 1) (lv' := [(10, .int (nI (ii + 1))), (11, .long lf), (0, .ref (ad.1 16 0)), (1, .long y), (3, .int (nI s0)), (4, .int (nI 2)), (5, .int (nI fl)), (6, .int (nI en)), (7, .int (nI w)), (8, .long bf)]) hx hb dX0_worstBehind_107 hl (k := 9) rfl (by decide) (by decide) rfl (fun ls hl => ?_)
              refine lv_goto (tgt := 13) hx hb dX0_worstBehind_110 (by decide) ?_
              exact ih_lp13 w bf (ii + 1) _ _ ls (by omega) (by omega) (by omega) (by omega) (by rw [show ii + 1 - 64 * s0 = (ii - 64 * s0) + 1 by omega]; exact hWB2) hW hS (lv_sub hl [2, 3, 4, 5, 6, 7, 8, 9, 0] rfl)
            · have hlx : ∀ m, m < 64 → hasB lf m = true → hasB x m = true := lf_sub hlf hyx
              have hl0 := and_nz (lg0n c_b)
              refine lv_iload hx hb dX0_worstBehind_79 (lv_at hl 7 rfl) ?_
              refine lv_aload_n hx hb dX0_worstBehind_81 rfl (lv_at hl 1 rfl) ?_
              refine lv_lload hx hb dX0_worstBehind_82 (lv_at hl 0 rfl) ?_
              refine lv_iload_n hx hb dX0_worstBehind_84 rfl (lv_at hl 3 rfl) ?_
              refine n_iconst (v := 1) hx hb dX0_worstBehind_85 (by decide) ?_
              refine n_iadd hx hb dX0_worstBehind_86 ?_
              refine lv_iload hx hb dX0_worstBehind_87 (lv_at hl 4 rfl) ?_
              refine n_iconst (v := 1) hx hb dX0_worstBehind_89 (by decide) ?_
              refine n_isub hx hb (by omega) dX0_worstBehind_90 ?_
              refine n_top (b := 1) (rfl) ?_
              refine lv_iload hx hb dX0_worstBehind_91 (lv_at hl 7 rfl) ?_
              refine lv_iload hx hb dX0_worstBehind_93 (lv_at hl 6 rfl) ?_
              refine o_calli (o_runV (As := [.long lf, .int (nI (s0 + 1)), .int (nI 1), .int (nI w), .int (nI en)]) (rest := [.int (nI w)]) ⟨hx, hb, hml, hown, hu⟩ (c_X0_leastWorst_1 l D cA B0 ad hal S d0 hX pp er nn dy x hp hn6 hAL lf hlx (s0 + 1) w en (by omega) (by omega) (by omega)) (gV_X0_91 (fun _ h => h)) (n0 := 5) rfl (by decide +kernel) rfl ⟨Nat.le_of_ble_eq_true rfl, Nat.le_of_ble_eq_true rfl⟩ (o_recv hK hW (hA.o (k := 16) rfl) (kX_16 _ _ _ _) rfl) hK hW hB hS hl.1 rfl (lv_room (Nat.le_of_ble_eq_true rfl)) ⟨Nat.zero_le _, Nat.zero_le _⟩ dX0_worstBehind_95) hS (fun r_2 d_1 q_3 H locs hW hS => ?_)
              obtain ⟨r_2v, rfl, r_2a, r_2b, rfl⟩ := q_3
              have hWB2 := hWB.look hlf hl0 r_2b
              refine va_mmax hx hb (hml.trans hl.1.symm) hown (hu _ uM_X0_45) (hu _ uT_J9_max_7cf53) (hu _ uI_J9) (hu _ uC_J9_max_7cf53) (Nat.le_of_ble_eq_true rfl) (Nat.le_of_ble_eq_true rfl) (Nat.le_of_ble_eq_true rfl) (Nat.le_of_ble_eq_true rfl) dX0_worstBehind_98 ?_
              refine n_topi (y := nI (max w r_2v)) (n_max (by omega) (by omega)) ?_
              refine lv_istore (lv' := [(7, .int (nI (max w r_2v))), (11, .long lf), (0, .ref (ad.1 16 0)), (1, .long y), (3, .int (nI s0)), (4, .int (nI 2)), (5, .int (nI fl)), (6, .int (nI en)), (8, .long bf), (10, .int (nI ii))]) hx hb dX0_worstBehind_101 hl (by decide) rfl (fun ls hl => ?_)
              refine lv_lload hx hb dX0_worstBehind_103 (lv_at hl 1 rfl) ?_
              refine lv_lstore (lv' := [(8, .long lf), (7, .int (nI (max w r_2v))), (11, .long lf), (0, .ref (ad.1 16 0)), (1, .long y), (3, .int (nI s0)), (4, .int (nI 2)), (5, .int (nI fl)), (6, .int (nI en)), (10, .int (nI ii))]) hx hb dX0_worstBehind_105 hl (by decide) rfl (fun ls hl => ?_)
              refine n_iinc (q := 1) (lv' := [(10, .int (nI (ii + 1))), (8, .long lf), (7, .int (nI (max w r_2v))), (11, .long lf), (0, .ref (ad.1 16 0)), (1, .long y), (3, .int (nI s0)), (4, .int (nI 2)), (5, .int (nI fl)), (6, .int (nI en))]) hx hb dX0_worstBehind_107 hl (k := 9) rfl (by decide) (by decide) rfl (fun ls hl => ?_)
              refine lv_goto (tgt := 13) hx hb dX0_worstBehind_110 (by decide) ?_
              exact ih_lp13 (max w r_2v) lf (ii + 1) _ _ ls (by omega) (by omega) (by omega) (by omega) (by rw [show ii + 1 - 64 * s0 = (ii - 64 * s0) + 1 by omega]; exact hWB2) hW hS (lv_sub hl [4, 5, 6, 7, 8, 9, 2, 1, 0] rfl)
          refine lv_if_ne (tgt := 54) hx hb dX0_worstBehind_47 (by decide) (fun c_h => ?_) (fun c_h => ?_)
          · refine lv_lload_n hx hb dX0_worstBehind_54 rfl (lv_at hl 1 rfl) ?_
            refine lv_aload_n hx hb dX0_worstBehind_55 rfl (lv_at hl 0 rfl) ?_
            refine x_gr hx hb hu in_X0 hown hK hW (hA.o (k := 16) rfl) (kX_16 _ _ _ _) rfl 1 (by decide) uF_X0_15 (hA.ah 1 (k := 18) (by decide)) dX0_worstBehind_56 ?_
            refine lv_iload hx hb dX0_worstBehind_59 (lv_at hl 8 rfl) ?_
            refine x_ll hx hb hK hW (hA.o (k := 18) rfl) (kX_18 _ _ _ _) (by decide) (by omega) dX0_worstBehind_61 ?_
            refine n_topl (y := sLeft S pp x (dy s0) er (rep (ii - 64 * s0))) (by have z := (hrep (ii - 64 * s0) (by omega)).2.2.2; rw [show 64 * s0 + (ii - 64 * s0) = ii by omega] at z; exact z) ?_
            refine lv_land hx hb dX0_worstBehind_62 ?_
            refine n_topl (y := sLeft S pp y (dy s0) er (rep (ii - 64 * s0))) (and_left hyx) ?_
            exact j63 (sLeft S pp y (dy s0) er (rep (ii - 64 * s0))) _ _ ls (by first | exact Or.inl ⟨lg0 c_h, rfl⟩ | exact Or.inr ⟨lg0n c_h, rfl⟩) hW hS (lv_sub hl [0, 1, 2, 3, 4, 5, 6, 7, 8] rfl)
          · refine lv_lconst (v := 0) hx hb dX0_worstBehind_50 (by decide) ?_
            refine lv_goto (tgt := 63) hx hb dX0_worstBehind_51 (by decide) ?_
            exact j63 0 _ _ ls (by first | exact Or.inl ⟨lg0 c_h, rfl⟩ | exact Or.inr ⟨lg0n c_h, rfl⟩) hW hS (lv_sub hl [0, 1, 2, 3, 4, 5, 6, 7, 8] rfl)
  exact lp13 (65) fl 0 (s0 * 64) _ _ ls (by omega) (by omega) (by omega) (by omega) (by rw [show s0 * 64 - 64 * s0 = 0 by omega]; exact WB.start S pp er y (dy s0) _ rep fl en) hW hS (lv_sub hl [3, 4, 5, 6, 7, 8, 2, 1, 0] rfl)

theorem c_X0_worstBehind_u (l : Launch) (D : va_G) (cA : Nat → ClassId) (B0 : Nat) (ad : kA) (hal : mAl ad) (S : sS) (d0 : kD) (hX : XB cA ad S d0) (pp er nn : Nat) (dy : Nat → Nat) (x : Int64) (hp : pp < S 7 0) (hn6 : nn ≤ 6) (hAL : AL S pp er x dy nn d0) (y : Int64) (hyx : ∀ m, m < 64 → hasB y m = true → hasB x m = true) (s0 k0 fl en : Nat) (hs0 : s0 < nn) (hk1 : 1 ≤ k0) (hk3 : k0 ≤ 3) (hfl : fl ≤ 64) (hen : en ≤ 65) : oM l yX0_worstBehind wX0_worstBehind 7 0 0 D cA B0 ad d0 [.ref (ad.1 16 0), .long y, .int (nI s0), .int (nI k0), .int (nI fl), .int (nI en)] (oQi D cA B0 ad (fun r d1 => r = nI (max fl (min en (bhV S pp er dy nn (k0 - 1) y s0))) ∧ d0 = d1)) := by
  rcases (show k0 = 1 ∨ k0 = 2 ∨ k0 = 3 by omega) with rfl | rfl | rfl
  · exact c_X0_worstBehind_1u l D cA B0 ad hal S d0 hX pp er nn dy x hp hn6 hAL y hyx s0 fl en hs0 hfl hen
  · exact c_X0_worstBehind_2u l D cA B0 ad hal S d0 hX pp er nn dy x hp hn6 hAL y hyx s0 fl en hs0 hfl hen
  · exact c_X0_worstBehind_3 l D cA B0 ad hal S d0 hX pp er nn dy x hp hn6 hAL y hyx s0 fl en hs0 hfl hen
