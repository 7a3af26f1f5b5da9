set_option maxHeartbeats 400000 in
set_option maxRecDepth 100000 in
theorem c_X10_least_0 (l : Launch) (D : va_G) (cA : Nat → ClassId) (B0 : Nat) (ad : kA) (hal : mAl ad) (S : sS) (d0 : kD) (hM : InvM S d0) (pp er nn : Nat) (dy : Nat → Nat) (hPD : PD d0 pp er dy nn) (hp : pp < S 7 0) (her : er ≤ 50) (hn6 : nn ≤ 6) (hdy : ∀ i, i < nn → dy i < 400) (x : Int64) (i0 c0 : Nat) (hi0 : i0 ≤ nn) (hc0 : c0 ≤ 64) : oM l yX10_least wX10_least 6 0 0 D cA B0 ad d0 ([.ref (ad.1 40 0), .long x, .int (nI i0), .int (nI 0), .int (nI c0)] : List Value) (oQi D cA B0 ad (fun r d1 => ∃ v, r = nI v ∧ v ≤ 64 ∧ min v c0 = min (plV S pp er dy nn 0 x i0) c0 ∧ MI S d0 d1)) := by
  refine o_ofW (cc := cX10_least) (maxL := 9) (ret := some .int) (by decide) rfl (Nat.le_of_ble_eq_true rfl) ?_
  intro p e s m below meth c hx hb hr hml hts hown hlocks hnm hK hW hB hS ls hl
  have hu : ∀ w ∈ UW, w.before _ s = true := fun w h => hts w (uw_c w h)
  have hl : lv_has ls 9 [(0, .ref (ad.1 40 0)), (1, .long x), (3, .int (nI i0)), (4, .int (nI 0)), (5, .int (nI c0))] := hl
  have hI : MI S d0 d0 := MI.start hM
  have hG : sG S := hM.2.1
  have hb7 : S 7 0 ≤ 8 := hG.f 7 (mx := 8) (by decide)
  have hb18 : S 18 0 ≤ 40 := hG.f 18 (mx := 40) (by decide)
  refine lv_lload_n hx hb dX10_least_0 rfl (lv_at hl 1 rfl) ?_
  refine o_calli (o_runS (As := [.long x]) (rest := []) ⟨hx, hb, hml, hown, hu⟩ (c_X10_many l D cA B0 ad hal d0 x) (gS_X10_217 (fun _ h => h)) (n0 := 1) rfl (by decide +kernel) rfl ⟨Nat.le_of_ble_eq_true rfl, Nat.le_of_ble_eq_true rfl⟩ hK hW hB hS hl.1 rfl (lv_room (Nat.le_of_ble_eq_true rfl)) ⟨Nat.zero_le _, Nat.zero_le _⟩ dX10_least_1) hS (fun r_2 d_1 q_3 H locs hW hS => ?_)
  obtain ⟨rfl, rfl⟩ := q_3
  have b_4 := popN_le x
  refine lv_istore (lv' := [(6, .int (nI (popN x))), (0, .ref (ad.1 40 0)), (1, .long x), (3, .int (nI i0)), (4, .int (nI 0)), (5, .int (nI c0))]) hx hb dX10_least_4 hl (by decide) rfl (fun ls hl => ?_)
  refine lv_iload hx hb dX10_least_6 (lv_at hl 0 rfl) ?_
  refine n_iconst (v := 1) hx hb dX10_least_8 (by decide) ?_
  refine n_icmp_le (tgt := 17) hx hb (by omega) (by omega) dX10_least_9 (by decide) (fun c_1 => ?_) (fun c_1 => ?_)
  · refine lv_iload hx hb dX10_least_17 (lv_at hl 0 rfl) ?_
    exact o_iret hx hb hr hlocks hW hS (⟨popN x, rfl, by omega, by first | rfl | rw [plV_few (by omega)], hI⟩) dX10_least_19
  · refine lv_iload hx hb dX10_least_12 (lv_at hl 4 rfl) ?_
    refine n_if_ne (tgt := 20) hx hb (by omega) dX10_least_14 (by decide) (fun c_k => ?_) (fun c_k => ?_)
    · exfalso; omega
    · refine lv_iload hx hb dX10_least_17 (lv_at hl 0 rfl) ?_
      exact o_iret hx hb hr hlocks hW hS (⟨popN x, rfl, by omega, by first | rfl | rw [plV_few (by omega)], hI⟩) dX10_least_19

set_option maxHeartbeats 400000 in
set_option maxRecDepth 100000 in
theorem c_X10_behind_1 (l : Launch) (D : va_G) (cA : Nat → ClassId) (B0 : Nat) (ad : kA) (hal : mAl ad) (S : sS) (d0 : kD) (hM : InvM S d0) (pp er nn : Nat) (dy : Nat → Nat) (hPD : PD d0 pp er dy nn) (hp : pp < S 7 0) (her : er ≤ 50) (hn6 : nn ≤ 6) (hdy : ∀ i, i < nn → dy i < 400) (x : Int64) (i0 c0 : Nat) (hi0 : i0 < nn) (hc0 : c0 ≤ 64) : oM l yX10_behind wX10_behind 7 0 0 D cA B0 ad d0 ([.ref (ad.1 40 0), .long x, .int (nI i0), .int (nI 1), .int (nI c0)] : List Value) (oQi D cA B0 ad (fun r d1 => ∃ v, r = nI v ∧ v ≤ 64 ∧ min v c0 = min (bhV S pp er dy nn 0 x i0) c0 ∧ MI S d0 d1)) := by
  refine o_ofW (cc := cX10_behind) (maxL := 12) (ret := some .int) (by decide) rfl (Nat.le_of_ble_eq_true rfl) ?_
  intro p e s m below meth c hx hb hr hml hts hown hlocks hnm hK hW hB hS ls hl
  have hu : ∀ w ∈ UW, w.before _ s = true := fun w h => hts w (uw_c w h)
  have hl : lv_has ls 12 [(0, .ref (ad.1 40 0)), (1, .long x), (3, .int (nI i0)), (4, .int (nI 1)), (5, .int (nI c0))] := hl
  have hI : MI S d0 d0 := MI.start hM
  have hG : sG S := hM.2.1
  have hb7 : S 7 0 ≤ 8 := hG.f 7 (mx := 8) (by decide)
  have hb18 : S 18 0 ≤ 40 := hG.f 18 (mx := 40) (by decide)
  have hdi := hdy i0 hi0
  have hpx := popN_le x
  refine n_iconst (v := 0) hx hb dX10_behind_0 (by decide) ?_
  refine lv_istore (lv' := [(6, .int (nI 0)), (0, .ref (ad.1 40 0)), (1, .long x), (3, .int (nI i0)), (4, .int (nI 1)), (5, .int (nI c0))]) hx hb dX10_behind_1 hl (by decide) rfl (fun ls hl => ?_)
  refine lv_lload_n hx hb dX10_behind_3 rfl (lv_at hl 2 rfl) ?_
  refine lv_lstore (lv' := [(7, .long x), (6, .int (nI 0)), (0, .ref (ad.1 40 0)), (1, .long x), (3, .int (nI i0)), (4, .int (nI 1)), (5, .int (nI c0))]) hx hb dX10_behind_4 hl (by decide) rfl (fun ls hl => ?_)
  have lp6 : ∀ (n : Nat) (w : Nat) (o : Int64)  (d : kD) (H : Heap) (locs : List Loc) (ls : Array Slot), popN o < n → (w ≤ 64) → (MI S d0 d) → (PD d pp er dy nn) → (OP S pp er x (dy i0) (fun y => plV S pp er dy nn 0 y (i0 + 1)) c0 w o) → oW D cA B0 ad d H → va_S (oA B0) s.heap H locs → lv_has ls 12 [(0, .ref (ad.1 40 0)), (1, .long x), (3, .int (nI i0)), (4, .int (nI 1)), (5, .int (nI c0)), (6, .int (nI w)), (7, .long o)] → W p l e (oR 7 0 0) s m ([.ref (ad.1 40 0), .long x, .int (nI i0), .int (nI 1), .int (nI c0)] : List Value).toArray below meth c H locs 0 0 (MQ below (oQi D cA B0 ad (fun r d1 => ∃ v, r = nI v ∧ v ≤ 64 ∧ min v c0 = min (bhV S pp er dy nn 0 x i0) c0 ∧ MI S d0 d1)) ([.ref (ad.1 40 0), .long x, .int (nI i0), .int (nI 1), .int (nI c0)] : List Value).toArray s 0 0 (oA B0)) (F0 m 6 ls []) := by
    intro n
    induction n with
    | zero => intro w o  d H locs ls hmu; exact absurd hmu (Nat.not_lt_zero _)
    | succ n ih_lp6 =>
      intro w o  d H locs ls hmu hw64 hI hPD hOP hW hS hl
      refine lv_lload hx hb dX10_behind_6 (lv_at hl 6 rfl) ?_
      refine lv_lconst (v := 0) hx hb dX10_behind_8 (by decide) ?_
      refine W.lcmp hx hb dX10_behind_9 ?_
      refine lv_if_eq (tgt := 113) hx hb dX10_behind_10 (by decide) (fun c_o => ?_) (fun c_o => ?_)
      · have ho0 := lg0 c_o
        have hfin := hOP.end (Or.inl ho0)
        refine lv_iload hx hb dX10_behind_113 (lv_at hl 5 rfl) ?_
        exact o_iret hx hb hr hlocks hW hS (⟨w, rfl, by omega, hfin, hI⟩) dX10_behind_115
      · have ho0 := lg0n c_o
        obtain ⟨a1, a2, a3⟩ := ntN_ok ho0
        have hlt := but_lt (S := S) (p := pp) (day := dy i0) ho0
        refine lv_iload hx hb dX10_behind_13 (lv_at hl 5 rfl) ?_
        refine lv_iload hx hb dX10_behind_15 (lv_at hl 4 rfl) ?_
        refine n_icmp_ge (tgt := 113) hx hb (by omega) (by omega) dX10_behind_17 (by decide) (fun c_w => ?_) (fun c_w => ?_)
        · have hfin := hOP.end (Or.inr (by omega))
          refine lv_iload hx hb dX10_behind_113 (lv_at hl 5 rfl) ?_
          exact o_iret hx hb hr hlocks hW hS (⟨w, rfl, by omega, hfin, hI⟩) dX10_behind_115
        · refine lv_lload hx hb dX10_behind_20 (lv_at hl 6 rfl) ?_
          refine o_calli (o_runS (As := [.long o]) (rest := []) ⟨hx, hb, hml, hown, hu⟩ (c_J13_numberOfTrailingZeros_95d88 l D cA B0 ad hal d o ho0) (gS_X10_230 (fun _ h => h)) (n0 := 1) rfl (by decide +kernel) rfl ⟨Nat.le_of_ble_eq_true rfl, Nat.le_of_ble_eq_true rfl⟩ hK hW hB hS hl.1 rfl (lv_room (Nat.le_of_ble_eq_true rfl)) ⟨Nat.zero_le _, Nat.zero_le _⟩ dX10_behind_22) hS (fun r_2 d_1 q_3 H locs hW hS => ?_)
          obtain ⟨rfl, rfl⟩ := q_3
          refine lv_istore (lv' := [(9, .int (nI (ntN o))), (0, .ref (ad.1 40 0)), (1, .long x), (3, .int (nI i0)), (4, .int (nI 1)), (5, .int (nI c0)), (6, .int (nI w)), (7, .long o)]) hx hb dX10_behind_25 hl (by decide) rfl (fun ls hl => ?_)
          refine lv_aload_n hx hb dX10_behind_27 rfl (lv_at hl 1 rfl) ?_
          refine lv_aload_n hx hb dX10_behind_28 rfl (lv_at hl 1 rfl) ?_
          refine mo_gr hx hb hu hown hK hal hW 42 (by decide) uF_X10_244 dX10_behind_29 ?_
          refine n_topi (y := nI pp) (hPD.1) ?_
          refine lv_lload_n hx hb dX10_behind_32 rfl (lv_at hl 2 rfl) ?_
          refine lv_aload_n hx hb dX10_behind_33 rfl (lv_at hl 1 rfl) ?_
          refine mo_ga hx hb hu hown hK hal hW 39 (by decide) uF_X10_104 dX10_behind_34 ?_
          refine lv_iload_n hx hb dX10_behind_37 rfl (lv_at hl 3 rfl) ?_
          refine mo_lr hx hb hK hal hW 39 (n := 6) (by decide) (by omega) dX10_behind_38 ?_
          refine n_topi (y := nI (dy i0)) (hPD.2.2.2 i0 hi0) ?_
          refine lv_aload_n hx hb dX10_behind_39 rfl (lv_at hl 1 rfl) ?_
          refine mo_gr hx hb hu hown hK hal hW 41 (by decide) uF_X10_247 dX10_behind_40 ?_
          refine n_topi (y := nI er) (hPD.2.1) ?_
          refine lv_iload hx hb dX10_behind_43 (lv_at hl 0 rfl) ?_
          refine o_calll (o_runV (As := [.int (nI pp), .long x, .int (nI (dy i0)), .int (nI er), .int (nI (ntN o))]) (rest := []) ⟨hx, hb, hml, hown, hu⟩ (c_X10_left l D cA B0 ad hal S d hI.1 pp x (dy i0) er (ntN o) (by omega) (by omega) (by omega) (by omega)) (gV_X10_233 (fun _ h => h)) (n0 := 5) rfl (by decide +kernel) rfl ⟨Nat.le_of_ble_eq_true rfl, Nat.le_of_ble_eq_true rfl⟩ (o_recv hK hW hal.1 (kC_M _ _ _) rfl) hK hW hB hS hl.1 rfl (lv_room (Nat.le_of_ble_eq_true rfl)) ⟨Nat.zero_le _, Nat.zero_le _⟩ dX10_behind_45) hS (fun r_5 d_4 q_6 H locs hW hS => ?_)
          obtain ⟨rfl, hq⟩ := q_6
          have hI := hI.trans hq
          have hPD := hPD.mi hq
          refine lv_lstore (lv' := [(10, .long (sLeft S pp x (dy i0) er (ntN o))), (9, .int (nI (ntN o))), (0, .ref (ad.1 40 0)), (1, .long x), (3, .int (nI i0)), (4, .int (nI 1)), (5, .int (nI c0)), (6, .int (nI w)), (7, .long o)]) hx hb dX10_behind_48 hl (by decide) rfl (fun ls hl => ?_)
          refine lv_lload hx hb dX10_behind_50 (lv_at hl 8 rfl) ?_
          refine lv_aload_n hx hb dX10_behind_52 rfl (lv_at hl 2 rfl) ?_
          refine lv_aload_n hx hb dX10_behind_53 rfl (lv_at hl 2 rfl) ?_
          refine mo_gr hx hb hu hown hK hal hW 42 (by decide) uF_X10_244 dX10_behind_54 ?_
          refine n_topi (y := nI pp) (hPD.1) ?_
          refine lv_lload hx hb dX10_behind_57 (lv_at hl 8 rfl) ?_
          refine lv_aload_n hx hb dX10_behind_59 rfl (lv_at hl 2 rfl) ?_
          refine mo_ga hx hb hu hown hK hal hW 39 (by decide) uF_X10_104 dX10_behind_60 ?_
          refine lv_iload_n hx hb dX10_behind_63 rfl (lv_at hl 4 rfl) ?_
          refine mo_lr hx hb hK hal hW 39 (n := 6) (by decide) (by omega) dX10_behind_64 ?_
          refine n_topi (y := nI (dy i0)) (hPD.2.2.2 i0 hi0) ?_
          refine n_iconst (v := 0) hx hb dX10_behind_65 (by decide) ?_
          refine lv_iload hx hb dX10_behind_66 (lv_at hl 1 rfl) ?_
          refine o_calll (o_runV (As := [.int (nI pp), .long o, .int (nI (dy i0)), .int (nI 0), .int (nI (ntN o))]) (rest := [.long o]) ⟨hx, hb, hml, hown, hu⟩ (c_X10_left l D cA B0 ad hal S d_4 hI.1 pp o (dy i0) 0 (ntN o) (by omega) (by omega) (by omega) (by omega)) (gV_X10_233 (fun _ h => h)) (n0 := 5) rfl (by decide +kernel) rfl ⟨Nat.le_of_ble_eq_true rfl, Nat.le_of_ble_eq_true rfl⟩ (o_recv hK hW hal.1 (kC_M _ _ _) rfl) hK hW hB hS hl.1 rfl (lv_room (Nat.le_of_ble_eq_true rfl)) ⟨Nat.zero_le _, Nat.zero_le _⟩ dX10_behind_68) hS (fun r_8 d_7 q_9 H locs hW hS => ?_)
          obtain ⟨rfl, hq⟩ := q_9
          have hI := hI.trans hq
          have hPD := hPD.mi hq
          refine lv_ldc2 (v := (-1)) hx hb hown (hu _ uK_X10_183) dX10_behind_71 ?_
          refine lv_lxor hx hb dX10_behind_74 ?_
          refine lv_land hx hb dX10_behind_75 ?_
          refine lv_lstore (lv' := [(7, .long (o &&& ((sLeft S pp o (dy i0) 0 (ntN o)) ^^^ (-1)))), (10, .long (sLeft S pp x (dy i0) er (ntN o))), (9, .int (nI (ntN o))), (0, .ref (ad.1 40 0)), (1, .long x), (3, .int (nI i0)), (4, .int (nI 1)), (5, .int (nI c0)), (6, .int (nI w))]) hx hb dX10_behind_76 hl (by decide) rfl (fun ls hl => ?_)
          refine lv_lload hx hb dX10_behind_78 (lv_at hl 1 rfl) ?_
          refine o_calli (o_runS (As := [.long (sLeft S pp x (dy i0) er (ntN o))]) (rest := []) ⟨hx, hb, hml, hown, hu⟩ (c_X10_many l D cA B0 ad hal d_7 (sLeft S pp x (dy i0) er (ntN o))) (gS_X10_217 (fun _ h => h)) (n0 := 1) rfl (by decide +kernel) rfl ⟨Nat.le_of_ble_eq_true rfl, Nat.le_of_ble_eq_true rfl⟩ hK hW hB hS hl.1 rfl (lv_room (Nat.le_of_ble_eq_true rfl)) ⟨Nat.zero_le _, Nat.zero_le _⟩ dX10_behind_80) hS (fun r_11 d_10 q_12 H locs hW hS => ?_)
          obtain ⟨rfl, rfl⟩ := q_12
          have b_13 := popN_le (sLeft S pp x (dy i0) er (ntN o))
          refine lv_iload hx hb dX10_behind_83 (lv_at hl 8 rfl) ?_
          refine n_icmp_le (tgt := 110) hx hb (by omega) (by omega) dX10_behind_85 (by decide) (fun c_m => ?_) (fun c_m => ?_)
          · have hpl : (plV S pp er dy nn 0 (sLeft S pp x (dy i0) er (ntN o)) (i0 + 1)) ≤ popN (sLeft S pp x (dy i0) er (ntN o)) := plV_le S pp er dy nn 0 _ _
            have hOP2 := hOP.next a1 a2 (Nat.le_refl w) (Or.inl (by omega)) (Or.inl (Nat.le_refl w))
            refine lv_goto (tgt := 6) hx hb dX10_behind_110 (by decide) ?_
            exact ih_lp6 w (o &&& ((sLeft S pp o (dy i0) 0 (ntN o)) ^^^ (-1))) d_7 _ _ ls (by omega) (by omega) hI hPD hOP2 hW hS (lv_sub hl [3, 4, 5, 6, 7, 8, 0] rfl)
          · refine lv_iload hx hb dX10_behind_88 (lv_at hl 8 rfl) ?_
            refine lv_aload_n hx hb dX10_behind_90 rfl (lv_at hl 3 rfl) ?_
            refine lv_lload hx hb dX10_behind_91 (lv_at hl 1 rfl) ?_
            refine lv_iload_n hx hb dX10_behind_93 rfl (lv_at hl 5 rfl) ?_
            refine n_iconst (v := 1) hx hb dX10_behind_94 (by decide) ?_
            refine n_iadd hx hb dX10_behind_95 ?_
            refine lv_iload hx hb dX10_behind_96 (lv_at hl 6 rfl) ?_
            refine n_iconst (v := 1) hx hb dX10_behind_98 (by decide) ?_
            refine n_isub hx hb (by omega) dX10_behind_99 ?_
            refine n_top (b := 0) (rfl) ?_
            refine lv_iload hx hb dX10_behind_100 (lv_at hl 7 rfl) ?_
            refine o_calli (o_runV (As := [.long (sLeft S pp x (dy i0) er (ntN o)), .int (nI (i0 + 1)), .int (nI 0), .int (nI c0)]) (rest := [.int (nI w)]) ⟨hx, hb, hml, hown, hu⟩ (c_X10_least_0 l D cA B0 ad hal S d_7 hI.1 pp er nn dy hPD hp her hn6 hdy (sLeft S pp x (dy i0) er (ntN o)) (i0 + 1) c0 (show i0 + 1 ≤ nn by omega) (by omega)) (gV_X10_257 (fun _ h => h)) (n0 := 4) rfl (by decide +kernel) rfl ⟨Nat.le_of_ble_eq_true rfl, Nat.le_of_ble_eq_true rfl⟩ (o_recv hK hW hal.1 (kC_M _ _ _) rfl) hK hW hB hS hl.1 rfl (lv_room (Nat.le_of_ble_eq_true rfl)) ⟨Nat.zero_le _, Nat.zero_le _⟩ dX10_behind_102) hS (fun r_15 d_14 q_16 H locs hW hS => ?_)
            obtain ⟨r_15v, rfl, r_15a, r_15b, hq⟩ := q_16
            have hI := hI.trans hq
            have hPD := hPD.mi hq
            have hF : min r_15v c0 = min (plV S pp er dy nn 0 (sLeft S pp x (dy i0) er (ntN o)) (i0 + 1)) c0 := r_15b
            have hOP2 := hOP.next (v' := max w r_15v) a1 a2 (by omega) (by omega) (by omega)
            refine va_mmax hx hb (hml.trans hl.1.symm) hown (hu _ uM_X10_139) (hu _ uT_J9_max_7cf53) (hu _ uI_J9) (hu _ uC_J9_max_7cf53) (Nat.le_of_ble_eq_true rfl) (Nat.le_of_ble_eq_true rfl) (Nat.le_of_ble_eq_true rfl) (Nat.le_of_ble_eq_true rfl) dX10_behind_105 ?_
            refine n_topi (y := nI (max w r_15v)) (n_max (by omega) (by omega)) ?_
            refine lv_istore (lv' := [(6, .int (nI (max w r_15v))), (7, .long (o &&& ((sLeft S pp o (dy i0) 0 (ntN o)) ^^^ (-1)))), (10, .long (sLeft S pp x (dy i0) er (ntN o))), (9, .int (nI (ntN o))), (0, .ref (ad.1 40 0)), (1, .long x), (3, .int (nI i0)), (4, .int (nI 1)), (5, .int (nI c0))]) hx hb dX10_behind_108 hl (by decide) rfl (fun ls hl => ?_)
            refine lv_goto (tgt := 6) hx hb dX10_behind_110 (by decide) ?_
            exact ih_lp6 (max w r_15v) (o &&& ((sLeft S pp o (dy i0) 0 (ntN o)) ^^^ (-1))) d_14 _ _ ls (by omega) (by omega) hI hPD hOP2 hW hS (lv_sub hl [4, 5, 6, 7, 8, 0, 1] rfl)
  exact lp6 (65) 0 x d0 _ _ ls (by omega) (by omega) hI hPD (OP.start S pp er x (dy i0) _ c0) hW hS (lv_sub hl [2, 3, 4, 5, 6, 1, 0] rfl)

set_option maxHeartbeats 400000 in
set_option maxRecDepth 100000 in
theorem c_X10_least_1 (l : Launch) (D : va_G) (cA : Nat → ClassId) (B0 : Nat) (ad : kA) (hal : mAl ad) (S : sS) (d0 : kD) (hM : InvM S d0) (pp er nn : Nat) (dy : Nat → Nat) (hPD : PD d0 pp er dy nn) (hp : pp < S 7 0) (her : er ≤ 50) (hn6 : nn ≤ 6) (hdy : ∀ i, i < nn → dy i < 400) (x : Int64) (i0 c0 : Nat) (hi0 : i0 ≤ nn) (hc0 : c0 ≤ 64) : oM l yX10_least wX10_least 8 0 0 D cA B0 ad d0 ([.ref (ad.1 40 0), .long x, .int (nI i0), .int (nI 1), .int (nI c0)] : List Value) (oQi D cA B0 ad (fun r d1 => ∃ v, r = nI v ∧ v ≤ 64 ∧ min v c0 = min (plV S pp er dy nn 1 x i0) c0 ∧ MI S d0 d1)) := by
  refine o_ofW (cc := cX10_least) (maxL := 9) (ret := some .int) (by decide) rfl (Nat.le_of_ble_eq_true rfl) ?_
  intro p e s m below meth c hx hb hr hml hts hown hlocks hnm hK hW hB hS ls hl
  have hu : ∀ w ∈ UW, w.before _ s = true := fun w h => hts w (uw_c w h)
  have hl : lv_has ls 9 [(0, .ref (ad.1 40 0)), (1, .long x), (3, .int (nI i0)), (4, .int (nI 1)), (5, .int (nI c0))] := hl
  have hI : MI S d0 d0 := MI.start hM
  have hG : sG S := hM.2.1
  have hb7 : S 7 0 ≤ 8 := hG.f 7 (mx := 8) (by decide)
  have hb18 : S 18 0 ≤ 40 := hG.f 18 (mx := 40) (by decide)
  refine lv_lload_n hx hb dX10_least_0 rfl (lv_at hl 1 rfl) ?_
  refine o_calli (o_runS (As := [.long x]) (rest := []) ⟨hx, hb, hml, hown, hu⟩ (c_X10_many l D cA B0 ad hal d0 x) (gS_X10_217 (fun _ h => h)) (n0 := 1) rfl (by decide +kernel) rfl ⟨Nat.le_of_ble_eq_true rfl, Nat.le_of_ble_eq_true rfl⟩ hK hW hB hS hl.1 rfl (lv_room (Nat.le_of_ble_eq_true rfl)) ⟨Nat.zero_le _, Nat.zero_le _⟩ dX10_least_1) hS (fun r_2 d_1 q_3 H locs hW hS => ?_)
  obtain ⟨rfl, rfl⟩ := q_3
  have b_4 := popN_le x
  refine lv_istore (lv' := [(6, .int (nI (popN x))), (0, .ref (ad.1 40 0)), (1, .long x), (3, .int (nI i0)), (4, .int (nI 1)), (5, .int (nI c0))]) hx hb dX10_least_4 hl (by decide) rfl (fun ls hl => ?_)
  refine lv_iload hx hb dX10_least_6 (lv_at hl 0 rfl) ?_
  refine n_iconst (v := 1) hx hb dX10_least_8 (by decide) ?_
  refine n_icmp_le (tgt := 17) hx hb (by omega) (by omega) dX10_least_9 (by decide) (fun c_1 => ?_) (fun c_1 => ?_)
  · refine lv_iload hx hb dX10_least_17 (lv_at hl 0 rfl) ?_
    exact o_iret hx hb hr hlocks hW hS (⟨popN x, rfl, by omega, by first | rfl | rw [plV_few (by omega)], hI⟩) dX10_least_19
  · refine lv_iload hx hb dX10_least_12 (lv_at hl 4 rfl) ?_
    refine n_if_ne (tgt := 20) hx hb (by omega) dX10_least_14 (by decide) (fun c_k => ?_) (fun c_k => ?_)
    · refine lv_iload hx hb dX10_least_20 (lv_at hl 0 rfl) ?_
      refine lv_iload hx hb dX10_least_22 (lv_at hl 5 rfl) ?_
      refine va_mmin hx hb (hml.trans hl.1.symm) hown (hu _ uM_X10_133) (hu _ uT_J9_min_7cf53) (hu _ uI_J9) (hu _ uC_J9_min_7cf53) (Nat.le_of_ble_eq_true rfl) (Nat.le_of_ble_eq_true rfl) (Nat.le_of_ble_eq_true rfl) (Nat.le_of_ble_eq_true rfl) dX10_least_24 ?_
      refine n_topi (y := nI (min (popN x) c0)) (n_min (by omega) (by omega)) ?_
      refine lv_istore (lv' := [(7, .int (nI (min (popN x) c0))), (6, .int (nI (popN x))), (0, .ref (ad.1 40 0)), (1, .long x), (3, .int (nI i0)), (4, .int (nI 1)), (5, .int (nI c0))]) hx hb dX10_least_27 hl (by decide) rfl (fun ls hl => ?_)
      refine lv_iload_n hx hb dX10_least_29 rfl (lv_at hl 4 rfl) ?_
      refine lv_istore (lv' := [(8, .int (nI i0)), (7, .int (nI (min (popN x) c0))), (6, .int (nI (popN x))), (0, .ref (ad.1 40 0)), (1, .long x), (3, .int (nI i0)), (4, .int (nI 1)), (5, .int (nI c0))]) hx hb dX10_least_30 hl (by decide) rfl (fun ls hl => ?_)
      have lp32 : ∀ (n : Nat) (b : Nat) (j0 : Nat)  (d : kD) (H : Heap) (locs : List Loc) (ls : Array Slot), nn - j0 < n → (i0 ≤ j0) → (j0 ≤ nn) → (b ≤ 64) → (MI S d0 d) → (PD d pp er dy nn) → (b = min c0 (minL (fun j => bhV S pp er dy nn 0 x (i0 + j)) (popN x) (j0 - i0))) → oW D cA B0 ad d H → va_S (oA B0) s.heap H locs → lv_has ls 9 [(0, .ref (ad.1 40 0)), (1, .long x), (3, .int (nI i0)), (4, .int (nI 1)), (5, .int (nI c0)), (6, .int (nI (popN x))), (7, .int (nI b)), (8, .int (nI j0))] → W p l e (oR 8 0 0) s m ([.ref (ad.1 40 0), .long x, .int (nI i0), .int (nI 1), .int (nI c0)] : List Value).toArray below meth c H locs 0 0 (MQ below (oQi D cA B0 ad (fun r d1 => ∃ v, r = nI v ∧ v ≤ 64 ∧ min v c0 = min (plV S pp er dy nn 1 x i0) c0 ∧ MI S d0 d1)) ([.ref (ad.1 40 0), .long x, .int (nI i0), .int (nI 1), .int (nI c0)] : List Value).toArray s 0 0 (oA B0)) (F0 m 32 ls []) := by
        intro n
        induction n with
        | zero => intro b j0  d H locs ls hmu; exact absurd hmu (Nat.not_lt_zero _)
        | succ n ih_lp32 =>
          intro b j0  d H locs ls hmu hj1 hj2 hb64 hI hPD hb0 hW hS hl
          refine lv_iload hx hb dX10_least_32 (lv_at hl 7 rfl) ?_
          refine lv_aload_n hx hb dX10_least_34 rfl (lv_at hl 0 rfl) ?_
          refine mo_gr hx hb hu hown hK hal hW 40 (by decide) uF_X10_250 dX10_least_35 ?_
          refine n_topi (y := nI nn) (hPD.2.2.1) ?_
          refine n_icmp_ge (tgt := 65) hx hb (by omega) (by omega) dX10_least_38 (by decide) (fun c_5 => ?_) (fun c_5 => ?_)
          · refine lv_iload hx hb dX10_least_65 (lv_at hl 6 rfl) ?_
            exact o_iret hx hb hr hlocks hW hS (⟨b, rfl, by omega, by rw [hb0, plV_suc, show nn - i0 = j0 - i0 by omega]; omega, hI⟩) dX10_least_67
          · refine lv_iload hx hb dX10_least_41 (lv_at hl 6 rfl) ?_
            refine lv_aload_n hx hb dX10_least_43 rfl (lv_at hl 0 rfl) ?_
            refine lv_lload_n hx hb dX10_least_44 rfl (lv_at hl 1 rfl) ?_
            refine lv_iload hx hb dX10_least_45 (lv_at hl 7 rfl) ?_
            refine lv_iload hx hb dX10_least_47 (lv_at hl 3 rfl) ?_
            refine lv_iload hx hb dX10_least_49 (lv_at hl 6 rfl) ?_
            refine o_calli (o_runV (As := [.long x, .int (nI j0), .int (nI 1), .int (nI b)]) (rest := [.int (nI b)]) ⟨hx, hb, hml, hown, hu⟩ (c_X10_behind_1 l D cA B0 ad hal S d hI.1 pp er nn dy hPD hp her hn6 hdy x j0 b (by omega) (by omega)) (gV_X10_253 (fun _ h => h)) (n0 := 4) rfl (by decide +kernel) rfl ⟨Nat.le_of_ble_eq_true rfl, Nat.le_of_ble_eq_true rfl⟩ (o_recv hK hW hal.1 (kC_M _ _ _) rfl) hK hW hB hS hl.1 rfl (lv_room (Nat.le_of_ble_eq_true rfl)) ⟨Nat.zero_le _, Nat.zero_le _⟩ dX10_least_51) hS (fun r_7 d_6 q_8 H locs hW hS => ?_)
            obtain ⟨r_7v, rfl, r_7a, r_7b, hq⟩ := q_8
            have hI := hI.trans hq
            have hPD := hPD.mi hq
            have hst := min_st (m := minL (fun j => bhV S pp er dy nn 0 x (i0 + j)) (popN x) (j0 - i0)) (w := bhV S pp er dy nn 0 x j0) hb0 r_7b
            have hms : minL (fun j => bhV S pp er dy nn 0 x (i0 + j)) (popN x) (j0 + 1 - i0) = min (minL (fun j => bhV S pp er dy nn 0 x (i0 + j)) (popN x) (j0 - i0)) (bhV S pp er dy nn 0 x j0) := by rw [show j0 + 1 - i0 = (j0 - i0) + 1 by omega, minL, show i0 + (j0 - i0) = j0 by omega]
            refine va_mmin hx hb (hml.trans hl.1.symm) hown (hu _ uM_X10_133) (hu _ uT_J9_min_7cf53) (hu _ uI_J9) (hu _ uC_J9_min_7cf53) (Nat.le_of_ble_eq_true rfl) (Nat.le_of_ble_eq_true rfl) (Nat.le_of_ble_eq_true rfl) (Nat.le_of_ble_eq_true rfl) dX10_least_54 ?_
            refine n_topi (y := nI (min b r_7v)) (n_min (by omega) (by omega)) ?_
            refine lv_istore (lv' := [(7, .int (nI (min b r_7v))), (0, .ref (ad.1 40 0)), (1, .long x), (3, .int (nI i0)), (4, .int (nI 1)), (5, .int (nI c0)), (6, .int (nI (popN x))), (8, .int (nI j0))]) hx hb dX10_least_57 hl (by decide) rfl (fun ls hl => ?_)
            refine n_iinc (q := 1) (lv' := [(8, .int (nI (j0 + 1))), (7, .int (nI (min b r_7v))), (0, .ref (ad.1 40 0)), (1, .long x), (3, .int (nI i0)), (4, .int (nI 1)), (5, .int (nI c0)), (6, .int (nI (popN x)))]) hx hb dX10_least_59 hl (k := 7) rfl (by decide) (by decide) rfl (fun ls hl => ?_)
            refine lv_goto (tgt := 32) hx hb dX10_least_62 (by decide) ?_
            exact ih_lp32 (min b r_7v) (j0 + 1) d_6 _ _ ls (by omega) (by omega) (by omega) (by omega) hI hPD (by rw [hms]; exact hst) hW hS (lv_sub hl [2, 3, 4, 5, 6, 7, 1, 0] rfl)
      exact lp32 (nn + 1) (min (popN x) c0) i0 d0 _ _ ls (by omega) (by omega) (by omega) (by omega) hI hPD (by rw [Nat.sub_self]; exact Nat.min_comm _ _) hW hS (lv_sub hl [3, 4, 5, 6, 7, 2, 1, 0] rfl)
    · exfalso; omega

set_option maxHeartbeats 400000 in
set_option maxRecDepth 100000 in
theorem c_X10_behind_2 (l : Launch) (D : va_G) (cA : Nat → ClassId) (B0 : Nat) (ad : kA) (hal : mAl ad) (S : sS) (d0 : kD) (hM : InvM S d0) (pp er nn : Nat) (dy : Nat → Nat) (hPD : PD d0 pp er dy nn) (hp : pp < S 7 0) (her : er ≤ 50) (hn6 : nn ≤ 6) (hdy : ∀ i, i < nn → dy i < 400) (x : Int64) (i0 c0 : Nat) (hi0 : i0 < nn) (hc0 : c0 ≤ 64) : oM l yX10_behind wX10_behind 9 0 0 D cA B0 ad d0 ([.ref (ad.1 40 0), .long x, .int (nI i0), .int (nI 2), .int (nI c0)] : List Value) (oQi D cA B0 ad (fun r d1 => ∃ v, r = nI v ∧ v ≤ 64 ∧ min v c0 = min (bhV S pp er dy nn 1 x i0) c0 ∧ MI S d0 d1)) := by
  refine o_ofW (cc := cX10_behind) (maxL := 12) (ret := some .int) (by decide) rfl (Nat.le_of_ble_eq_true rfl) ?_
  intro p e s m below meth c hx hb hr hml hts hown hlocks hnm hK hW hB hS ls hl
  have hu : ∀ w ∈ UW, w.before _ s = true := fun w h => hts w (uw_c w h)
  have hl : lv_has ls 12 [(0, .ref (ad.1 40 0)), (1, .long x), (3, .int (nI i0)), (4, .int (nI 2)), (5, .int (nI c0))] := hl
  have hI : MI S d0 d0 := MI.start hM
  have hG : sG S := hM.2.1
  have hb7 : S 7 0 ≤ 8 := hG.f 7 (mx := 8) (by decide)
  have hb18 : S 18 0 ≤ 40 := hG.f 18 (mx := 40) (by decide)
  have hdi := hdy i0 hi0
  have hpx := popN_le x
  refine n_iconst (v := 0) hx hb dX10_behind_0 (by decide) ?_
  refine lv_istore (lv' := [(6, .int (nI 0)), (0, .ref (ad.1 40 0)), (1, .long x), (3, .int (nI i0)), (4, .int (nI 2)), (5, .int (nI c0))]) hx hb dX10_behind_1 hl (by decide) rfl (fun ls hl => ?_)
  refine lv_lload_n hx hb dX10_behind_3 rfl (lv_at hl 2 rfl) ?_
  refine lv_lstore (lv' := [(7, .long x), (6, .int (nI 0)), (0, .ref (ad.1 40 0)), (1, .long x), (3, .int (nI i0)), (4, .int (nI 2)), (5, .int (nI c0))]) hx hb dX10_behind_4 hl (by decide) rfl (fun ls hl => ?_)
  have lp6 : ∀ (n : Nat) (w : Nat) (o : Int64)  (d : kD) (H : Heap) (locs : List Loc) (ls : Array Slot), popN o < n → (w ≤ 64) → (MI S d0 d) → (PD d pp er dy nn) → (OP S pp er x (dy i0) (fun y => plV S pp er dy nn 1 y (i0 + 1)) c0 w o) → oW D cA B0 ad d H → va_S (oA B0) s.heap H locs → lv_has ls 12 [(0, .ref (ad.1 40 0)), (1, .long x), (3, .int (nI i0)), (4, .int (nI 2)), (5, .int (nI c0)), (6, .int (nI w)), (7, .long o)] → W p l e (oR 9 0 0) s m ([.ref (ad.1 40 0), .long x, .int (nI i0), .int (nI 2), .int (nI c0)] : List Value).toArray below meth c H locs 0 0 (MQ below (oQi D cA B0 ad (fun r d1 => ∃ v, r = nI v ∧ v ≤ 64 ∧ min v c0 = min (bhV S pp er dy nn 1 x i0) c0 ∧ MI S d0 d1)) ([.ref (ad.1 40 0), .long x, .int (nI i0), .int (nI 2), .int (nI c0)] : List Value).toArray s 0 0 (oA B0)) (F0 m 6 ls []) := by
    intro n
    induction n with
    | zero => intro w o  d H locs ls hmu; exact absurd hmu (Nat.not_lt_zero _)
    | succ n ih_lp6 =>
      intro w o  d H locs ls hmu hw64 hI hPD hOP hW hS hl
      refine lv_lload hx hb dX10_behind_6 (lv_at hl 6 rfl) ?_
      refine lv_lconst (v := 0) hx hb dX10_behind_8 (by decide) ?_
      refine W.lcmp hx hb dX10_behind_9 ?_
      refine lv_if_eq (tgt := 113) hx hb dX10_behind_10 (by decide) (fun c_o => ?_) (fun c_o => ?_)
      · have ho0 := lg0 c_o
        have hfin := hOP.end (Or.inl ho0)
        refine lv_iload hx hb dX10_behind_113 (lv_at hl 5 rfl) ?_
        exact o_iret hx hb hr hlocks hW hS (⟨w, rfl, by omega, hfin, hI⟩) dX10_behind_115
      · have ho0 := lg0n c_o
        obtain ⟨a1, a2, a3⟩ := ntN_ok ho0
        have hlt := but_lt (S := S) (p := pp) (day := dy i0) ho0
        refine lv_iload hx hb dX10_behind_13 (lv_at hl 5 rfl) ?_
        refine lv_iload hx hb dX10_behind_15 (lv_at hl 4 rfl) ?_
        refine n_icmp_ge (tgt := 113) hx hb (by omega) (by omega) dX10_behind_17 (by decide) (fun c_w => ?_) (fun c_w => ?_)
        · have hfin := hOP.end (Or.inr (by omega))
          refine lv_iload hx hb dX10_behind_113 (lv_at hl 5 rfl) ?_
          exact o_iret hx hb hr hlocks hW hS (⟨w, rfl, by omega, hfin, hI⟩) dX10_behind_115
        · refine lv_lload hx hb dX10_behind_20 (lv_at hl 6 rfl) ?_
          refine o_calli (o_runS (As := [.long o]) (rest := []) ⟨hx, hb, hml, hown, hu⟩ (c_J13_numberOfTrailingZeros_95d88 l D cA B0 ad hal d o ho0) (gS_X10_230 (fun _ h => h)) (n0 := 1) rfl (by decide +kernel) rfl ⟨Nat.le_of_ble_eq_true rfl, Nat.le_of_ble_eq_true rfl⟩ hK hW hB hS hl.1 rfl (lv_room (Nat.le_of_ble_eq_true rfl)) ⟨Nat.zero_le _, Nat.zero_le _⟩ dX10_behind_22) hS (fun r_2 d_1 q_3 H locs hW hS => ?_)
          obtain ⟨rfl, rfl⟩ := q_3
          refine lv_istore (lv' := [(9, .int (nI (ntN o))), (0, .ref (ad.1 40 0)), (1, .long x), (3, .int (nI i0)), (4, .int (nI 2)), (5, .int (nI c0)), (6, .int (nI w)), (7, .long o)]) hx hb dX10_behind_25 hl (by decide) rfl (fun ls hl => ?_)
          refine lv_aload_n hx hb dX10_behind_27 rfl (lv_at hl 1 rfl) ?_
          refine lv_aload_n hx hb dX10_behind_28 rfl (lv_at hl 1 rfl) ?_
          refine mo_gr hx hb hu hown hK hal hW 42 (by decide) uF_X10_244 dX10_behind_29 ?_
          refine n_topi (y := nI pp) (hPD.1) ?_
          refine lv_lload_n hx hb dX10_behind_32 rfl (lv_at hl 2 rfl) ?_
          refine lv_aload_n hx hb dX10_behind_33 rfl (lv_at hl 1 rfl) ?_
          refine mo_ga hx hb hu hown hK hal hW 39 (by decide) uF_X10_104 dX10_behind_34 ?_
          refine lv_iload_n hx hb dX10_behind_37 rfl (lv_at hl 3 rfl) ?_
          refine mo_lr hx hb hK hal hW 39 (n := 6) (by decide) (by omega) dX10_behind_38 ?_
          refine n_topi (y := nI (dy i0)) (hPD.2.2.2 i0 hi0) ?_
          refine lv_aload_n hx hb dX10_behind_39 rfl (lv_at hl 1 rfl) ?_
          refine mo_gr hx hb hu hown hK hal hW 41 (by decide) uF_X10_247 dX10_behind_40 ?_
          refine n_topi (y := nI er) (hPD.2.1) ?_
          refine lv_iload hx hb dX10_behind_43 (lv_at hl 0 rfl) ?_
          refine o_calll (o_runV (As := [.int (nI pp), .long x, .int (nI (dy i0)), .int (nI er), .int (nI (ntN o))]) (rest := []) ⟨hx, hb, hml, hown, hu⟩ (c_X10_left l D cA B0 ad hal S d hI.1 pp x (dy i0) er (ntN o) (by omega) (by omega) (by omega) (by omega)) (gV_X10_233 (fun _ h => h)) (n0 := 5) rfl (by decide +kernel) rfl ⟨Nat.le_of_ble_eq_true rfl, Nat.le_of_ble_eq_true rfl⟩ (o_recv hK hW hal.1 (kC_M _ _ _) rfl) hK hW hB hS hl.1 rfl (lv_room (Nat.le_of_ble_eq_true rfl)) ⟨Nat.zero_le _, Nat.zero_le _⟩ dX10_behind_45) hS (fun r_5 d_4 q_6 H locs hW hS => ?_)
          obtain ⟨rfl, hq⟩ := q_6
          have hI := hI.trans hq
          have hPD := hPD.mi hq
          refine lv_lstore (lv' := [(10, .long (sLeft S pp x (dy i0) er (ntN o))), (9, .int (nI (ntN o))), (0, .ref (ad.1 40 0)), (1, .long x), (3, .int (nI i0)), (4, .int (nI 2)), (5, .int (nI c0)), (6, .int (nI w)), (7, .long o)]) hx hb dX10_behind_48 hl (by decide) rfl (fun ls hl => ?_)
          refine lv_lload hx hb dX10_behind_50 (lv_at hl 8 rfl) ?_
          refine lv_aload_n hx hb dX10_behind_52 rfl (lv_at hl 2 rfl) ?_
          refine lv_aload_n hx hb dX10_behind_53 rfl (lv_at hl 2 rfl) ?_
          refine mo_gr hx hb hu hown hK hal hW 42 (by decide) uF_X10_244 dX10_behind_54 ?_
          refine n_topi (y := nI pp) (hPD.1) ?_
          refine lv_lload hx hb dX10_behind_57 (lv_at hl 8 rfl) ?_
          refine lv_aload_n hx hb dX10_behind_59 rfl (lv_at hl 2 rfl) ?_
          refine mo_ga hx hb hu hown hK hal hW 39 (by decide) uF_X10_104 dX10_behind_60 ?_
          refine lv_iload_n hx hb dX10_behind_63 rfl (lv_at hl 4 rfl) ?_
          refine mo_lr hx hb hK hal hW 39 (n := 6) (by decide) (by omega) dX10_behind_64 ?_
          refine n_topi (y := nI (dy i0)) (hPD.2.2.2 i0 hi0) ?_
          refine n_iconst (v := 0) hx hb dX10_behind_65 (by decide) ?_
          refine lv_iload hx hb dX10_behind_66 (lv_at hl 1 rfl) ?_
          refine o_calll (o_runV (As := [.int (nI pp), .long o, .int (nI (dy i0)), .int (nI 0), .int (nI (ntN o))]) (rest := [.long o]) ⟨hx, hb, hml, hown, hu⟩ (c_X10_left l D cA B0 ad hal S d_4 hI.1 pp o (dy i0) 0 (ntN o) (by omega) (by omega) (by omega) (by omega)) (gV_X10_233 (fun _ h => h)) (n0 := 5) rfl (by decide +kernel) rfl ⟨Nat.le_of_ble_eq_true rfl, Nat.le_of_ble_eq_true rfl⟩ (o_recv hK hW hal.1 (kC_M _ _ _) rfl) hK hW hB hS hl.1 rfl (lv_room (Nat.le_of_ble_eq_true rfl)) ⟨Nat.zero_le _, Nat.zero_le _⟩ dX10_behind_68) hS (fun r_8 d_7 q_9 H locs hW hS => ?_)
          obtain ⟨rfl, hq⟩ := q_9
          have hI := hI.trans hq
          have hPD := hPD.mi hq
          refine lv_ldc2 (v := (-1)) hx hb hown (hu _ uK_X10_183) dX10_behind_71 ?_
          refine lv_lxor hx hb dX10_behind_74 ?_
          refine lv_land hx hb dX10_behind_75 ?_
          refine lv_lstore (lv' := [(7, .long (o &&& ((sLeft S pp o (dy i0) 0 (ntN o)) ^^^ (-1)))), (10, .long (sLeft S pp x (dy i0) er (ntN o))), (9, .int (nI (ntN o))), (0, .ref (ad.1 40 0)), (1, .long x), (3, .int (nI i0)), (4, .int (nI 2)), (5, .int (nI c0)), (6, .int (nI w))]) hx hb dX10_behind_76 hl (by decide) rfl (fun ls hl => ?_)
          refine lv_lload hx hb dX10_behind_78 (lv_at hl 1 rfl) ?_
          refine o_calli (o_runS (As := [.long (sLeft S pp x (dy i0) er (ntN o))]) (rest := []) ⟨hx, hb, hml, hown, hu⟩ (c_X10_many l D cA B0 ad hal d_7 (sLeft S pp x (dy i0) er (ntN o))) (gS_X10_217 (fun _ h => h)) (n0 := 1) rfl (by decide +kernel) rfl ⟨Nat.le_of_ble_eq_true rfl, Nat.le_of_ble_eq_true rfl⟩ hK hW hB hS hl.1 rfl (lv_room (Nat.le_of_ble_eq_true rfl)) ⟨Nat.zero_le _, Nat.zero_le _⟩ dX10_behind_80) hS (fun r_11 d_10 q_12 H locs hW hS => ?_)
          obtain ⟨rfl, rfl⟩ := q_12
          have b_13 := popN_le (sLeft S pp x (dy i0) er (ntN o))
          refine lv_iload hx hb dX10_behind_83 (lv_at hl 8 rfl) ?_
          refine n_icmp_le (tgt := 110) hx hb (by omega) (by omega) dX10_behind_85 (by decide) (fun c_m => ?_) (fun c_m => ?_)
          · have hpl : (plV S pp er dy nn 1 (sLeft S pp x (dy i0) er (ntN o)) (i0 + 1)) ≤ popN (sLeft S pp x (dy i0) er (ntN o)) := plV_le S pp er dy nn 1 _ _
            have hOP2 := hOP.next a1 a2 (Nat.le_refl w) (Or.inl (by omega)) (Or.inl (Nat.le_refl w))
            refine lv_goto (tgt := 6) hx hb dX10_behind_110 (by decide) ?_
            exact ih_lp6 w (o &&& ((sLeft S pp o (dy i0) 0 (ntN o)) ^^^ (-1))) d_7 _ _ ls (by omega) (by omega) hI hPD hOP2 hW hS (lv_sub hl [3, 4, 5, 6, 7, 8, 0] rfl)
          · refine lv_iload hx hb dX10_behind_88 (lv_at hl 8 rfl) ?_
            refine lv_aload_n hx hb dX10_behind_90 rfl (lv_at hl 3 rfl) ?_
            refine lv_lload hx hb dX10_behind_91 (lv_at hl 1 rfl) ?_
            refine lv_iload_n hx hb dX10_behind_93 rfl (lv_at hl 5 rfl) ?_
            refine n_iconst (v := 1) hx hb dX10_behind_94 (by decide) ?_
            refine n_iadd hx hb dX10_behind_95 ?_
            refine lv_iload hx hb dX10_behind_96 (lv_at hl 6 rfl) ?_
            refine n_iconst (v := 1) hx hb dX10_behind_98 (by decide) ?_
            refine n_isub hx hb (by omega) dX10_behind_99 ?_
            refine n_top (b := 1) (rfl) ?_
            refine lv_iload hx hb dX10_behind_100 (lv_at hl 7 rfl) ?_
            refine o_calli (o_runV (As := [.long (sLeft S pp x (dy i0) er (ntN o)), .int (nI (i0 + 1)), .int (nI 1), .int (nI c0)]) (rest := [.int (nI w)]) ⟨hx, hb, hml, hown, hu⟩ (c_X10_least_1 l D cA B0 ad hal S d_7 hI.1 pp er nn dy hPD hp her hn6 hdy (sLeft S pp x (dy i0) er (ntN o)) (i0 + 1) c0 (show i0 + 1 ≤ nn by omega) (by omega)) (gV_X10_257 (fun _ h => h)) (n0 := 4) rfl (by decide +kernel) rfl ⟨Nat.le_of_ble_eq_true rfl, Nat.le_of_ble_eq_true rfl⟩ (o_recv hK hW hal.1 (kC_M _ _ _) rfl) hK hW hB hS hl.1 rfl (lv_room (Nat.le_of_ble_eq_true rfl)) ⟨Nat.zero_le _, Nat.zero_le _⟩ dX10_behind_102) hS (fun r_15 d_14 q_16 H locs hW hS => ?_)
            obtain ⟨r_15v, rfl, r_15a, r_15b, hq⟩ := q_16
            have hI := hI.trans hq
            have hPD := hPD.mi hq
            have hF : min r_15v c0 = min (plV S pp er dy nn 1 (sLeft S pp x (dy i0) er (ntN o)) (i0 + 1)) c0 := r_15b
            have hOP2 := hOP.next (v' := max w r_15v) a1 a2 (by omega) (by omega) (by omega)
            refine va_mmax hx hb (hml.trans hl.1.symm) hown (hu _ uM_X10_139) (hu _ uT_J9_max_7cf53) (hu _ uI_J9) (hu _ uC_J9_max_7cf53) (Nat.le_of_ble_eq_true rfl) (Nat.le_of_ble_eq_true rfl) (Nat.le_of_ble_eq_true rfl) (Nat.le_of_ble_eq_true rfl) dX10_behind_105 ?_
            refine n_topi (y := nI (max w r_15v)) (n_max (by omega) (by omega)) ?_
            refine lv_istore (lv' := [(6, .int (nI (max w r_15v))), (7, .long (o &&& ((sLeft S pp o (dy i0) 0 (ntN o)) ^^^ (-1)))), (10, .long (sLeft S pp x (dy i0) er (ntN o))), (9, .int (nI (ntN o))), (0, .ref (ad.1 40 0)), (1, .long x), (3, .int (nI i0)), (4, .int (nI 2)), (5, .int (nI c0))]) hx hb dX10_behind_108 hl (by decide) rfl (fun ls hl => ?_)
            refine lv_goto (tgt := 6) hx hb dX10_behind_110 (by decide) ?_
            exact ih_lp6 (max w r_15v) (o &&& ((sLeft S pp o (dy i0) 0 (ntN o)) ^^^ (-1))) d_14 _ _ ls (by omega) (by omega) hI hPD hOP2 hW hS (lv_sub hl [4, 5, 6, 7, 8, 0, 1] rfl)
  exact lp6 (65) 0 x d0 _ _ ls (by omega) (by omega) hI hPD (OP.start S pp er x (dy i0) _ c0) hW hS (lv_sub hl [2, 3, 4, 5, 6, 1, 0] rfl)

set_option maxHeartbeats 400000 in
set_option maxRecDepth 100000 in
theorem c_X10_least_2 (l : Launch) (D : va_G) (cA : Nat → ClassId) (B0 : Nat) (ad : kA) (hal : mAl ad) (S : sS) (d0 : kD) (hM : InvM S d0) (pp er nn : Nat) (dy : Nat → Nat) (hPD : PD d0 pp er dy nn) (hp : pp < S 7 0) (her : er ≤ 50) (hn6 : nn ≤ 6) (hdy : ∀ i, i < nn → dy i < 400) (x : Int64) (i0 c0 : Nat) (hi0 : i0 ≤ nn) (hc0 : c0 ≤ 64) : oM l yX10_least wX10_least 10 0 0 D cA B0 ad d0 ([.ref (ad.1 40 0), .long x, .int (nI i0), .int (nI 2), .int (nI c0)] : List Value) (oQi D cA B0 ad (fun r d1 => ∃ v, r = nI v ∧ v ≤ 64 ∧ min v c0 = min (plV S pp er dy nn 2 x i0) c0 ∧ MI S d0 d1)) := by
  refine o_ofW (cc := cX10_least) (maxL := 9) (ret := some .int) (by decide) rfl (Nat.le_of_ble_eq_true rfl) ?_
  intro p e s m below meth c hx hb hr hml hts hown hlocks hnm hK hW hB hS ls hl
  have hu : ∀ w ∈ UW, w.before _ s = true := fun w h => hts w (uw_c w h)
  have hl : lv_has ls 9 [(0, .ref (ad.1 40 0)), (1, .long x), (3, .int (nI i0)), (4, .int (nI 2)), (5, .int (nI c0))] := hl
  have hI : MI S d0 d0 := MI.start hM
  have hG : sG S := hM.2.1
  have hb7 : S 7 0 ≤ 8 := hG.f 7 (mx := 8) (by decide)
  have hb18 : S 18 0 ≤ 40 := hG.f 18 (mx := 40) (by decide)
  refine lv_lload_n hx hb dX10_least_0 rfl (lv_at hl 1 rfl) ?_
  refine o_calli (o_runS (As := [.long x]) (rest := []) ⟨hx, hb, hml, hown, hu⟩ (c_X10_many l D cA B0 ad hal d0 x) (gS_X10_217 (fun _ h => h)) (n0 := 1) rfl (by decide +kernel) rfl ⟨Nat.le_of_ble_eq_true rfl, Nat.le_of_ble_eq_true rfl⟩ hK hW hB hS hl.1 rfl (lv_room (Nat.le_of_ble_eq_true rfl)) ⟨Nat.zero_le _, Nat.zero_le _⟩ dX10_least_1) hS (fun r_2 d_1 q_3 H locs hW hS => ?_)
  obtain ⟨rfl, rfl⟩ := q_3
  have b_4 := popN_le x
  refine lv_istore (lv' := [(6, .int (nI (popN x))), (0, .ref (ad.1 40 0)), (1, .long x), (3, .int (nI i0)), (4, .int (nI 2)), (5, .int (nI c0))]) hx hb dX10_least_4 hl (by decide) rfl (fun ls hl => ?_)
  refine lv_iload hx hb dX10_least_6 (lv_at hl 0 rfl) ?_
  refine n_iconst (v := 1) hx hb dX10_least_8 (by decide) ?_
  refine n_icmp_le (tgt := 17) hx hb (by omega) (by omega) dX10_least_9 (by decide) (fun c_1 => ?_) (fun c_1 => ?_)
  · refine lv_iload hx hb dX10_least_17 (lv_at hl 0 rfl) ?_
    exact o_iret hx hb hr hlocks hW hS (⟨popN x, rfl, by omega, by first | rfl | rw [plV_few (by omega)], hI⟩) dX10_least_19
  · refine lv_iload hx hb dX10_least_12 (lv_at hl 4 rfl) ?_
    refine n_if_ne (tgt := 20) hx hb (by omega) dX10_least_14 (by decide) (fun c_k => ?_) (fun c_k => ?_)
    · refine lv_iload hx hb dX10_least_20 (lv_at hl 0 rfl) ?_
      refine lv_iload hx hb dX10_least_22 (lv_at hl 5 rfl) ?_
      refine va_mmin hx hb (hml.trans hl.1.symm) hown (hu _ uM_X10_133) (hu _ uT_J9_min_7cf53) (hu _ uI_J9) (hu _ uC_J9_min_7cf53) (Nat.le_of_ble_eq_true rfl) (Nat.le_of_ble_eq_true rfl) (Nat.le_of_ble_eq_true rfl) (Nat.le_of_ble_eq_true rfl) dX10_least_24 ?_
      refine n_topi (y := nI (min (popN x) c0)) (n_min (by omega) (by omega)) ?_
      refine lv_istore (lv' := [(7, .int (nI (min (popN x) c0))), (6, .int (nI (popN x))), (0, .ref (ad.1 40 0)), (1, .long x), (3, .int (nI i0)), (4, .int (nI 2)), (5, .int (nI c0))]) hx hb dX10_least_27 hl (by decide) rfl (fun ls hl => ?_)
      refine lv_iload_n hx hb dX10_least_29 rfl (lv_at hl 4 rfl) ?_
      refine lv_istore (lv' := [(8, .int (nI i0)), (7, .int (nI (min (popN x) c0))), (6, .int (nI (popN x))), (0, .ref (ad.1 40 0)), (1, .long x), (3, .int (nI i0)), (4, .int (nI 2)), (5, .int (nI c0))]) hx hb dX10_least_30 hl (by decide) rfl (fun ls hl => ?_)
      have lp32 : ∀ (n : Nat) (b : Nat) (j0 : Nat)  (d : kD) (H : Heap) (locs : List Loc) (ls : Array Slot), nn - j0 < n → (i0 ≤ j0) → (j0 ≤ nn) → (b ≤ 64) → (MI S d0 d) → (PD d pp er dy nn) → (b = min c0 (minL (fun j => bhV S pp er dy nn 1 x (i0 + j)) (popN x) (j0 - i0))) → oW D cA B0 ad d H → va_S (oA B0) s.heap H locs → lv_has ls 9 [(0, .ref (ad.1 40 0)), (1, .long x), (3, .int (nI i0)), (4, .int (nI 2)), (5, .int (nI c0)), (6, .int (nI (popN x))), (7, .int (nI b)), (8, .int (nI j0))] → W p l e (oR 10 0 0) s m ([.ref (ad.1 40 0), .long x, .int (nI i0), .int (nI 2), .int (nI c0)] : List Value).toArray below meth c H locs 0 0 (MQ below (oQi D cA B0 ad (fun r d1 => ∃ v, r = nI v ∧ v ≤ 64 ∧ min v c0 = min (plV S pp er dy nn 2 x i0) c0 ∧ MI S d0 d1)) ([.ref (ad.1 40 0), .long x, .int (nI i0), .int (nI 2), .int (nI c0)] : List Value).toArray s 0 0 (oA B0)) (F0 m 32 ls []) := by
        intro n
        induction n with
        | zero => intro b j0  d H locs ls hmu; exact absurd hmu (Nat.not_lt_zero _)
        | succ n ih_lp32 =>
          intro b j0  d H locs ls hmu hj1 hj2 hb64 hI hPD hb0 hW hS hl
          refine lv_iload hx hb dX10_least_32 (lv_at hl 7 rfl) ?_
          refine lv_aload_n hx hb dX10_least_34 rfl (lv_at hl 0 rfl) ?_
          refine mo_gr hx hb hu hown hK hal hW 40 (by decide) uF_X10_250 dX10_least_35 ?_
          refine n_topi (y := nI nn) (hPD.2.2.1) ?_
          refine n_icmp_ge (tgt := 65) hx hb (by omega) (by omega) dX10_least_38 (by decide) (fun c_5 => ?_) (fun c_5 => ?_)
          · refine lv_iload hx hb dX10_least_65 (lv_at hl 6 rfl) ?_
            exact o_iret hx hb hr hlocks hW hS (⟨b, rfl, by omega, by rw [hb0, plV_suc, show nn - i0 = j0 - i0 by omega]; omega, hI⟩) dX10_least_67
          · refine lv_iload hx hb dX10_least_41 (lv_at hl 6 rfl) ?_
            refine lv_aload_n hx hb dX10_least_43 rfl (lv_at hl 0 rfl) ?_
            refine lv_lload_n hx hb dX10_least_44 rfl (lv_at hl 1 rfl) ?_
            refine lv_iload hx hb dX10_least_45 (lv_at hl 7 rfl) ?_
            refine lv_iload hx hb dX10_least_47 (lv_at hl 3 rfl) ?_
            refine lv_iload hx hb dX10_least_49 (lv_at hl 6 rfl) ?_
            refine o_calli (o_runV (As := [.long x, .int (nI j0), .int (nI 2), .int (nI b)]) (rest := [.int (nI b)]) ⟨hx, hb, hml, hown, hu⟩ (c_X10_behind_2 l D cA B0 ad hal S d hI.1 pp er nn dy hPD hp her hn6 hdy x j0 b (by omega) (by omega)) (gV_X10_253 (fun _ h => h)) (n0 := 4) rfl (by decide +kernel) rfl ⟨Nat.le_of_ble_eq_true rfl, Nat.le_of_ble_eq_true rfl⟩ (o_recv hK hW hal.1 (kC_M _ _ _) rfl) hK hW hB hS hl.1 rfl (lv_room (Nat.le_of_ble_eq_true rfl)) ⟨Nat.zero_le _, Nat.zero_le _⟩ dX10_least_51) hS (fun r_7 d_6 q_8 H locs hW hS => ?_)
            obtain ⟨r_7v, rfl, r_7a, r_7b, hq⟩ := q_8
            have hI := hI.trans hq
            have hPD := hPD.mi hq
            have hst := min_st (m := minL (fun j => bhV S pp er dy nn 1 x (i0 + j)) (popN x) (j0 - i0)) (w := bhV S pp er dy nn 1 x j0) hb0 r_7b
            have hms : minL (fun j => bhV S pp er dy nn 1 x (i0 + j)) (popN x) (j0 + 1 - i0) = min (minL (fun j => bhV S pp er dy nn 1 x (i0 + j)) (popN x) (j0 - i0)) (bhV S pp er dy nn 1 x j0) := by rw [show j0 + 1 - i0 = (j0 - i0) + 1 by omega, minL, show i0 + (j0 - i0) = j0 by omega]
            refine va_mmin hx hb (hml.trans hl.1.symm) hown (hu _ uM_X10_133) (hu _ uT_J9_min_7cf53) (hu _ uI_J9) (hu _ uC_J9_min_7cf53) (Nat.le_of_ble_eq_true rfl) (Nat.le_of_ble_eq_true rfl) (Nat.le_of_ble_eq_true rfl) (Nat.le_of_ble_eq_true rfl) dX10_least_54 ?_
            refine n_topi (y := nI (min b r_7v)) (n_min (by omega) (by omega)) ?_
            refine lv_istore (lv' := [(7, .int (nI (min b r_7v))), (0, .ref (ad.1 40 0)), (1, .long x), (3, .int (nI i0)), (4, .int (nI 2)), (5, .int (nI c0)), (6, .int (nI (popN x))), (8, .int (nI j0))]) hx hb dX10_least_57 hl (by decide) rfl (fun ls hl => ?_)
            refine n_iinc (q := 1) (lv' := [(8, .int (nI (j0 + 1))), (7, .int (nI (min b r_7v))), (0, .ref (ad.1 40 0)), (1, .long x), (3, .int (nI i0)), (4, .int (nI 2)), (5, .int (nI c0)), (6, .int (nI (popN x)))]) hx hb dX10_least_59 hl (k := 7) rfl (by decide) (by decide) rfl (fun ls hl => ?_)
            refine lv_goto (tgt := 32) hx hb dX10_least_62 (by decide) ?_
            exact ih_lp32 (min b r_7v) (j0 + 1) d_6 _ _ ls (by omega) (by omega) (by omega) (by omega) hI hPD (by rw [hms]; exact hst) hW hS (lv_sub hl [2, 3, 4, 5, 6, 7, 1, 0] rfl)
      exact lp32 (nn + 1) (min (popN x) c0) i0 d0 _ _ ls (by omega) (by omega) (by omega) (by omega) hI hPD (by rw [Nat.sub_self]; exact Nat.min_comm _ _) hW hS (lv_sub hl [3, 4, 5, 6, 7, 2, 1, 0] rfl)
    · exfalso; omega

set_option maxHeartbeats 400000 in
set_option maxRecDepth 100000 in
theorem c_X10_behind_3 (l : Launch) (D : va_G) (cA : Nat → ClassId) (B0 : Nat) (ad : kA) (hal : mAl ad) (S : sS) (d0 : kD) (hM : InvM S d0) (pp er nn : Nat) (dy : Nat → Nat) (hPD : PD d0 pp er dy nn) (hp : pp < S 7 0) (her : er ≤ 50) (hn6 : nn ≤ 6) (hdy : ∀ i, i < nn → dy i < 400) (x : Int64) (i0 c0 : Nat) (hi0 : i0 < nn) (hc0 : c0 ≤ 64) : oM l yX10_behind wX10_behind 11 0 0 D cA B0 ad d0 ([.ref (ad.1 40 0), .long x, .int (nI i0), .int (nI 3), .int (nI c0)] : List Value) (oQi D cA B0 ad (fun r d1 => ∃ v, r = nI v ∧ v ≤ 64 ∧ min v c0 = min (bhV S pp er dy nn 2 x i0) c0 ∧ MI S d0 d1)) := by
  refine o_ofW (cc := cX10_behind) (maxL := 12) (ret := some .int) (by decide) rfl (Nat.le_of_ble_eq_true rfl) ?_
  intro p e s m below meth c hx hb hr hml hts hown hlocks hnm hK hW hB hS ls hl
  have hu : ∀ w ∈ UW, w.before _ s = true := fun w h => hts w (uw_c w h)
  have hl : lv_has ls 12 [(0, .ref (ad.1 40 0)), (1, .long x), (3, .int (nI i0)), (4, .int (nI 3)), (5, .int (nI c0))] := hl
  have hI : MI S d0 d0 := MI.start hM
  have hG : sG S := hM.2.1
  have hb7 : S 7 0 ≤ 8 := hG.f 7 (mx := 8) (by decide)
  have hb18 : S 18 0 ≤ 40 := hG.f 18 (mx := 40) (by decide)
  have hdi := hdy i0 hi0
  have hpx := popN_le x
  refine n_iconst (v := 0) hx hb dX10_behind_0 (by decide) ?_
  refine lv_istore (lv' := [(6, .int (nI 0)), (0, .ref (ad.1 40 0)), (1, .long x), (3, .int (nI i0)), (4, .int (nI 3)), (5, .int (nI c0))]) hx hb dX10_behind_1 hl (by decide) rfl (fun ls hl => ?_)
  refine lv_lload_n hx hb dX10_behind_3 rfl (lv_at hl 2 rfl) ?_
  refine lv_lstore (lv' := [(7, .long x), (6, .int (nI 0)), (0, .ref (ad.1 40 0)), (1, .long x), (3, .int (nI i0)), (4, .int (nI 3)), (5, .int (nI c0))]) hx hb dX10_behind_4 hl (by decide) rfl (fun ls hl => ?_)
  have lp6 : ∀ (n : Nat) (w : Nat) (o : Int64)  (d : kD) (H : Heap) (locs : List Loc) (ls : Array Slot), popN o < n → (w ≤ 64) → (MI S d0 d) → (PD d pp er dy nn) → (OP S pp er x (dy i0) (fun y => plV S pp er dy nn 2 y (i0 + 1)) c0 w o) → oW D cA B0 ad d H → va_S (oA B0) s.heap H locs → lv_has ls 12 [(0, .ref (ad.1 40 0)), (1, .long x), (3, .int (nI i0)), (4, .int (nI 3)), (5, .int (nI c0)), (6, .int (nI w)), (7, .long o)] → W p l e (oR 11 0 0) s m ([.ref (ad.1 40 0), .long x, .int (nI i0), .int (nI 3), .int (nI c0)] : List Value).toArray below meth c H locs 0 0 (MQ below (oQi D cA B0 ad (fun r d1 => ∃ v, r = nI v ∧ v ≤ 64 ∧ min v c0 = min (bhV S pp er dy nn 2 x i0) c0 ∧ MI S d0 d1)) ([.ref (ad.1 40 0), .long x, .int (nI i0), .int (nI 3), .int (nI c0)] : List Value).toArray s 0 0 (oA B0)) (F0 m 6 ls []) := by
    intro n
    induction n with
    | zero => intro w o  d H locs ls hmu; exact absurd hmu (Nat.not_lt_zero _)
    | succ n ih_lp6 =>
      intro w o  d H locs ls hmu hw64 hI hPD hOP hW hS hl
      refine lv_lload hx hb dX10_behind_6 (lv_at hl 6 rfl) ?_
      refine lv_lconst (v := 0) hx hb dX10_behind_8 (by decide) ?_
      refine W.lcmp hx hb dX10_behind_9 ?_
      refine lv_if_eq (tgt := 113) hx hb dX10_behind_10 (by decide) (fun c_o => ?_) (fun c_o => ?_)
      · have ho0 := lg0 c_o
        have hfin := hOP.end (Or.inl ho0)
        refine lv_iload hx hb dX10_behind_113 (lv_at hl 5 rfl) ?_
        exact o_iret hx hb hr hlocks hW hS (⟨w, rfl, by omega, hfin, hI⟩) dX10_behind_115
      · have ho0 := lg0n c_o
        obtain ⟨a1, a2, a3⟩ := ntN_ok ho0
        have hlt := but_lt (S := S) (p := pp) (day := dy i0) ho0
        refine lv_iload hx hb dX10_behind_13 (lv_at hl 5 rfl) ?_
        refine lv_iload hx hb dX10_behind_15 (lv_at hl 4 rfl) ?_
        refine n_icmp_ge (tgt := 113) hx hb (by omega) (by omega) dX10_behind_17 (by decide) (fun c_w => ?_) (fun c_w => ?_)
        · have hfin := hOP.end (Or.inr (by omega))
          refine lv_iload hx hb dX10_behind_113 (lv_at hl 5 rfl) ?_
          exact o_iret hx hb hr hlocks hW hS (⟨w, rfl, by omega, hfin, hI⟩) dX10_behind_115
        · refine lv_lload hx hb dX10_behind_20 (lv_at hl 6 rfl) ?_
          refine o_calli (o_runS (As := [.long o]) (rest := []) ⟨hx, hb, hml, hown, hu⟩ (c_J13_numberOfTrailingZeros_95d88 l D cA B0 ad hal d o ho0) (gS_X10_230 (fun _ h => h)) (n0 := 1) rfl (by decide +kernel) rfl ⟨Nat.le_of_ble_eq_true rfl, Nat.le_of_ble_eq_true rfl⟩ hK hW hB hS hl.1 rfl (lv_room (Nat.le_of_ble_eq_true rfl)) ⟨Nat.zero_le _, Nat.zero_le _⟩ dX10_behind_22) hS (fun r_2 d_1 q_3 H locs hW hS => ?_)
          obtain ⟨rfl, rfl⟩ := q_3
          refine lv_istore (lv' := [(9, .int (nI (ntN o))), (0, .ref (ad.1 40 0)), (1, .long x), (3, .int (nI i0)), (4, .int (nI 3)), (5, .int (nI c0)), (6, .int (nI w)), (7, .long o)]) hx hb dX10_behind_25 hl (by decide) rfl (fun ls hl => ?_)
          refine lv_aload_n hx hb dX10_behind_27 rfl (lv_at hl 1 rfl) ?_
          refine lv_aload_n hx hb dX10_behind_28 rfl (lv_at hl 1 rfl) ?_
          refine mo_gr hx hb hu hown hK hal hW 42 (by decide) uF_X10_244 dX10_behind_29 ?_
          refine n_topi (y := nI pp) (hPD.1) ?_
          refine lv_lload_n hx hb dX10_behind_32 rfl (lv_at hl 2 rfl) ?_
          refine lv_aload_n hx hb dX10_behind_33 rfl (lv_at hl 1 rfl) ?_
          refine mo_ga hx hb hu hown hK hal hW 39 (by decide) uF_X10_104 dX10_behind_34 ?_
          refine lv_iload_n hx hb dX10_behind_37 rfl (lv_at hl 3 rfl) ?_
          refine mo_lr hx hb hK hal hW 39 (n := 6) (by decide) (by omega) dX10_behind_38 ?_
          refine n_topi (y := nI (dy i0)) (hPD.2.2.2 i0 hi0) ?_
          refine lv_aload_n hx hb dX10_behind_39 rfl (lv_at hl 1 rfl) ?_
          refine mo_gr hx hb hu hown hK hal hW 41 (by decide) uF_X10_247 dX10_behind_40 ?_
          refine n_topi (y := nI er) (hPD.2.1) ?_
          refine lv_iload hx hb dX10_behind_43 (lv_at hl 0 rfl) ?_
          refine o_calll (o_runV (As := [.int (nI pp), .long x, .int (nI (dy i0)), .int (nI er), .int (nI (ntN o))]) (rest := []) ⟨hx, hb, hml, hown, hu⟩ (c_X10_left l D cA B0 ad hal S d hI.1 pp x (dy i0) er (ntN o) (by omega) (by omega) (by omega) (by omega)) (gV_X10_233 (fun _ h => h)) (n0 := 5) rfl (by decide +kernel) rfl ⟨Nat.le_of_ble_eq_true rfl, Nat.le_of_ble_eq_true rfl⟩ (o_recv hK hW hal.1 (kC_M _ _ _) rfl) hK hW hB hS hl.1 rfl (lv_room (Nat.le_of_ble_eq_true rfl)) ⟨Nat.zero_le _, Nat.zero_le _⟩ dX10_behind_45) hS (fun r_5 d_4 q_6 H locs hW hS => ?_)
          obtain ⟨rfl, hq⟩ := q_6
          have hI := hI.trans hq
          have hPD := hPD.mi hq
          refine lv_lstore (lv' := [(10, .long (sLeft S pp x (dy i0) er (ntN o))), (9, .int (nI (ntN o))), (0, .ref (ad.1 40 0)), (1, .long x), (3, .int (nI i0)), (4, .int (nI 3)), (5, .int (nI c0)), (6, .int (nI w)), (7, .long o)]) hx hb dX10_behind_48 hl (by decide) rfl (fun ls hl => ?_)
          refine lv_lload hx hb dX10_behind_50 (lv_at hl 8 rfl) ?_
          refine lv_aload_n hx hb dX10_behind_52 rfl (lv_at hl 2 rfl) ?_
          refine lv_aload_n hx hb dX10_behind_53 rfl (lv_at hl 2 rfl) ?_
          refine mo_gr hx hb hu hown hK hal hW 42 (by decide) uF_X10_244 dX10_behind_54 ?_
          refine n_topi (y := nI pp) (hPD.1) ?_
          refine lv_lload hx hb dX10_behind_57 (lv_at hl 8 rfl) ?_
          refine lv_aload_n hx hb dX10_behind_59 rfl (lv_at hl 2 rfl) ?_
          refine mo_ga hx hb hu hown hK hal hW 39 (by decide) uF_X10_104 dX10_behind_60 ?_
          refine lv_iload_n hx hb dX10_behind_63 rfl (lv_at hl 4 rfl) ?_
          refine mo_lr hx hb hK hal hW 39 (n := 6) (by decide) (by omega) dX10_behind_64 ?_
          refine n_topi (y := nI (dy i0)) (hPD.2.2.2 i0 hi0) ?_
          refine n_iconst (v := 0) hx hb dX10_behind_65 (by decide) ?_
          refine lv_iload hx hb dX10_behind_66 (lv_at hl 1 rfl) ?_
          refine o_calll (o_runV (As := [.int (nI pp), .long o, .int (nI (dy i0)), .int (nI 0), .int (nI (ntN o))]) (rest := [.long o]) ⟨hx, hb, hml, hown, hu⟩ (c_X10_left l D cA B0 ad hal S d_4 hI.1 pp o (dy i0) 0 (ntN o) (by omega) (by omega) (by omega) (by omega)) (gV_X10_233 (fun _ h => h)) (n0 := 5) rfl (by decide +kernel) rfl ⟨Nat.le_of_ble_eq_true rfl, Nat.le_of_ble_eq_true rfl⟩ (o_recv hK hW hal.1 (kC_M _ _ _) rfl) hK hW hB hS hl.1 rfl (lv_room (Nat.le_of_ble_eq_true rfl)) ⟨Nat.zero_le _, Nat.zero_le _⟩ dX10_behind_68) hS (fun r_8 d_7 q_9 H locs hW hS => ?_)
          obtain ⟨rfl, hq⟩ := q_9
          have hI := hI.trans hq
          have hPD := hPD.mi hq
          refine lv_ldc2 (v := (-1)) hx hb hown (hu _ uK_X10_183) dX10_behind_71 ?_
          refine lv_lxor hx hb dX10_behind_74 ?_
          refine lv_land hx hb dX10_behind_75 ?_
          refine lv_lstore (lv' := [(7, .long (o &&& ((sLeft S pp o (dy i0) 0 (ntN o)) ^^^ (-1)))), (10, .long (sLeft S pp x (dy i0) er (ntN o))), (9, .int (nI (ntN o))), (0, .ref (ad.1 40 0)), (1, .long x), (3, .int (nI i0)), (4, .int (nI 3)), (5, .int (nI c0)), (6, .int (nI w))]) hx hb dX10_behind_76 hl (by decide) rfl (fun ls hl => ?_)
          refine lv_lload hx hb dX10_behind_78 (lv_at hl 1 rfl) ?_
          refine o_calli (o_runS (As := [.long (sLeft S pp x (dy i0) er (ntN o))]) (rest := []) ⟨hx, hb, hml, hown, hu⟩ (c_X10_many l D cA B0 ad hal d_7 (sLeft S pp x (dy i0) er (ntN o))) (gS_X10_217 (fun _ h => h)) (n0 := 1) rfl (by decide +kernel) rfl ⟨Nat.le_of_ble_eq_true rfl, Nat.le_of_ble_eq_true rfl⟩ hK hW hB hS hl.1 rfl (lv_room (Nat.le_of_ble_eq_true rfl)) ⟨Nat.zero_le _, Nat.zero_le _⟩ dX10_behind_80) hS (fun r_11 d_10 q_12 H locs hW hS => ?_)
          obtain ⟨rfl, rfl⟩ := q_12
          have b_13 := popN_le (sLeft S pp x (dy i0) er (ntN o))
          refine lv_iload hx hb dX10_behind_83 (lv_at hl 8 rfl) ?_
          refine n_icmp_le (tgt := 110) hx hb (by omega) (by omega) dX10_behind_85 (by decide) (fun c_m => ?_) (fun c_m => ?_)
          · have hpl : (plV S pp er dy nn 2 (sLeft S pp x (dy i0) er (ntN o)) (i0 + 1)) ≤ popN (sLeft S pp x (dy i0) er (ntN o)) := plV_le S pp er dy nn 2 _ _
            have hOP2 := hOP.next a1 a2 (Nat.le_refl w) (Or.inl (by omega)) (Or.inl (Nat.le_refl w))
            refine lv_goto (tgt := 6) hx hb dX10_behind_110 (by decide) ?_
            exact ih_lp6 w (o &&& ((sLeft S pp o (dy i0) 0 (ntN o)) ^^^ (-1))) d_7 _ _ ls (by omega) (by omega) hI hPD hOP2 hW hS (lv_sub hl [3, 4, 5, 6, 7, 8, 0] rfl)
          · refine lv_iload hx hb dX10_behind_88 (lv_at hl 8 rfl) ?_
            refine lv_aload_n hx hb dX10_behind_90 rfl (lv_at hl 3 rfl) ?_
            refine lv_lload hx hb dX10_behind_91 (lv_at hl 1 rfl) ?_
            refine lv_iload_n hx hb dX10_behind_93 rfl (lv_at hl 5 rfl) ?_
            refine n_iconst (v := 1) hx hb dX10_behind_94 (by decide) ?_
            refine n_iadd hx hb dX10_behind_95 ?_
            refine lv_iload hx hb dX10_behind_96 (lv_at hl 6 rfl) ?_
            refine n_iconst (v := 1) hx hb dX10_behind_98 (by decide) ?_
            refine n_isub hx hb (by omega) dX10_behind_99 ?_
            refine n_top (b := 2) (rfl) ?_
            refine lv_iload hx hb dX10_behind_100 (lv_at hl 7 rfl) ?_
            refine o_calli (o_runV (As := [.long (sLeft S pp x (dy i0) er (ntN o)), .int (nI (i0 + 1)), .int (nI 2), .int (nI c0)]) (rest := [.int (nI w)]) ⟨hx, hb, hml, hown, hu⟩ (c_X10_least_2 l D cA B0 ad hal S d_7 hI.1 pp er nn dy hPD hp her hn6 hdy (sLeft S pp x (dy i0) er (ntN o)) (i0 + 1) c0 (show i0 + 1 ≤ nn by omega) (by omega)) (gV_X10_257 (fun _ h => h)) (n0 := 4) rfl (by decide +kernel) rfl ⟨Nat.le_of_ble_eq_true rfl, Nat.le_of_ble_eq_true rfl⟩ (o_recv hK hW hal.1 (kC_M _ _ _) rfl) hK hW hB hS hl.1 rfl (lv_room (Nat.le_of_ble_eq_true rfl)) ⟨Nat.zero_le _, Nat.zero_le _⟩ dX10_behind_102) hS (fun r_15 d_14 q_16 H locs hW hS => ?_)
            obtain ⟨r_15v, rfl, r_15a, r_15b, hq⟩ := q_16
            have hI := hI.trans hq
            have hPD := hPD.mi hq
            have hF : min r_15v c0 = min (plV S pp er dy nn 2 (sLeft S pp x (dy i0) er (ntN o)) (i0 + 1)) c0 := r_15b
            have hOP2 := hOP.next (v' := max w r_15v) a1 a2 (by omega) (by omega) (by omega)
            refine va_mmax hx hb (hml.trans hl.1.symm) hown (hu _ uM_X10_139) (hu _ uT_J9_max_7cf53) (hu _ uI_J9) (hu _ uC_J9_max_7cf53) (Nat.le_of_ble_eq_true rfl) (Nat.le_of_ble_eq_true rfl) (Nat.le_of_ble_eq_true rfl) (Nat.le_of_ble_eq_true rfl) dX10_behind_105 ?_
            refine n_topi (y := nI (max w r_15v)) (n_max (by omega) (by omega)) ?_
            refine lv_istore (lv' := [(6, .int (nI (max w r_15v))), (7, .long (o &&& ((sLeft S pp o (dy i0) 0 (ntN o)) ^^^ (-1)))), (10, .long (sLeft S pp x (dy i0) er (ntN o))), (9, .int (nI (ntN o))), (0, .ref (ad.1 40 0)), (1, .long x), (3, .int (nI i0)), (4, .int (nI 3)), (5, .int (nI c0))]) hx hb dX10_behind_108 hl (by decide) rfl (fun ls hl => ?_)
            refine lv_goto (tgt := 6) hx hb dX10_behind_110 (by decide) ?_
            exact ih_lp6 (max w r_15v) (o &&& ((sLeft S pp o (dy i0) 0 (ntN o)) ^^^ (-1))) d_14 _ _ ls (by omega) (by omega) hI hPD hOP2 hW hS (lv_sub hl [4, 5, 6, 7, 8, 0, 1] rfl)
  exact lp6 (65) 0 x d0 _ _ ls (by omega) (by omega) hI hPD (OP.start S pp er x (dy i0) _ c0) hW hS (lv_sub hl [2, 3, 4, 5, 6, 1, 0] rfl)

set_option maxHeartbeats 400000 in
set_option maxRecDepth 100000 in
theorem c_X10_behind_1u (l : Launch) (D : va_G) (cA : Nat → ClassId) (B0 : Nat) (ad : kA) (hal : mAl ad) (S : sS) (d0 : kD) (hM : InvM S d0) (pp er nn : Nat) (dy : Nat → Nat) (hPD : PD d0 pp er dy nn) (hp : pp < S 7 0) (her : er ≤ 50) (hn6 : nn ≤ 6) (hdy : ∀ i, i < nn → dy i < 400) (x : Int64) (i0 c0 : Nat) (hi0 : i0 < nn) (hc0 : c0 ≤ 64) : oM l yX10_behind wX10_behind 11 0 0 D cA B0 ad d0 ([.ref (ad.1 40 0), .long x, .int (nI i0), .int (nI 1), .int (nI c0)] : List Value) (oQi D cA B0 ad (fun r d1 => ∃ v, r = nI v ∧ v ≤ 64 ∧ min v c0 = min (bhV S pp er dy nn 0 x i0) c0 ∧ MI S d0 d1)) := by
  refine o_ofW (cc := cX10_behind) (maxL := 12) (ret := some .int) (by decide) rfl (Nat.le_of_ble_eq_true rfl) ?_
  intro p e s m below meth c hx hb hr hml hts hown hlocks hnm hK hW hB hS ls hl
  have hu : ∀ w ∈ UW, w.before _ s = true := fun w h => hts w (uw_c w h)
  have hl : lv_has ls 12 [(0, .ref (ad.1 40 0)), (1, .long x), (3, .int (nI i0)), (4, .int (nI 1)), (5, .int (nI c0))] := hl
  have hI : MI S d0 d0 := MI.start hM
  have hG : sG S := hM.2.1
  have hb7 : S 7 0 ≤ 8 := hG.f 7 (mx := 8) (by decide)
  have hb18 : S 18 0 ≤ 40 := hG.f 18 (mx := 40) (by decide)
  have hdi := hdy i0 hi0
  have hpx := popN_le x
  refine n_iconst (v := 0) hx hb dX10_behind_0 (by decide) ?_
  refine lv_istore (lv' := [(6, .int (nI 0)), (0, .ref (ad.1 40 0)), (1, .long x), (3, .int (nI i0)), (4, .int (nI 1)), (5, .int (nI c0))]) hx hb dX10_behind_1 hl (by decide) rfl (fun ls hl => ?_)
  refine lv_lload_n hx hb dX10_behind_3 rfl (lv_at hl 2 rfl) ?_
  refine lv_lstore (lv' := [(7, .long x), (6, .int (nI 0)), (0, .ref (ad.1 40 0)), (1, .long x), (3, .int (nI i0)), (4, .int (nI 1)), (5, .int (nI c0))]) hx hb dX10_behind_4 hl (by decide) rfl (fun ls hl => ?_)
  have lp6 : ∀ (n : Nat) (w : Nat) (o : Int64)  (d : kD) (H : Heap) (locs : List Loc) (ls : Array Slot), popN o < n → (w ≤ 64) → (MI S d0 d) → (PD d pp er dy nn) → (OP S pp er x (dy i0) (fun y => plV S pp er dy nn 0 y (i0 + 1)) c0 w o) → oW D cA B0 ad d H → va_S (oA B0) s.heap H locs → lv_has ls 12 [(0, .ref (ad.1 40 0)), (1, .long x), (3, .int (nI i0)), (4, .int (nI 1)), (5, .int (nI c0)), (6, .int (nI w)), (7, .long o)] → W p l e (oR 11 0 0) s m ([.ref (ad.1 40 0), .long x, .int (nI i0), .int (nI 1), .int (nI c0)] : List Value).toArray below meth c H locs 0 0 (MQ below (oQi D cA B0 ad (fun r d1 => ∃ v, r = nI v ∧ v ≤ 64 ∧ min v c0 = min (bhV S pp er dy nn 0 x i0) c0 ∧ MI S d0 d1)) ([.ref (ad.1 40 0), .long x, .int (nI i0), .int (nI 1), .int (nI c0)] : List Value).toArray s 0 0 (oA B0)) (F0 m 6 ls []) := by
    intro n
    induction n with
    | zero => intro w o  d H locs ls hmu; exact absurd hmu (Nat.not_lt_zero _)
    | succ n ih_lp6 =>
      intro w o  d H locs ls hmu hw64 hI hPD hOP hW hS hl
      refine lv_lload hx hb dX10_behind_6 (lv_at hl 6 rfl) ?_
      refine lv_lconst (v := 0) hx hb dX10_behind_8 (by decide) ?_
      refine W.lcmp hx hb dX10_behind_9 ?_
      refine lv_if_eq (tgt := 113) hx hb dX10_behind_10 (by decide) (fun c_o => ?_) (fun c_o => ?_)
      · have ho0 := lg0 c_o
        have hfin := hOP.end (Or.inl ho0)
        refine lv_iload hx hb dX10_behind_113 (lv_at hl 5 rfl) ?_
        exact o_iret hx hb hr hlocks hW hS (⟨w, rfl, by omega, hfin, hI⟩) dX10_behind_115
      · have ho0 := lg0n c_o
        obtain ⟨a1, a2, a3⟩ := ntN_ok ho0
        have hlt := but_lt (S := S) (p := pp) (day := dy i0) ho0
        refine lv_iload hx hb dX10_behind_13 (lv_at hl 5 rfl) ?_
        refine lv_iload hx hb dX10_behind_15 (lv_at hl 4 rfl) ?_
        refine n_icmp_ge (tgt := 113) hx hb (by omega) (by omega) dX10_behind_17 (by decide) (fun c_w => ?_) (fun c_w => ?_)
        · have hfin := hOP.end (Or.inr (by omega))
          refine lv_iload hx hb dX10_behind_113 (lv_at hl 5 rfl) ?_
          exact o_iret hx hb hr hlocks hW hS (⟨w, rfl, by omega, hfin, hI⟩) dX10_behind_115
        · refine lv_lload hx hb dX10_behind_20 (lv_at hl 6 rfl) ?_
          refine o_calli (o_runS (As := [.long o]) (rest := []) ⟨hx, hb, hml, hown, hu⟩ (c_J13_numberOfTrailingZeros_95d88 l D cA B0 ad hal d o ho0) (gS_X10_230 (fun _ h => h)) (n0 := 1) rfl (by decide +kernel) rfl ⟨Nat.le_of_ble_eq_true rfl, Nat.le_of_ble_eq_true rfl⟩ hK hW hB hS hl.1 rfl (lv_room (Nat.le_of_ble_eq_true rfl)) ⟨Nat.zero_le _, Nat.zero_le _⟩ dX10_behind_22) hS (fun r_2 d_1 q_3 H locs hW hS => ?_)
          obtain ⟨rfl, rfl⟩ := q_3
          refine lv_istore (lv' := [(9, .int (nI (ntN o))), (0, .ref (ad.1 40 0)), (1, .long x), (3, .int (nI i0)), (4, .int (nI 1)), (5, .int (nI c0)), (6, .int (nI w)), (7, .long o)]) hx hb dX10_behind_25 hl (by decide) rfl (fun ls hl => ?_)
          refine lv_aload_n hx hb dX10_behind_27 rfl (lv_at hl 1 rfl) ?_
          refine lv_aload_n hx hb dX10_behind_28 rfl (lv_at hl 1 rfl) ?_
          refine mo_gr hx hb hu hown hK hal hW 42 (by decide) uF_X10_244 dX10_behind_29 ?_
          refine n_topi (y := nI pp) (hPD.1) ?_
          refine lv_lload_n hx hb dX10_behind_32 rfl (lv_at hl 2 rfl) ?_
          refine lv_aload_n hx hb dX10_behind_33 rfl (lv_at hl 1 rfl) ?_
          refine mo_ga hx hb hu hown hK hal hW 39 (by decide) uF_X10_104 dX10_behind_34 ?_
          refine lv_iload_n hx hb dX10_behind_37 rfl (lv_at hl 3 rfl) ?_
          refine mo_lr hx hb hK hal hW 39 (n := 6) (by decide) (by omega) dX10_behind_38 ?_
          refine n_topi (y := nI (dy i0)) (hPD.2.2.2 i0 hi0) ?_
          refine lv_aload_n hx hb dX10_behind_39 rfl (lv_at hl 1 rfl) ?_
          refine mo_gr hx hb hu hown hK hal hW 41 (by decide) uF_X10_247 dX10_behind_40 ?_
          refine n_topi (y := nI er) (hPD.2.1) ?_
          refine lv_iload hx hb dX10_behind_43 (lv_at hl 0 rfl) ?_
          refine o_calll (o_runV (As := [.int (nI pp), .long x, .int (nI (dy i0)), .int (nI er), .int (nI (ntN o))]) (rest := []) ⟨hx, hb, hml, hown, hu⟩ (c_X10_left l D cA B0 ad hal S d hI.1 pp x (dy i0) er (ntN o) (by omega) (by omega) (by omega) (by omega)) (gV_X10_233 (fun _ h => h)) (n0 := 5) rfl (by decide +kernel) rfl ⟨Nat.le_of_ble_eq_true rfl, Nat.le_of_ble_eq_true rfl⟩ (o_recv hK hW hal.1 (kC_M _ _ _) rfl) hK hW hB hS hl.1 rfl (lv_room (Nat.le_of_ble_eq_true rfl)) ⟨Nat.zero_le _, Nat.zero_le _⟩ dX10_behind_45) hS (fun r_5 d_4 q_6 H locs hW hS => ?_)
          obtain ⟨rfl, hq⟩ := q_6
          have hI := hI.trans hq
          have hPD := hPD.mi hq
          refine lv_lstore (lv' := [(10, .long (sLeft S pp x (dy i0) er (ntN o))), (9, .int (nI (ntN o))), (0, .ref (ad.1 40 0)), (1, .long x), (3, .int (nI i0)), (4, .int (nI 1)), (5, .int (nI c0)), (6, .int (nI w)), (7, .long o)]) hx hb dX10_behind_48 hl (by decide) rfl (fun ls hl => ?_)
          refine lv_lload hx hb dX10_behind_50 (lv_at hl 8 rfl) ?_
          refine lv_aload_n hx hb dX10_behind_52 rfl (lv_at hl 2 rfl) ?_
          refine lv_aload_n hx hb dX10_behind_53 rfl (lv_at hl 2 rfl) ?_
          refine mo_gr hx hb hu hown hK hal hW 42 (by decide) uF_X10_244 dX10_behind_54 ?_
          refine n_topi (y := nI pp) (hPD.1) ?_
          refine lv_lload hx hb dX10_behind_57 (lv_at hl 8 rfl) ?_
          refine lv_aload_n hx hb dX10_behind_59 rfl (lv_at hl 2 rfl) ?_
          refine mo_ga hx hb hu hown hK hal hW 39 (by decide) uF_X10_104 dX10_behind_60 ?_
          refine lv_iload_n hx hb dX10_behind_63 rfl (lv_at hl 4 rfl) ?_
          refine mo_lr hx hb hK hal hW 39 (n := 6) (by decide) (by omega) dX10_behind_64 ?_
          refine n_topi (y := nI (dy i0)) (hPD.2.2.2 i0 hi0) ?_
          refine n_iconst (v := 0) hx hb dX10_behind_65 (by decide) ?_
          refine lv_iload hx hb dX10_behind_66 (lv_at hl 1 rfl) ?_
          refine o_calll (o_runV (As := [.int (nI pp), .long o, .int (nI (dy i0)), .int (nI 0), .int (nI (ntN o))]) (rest := [.long o]) ⟨hx, hb, hml, hown, hu⟩ (c_X10_left l D cA B0 ad hal S d_4 hI.1 pp o (dy i0) 0 (ntN o) (by omega) (by omega) (by omega) (by omega)) (gV_X10_233 (fun _ h => h)) (n0 := 5) rfl (by decide +kernel) rfl ⟨Nat.le_of_ble_eq_true rfl, Nat.le_of_ble_eq_true rfl⟩ (o_recv hK hW hal.1 (kC_M _ _ _) rfl) hK hW hB hS hl.1 rfl (lv_room (Nat.le_of_ble_eq_true rfl)) ⟨Nat.zero_le _, Nat.zero_le _⟩ dX10_behind_68) hS (fun r_8 d_7 q_9 H locs hW hS => ?_)
          obtain ⟨rfl, hq⟩ := q_9
          have hI := hI.trans hq
          have hPD := hPD.mi hq
          refine lv_ldc2 (v := (-1)) hx hb hown (hu _ uK_X10_183) dX10_behind_71 ?_
          refine lv_lxor hx hb dX10_behind_74 ?_
          refine lv_land hx hb dX10_behind_75 ?_
          refine lv_lstore (lv' := [(7, .long (o &&& ((sLeft S pp o (dy i0) 0 (ntN o)) ^^^ (-1)))), (10, .long (sLeft S pp x (dy i0) er (ntN o))), (9, .int (nI (ntN o))), (0, .ref (ad.1 40 0)), (1, .long x), (3, .int (nI i0)), (4, .int (nI 1)), (5, .int (nI c0)), (6, .int (nI w))]) hx hb dX10_behind_76 hl (by decide) rfl (fun ls hl => ?_)
          refine lv_lload hx hb dX10_behind_78 (lv_at hl 1 rfl) ?_
          refine o_calli (o_runS (As := [.long (sLeft S pp x (dy i0) er (ntN o))]) (rest := []) ⟨hx, hb, hml, hown, hu⟩ (c_X10_many l D cA B0 ad hal d_7 (sLeft S pp x (dy i0) er (ntN o))) (gS_X10_217 (fun _ h => h)) (n0 := 1) rfl (by decide +kernel) rfl ⟨Nat.le_of_ble_eq_true rfl, Nat.le_of_ble_eq_true rfl⟩ hK hW hB hS hl.1 rfl (lv_room (Nat.le_of_ble_eq_true rfl)) ⟨Nat.zero_le _, Nat.zero_le _⟩ dX10_behind_80) hS (fun r_11 d_10 q_12 H locs hW hS => ?_)
          obtain ⟨rfl, rfl⟩ := q_12
          have b_13 := popN_le (sLeft S pp x (dy i0) er (ntN o))
          refine lv_iload hx hb dX10_behind_83 (lv_at hl 8 rfl) ?_
          refine n_icmp_le (tgt := 110) hx hb (by omega) (by omega) dX10_behind_85 (by decide) (fun c_m => ?_) (fun c_m => ?_)
          · have hpl : (plV S pp er dy nn 0 (sLeft S pp x (dy i0) er (ntN o)) (i0 + 1)) ≤ popN (sLeft S pp x (dy i0) er (ntN o)) := plV_le S pp er dy nn 0 _ _
            have hOP2 := hOP.next a1 a2 (Nat.le_refl w) (Or.inl (by omega)) (Or.inl (Nat.le_refl w))
            refine lv_goto (tgt := 6) hx hb dX10_behind_110 (by decide) ?_
            exact ih_lp6 w (o &&& ((sLeft S pp o (dy i0) 0 (ntN o)) ^^^ (-1))) d_7 _ _ ls (by omega) (by omega) hI hPD hOP2 hW hS (lv_sub hl [3, 4, 5, 6, 7, 8, 0] rfl)
          · refine lv_iload hx hb dX10_behind_88 (lv_at hl 8 rfl) ?_
            refine lv_aload_n hx hb dX10_behind_90 rfl (lv_at hl 3 rfl) ?_
            refine lv_lload hx hb dX10_behind_91 (lv_at hl 1 rfl) ?_
            refine lv_iload_n hx hb dX10_behind_93 rfl (lv_at hl 5 rfl) ?_
            refine n_iconst (v := 1) hx hb dX10_behind_94 (by decide) ?_
            refine n_iadd hx hb dX10_behind_95 ?_
            refine lv_iload hx hb dX10_behind_96 (lv_at hl 6 rfl) ?_
            refine n_iconst (v := 1) hx hb dX10_behind_98 (by decide) ?_
            refine n_isub hx hb (by omega) dX10_behind_99 ?_
            refine n_top (b := 0) (rfl) ?_
            refine lv_iload hx hb dX10_behind_100 (lv_at hl 7 rfl) ?_
            refine o_calli (o_runV (As := [.long (sLeft S pp x (dy i0) er (ntN o)), .int (nI (i0 + 1)), .int (nI 0), .int (nI c0)]) (rest := [.int (nI w)]) ⟨hx, hb, hml, hown, hu⟩ (c_X10_least_0 l D cA B0 ad hal S d_7 hI.1 pp er nn dy hPD hp her hn6 hdy (sLeft S pp x (dy i0) er (ntN o)) (i0 + 1) c0 (show i0 + 1 ≤ nn by omega) (by omega)) (gV_X10_257 (fun _ h => h)) (n0 := 4) rfl (by decide +kernel) rfl ⟨Nat.le_of_ble_eq_true rfl, Nat.le_of_ble_eq_true rfl⟩ (o_recv hK hW hal.1 (kC_M _ _ _) rfl) hK hW hB hS hl.1 rfl (lv_room (Nat.le_of_ble_eq_true rfl)) ⟨Nat.zero_le _, Nat.zero_le _⟩ dX10_behind_102) hS (fun r_15 d_14 q_16 H locs hW hS => ?_)
            obtain ⟨r_15v, rfl, r_15a, r_15b, hq⟩ := q_16
            have hI := hI.trans hq
            have hPD := hPD.mi hq
            have hF : min r_15v c0 = min (plV S pp er dy nn 0 (sLeft S pp x (dy i0) er (ntN o)) (i0 + 1)) c0 := r_15b
            have hOP2 := hOP.next (v' := max w r_15v) a1 a2 (by omega) (by omega) (by omega)
            refine va_mmax hx hb (hml.trans hl.1.symm) hown (hu _ uM_X10_139) (hu _ uT_J9_max_7cf53) (hu _ uI_J9) (hu _ uC_J9_max_7cf53) (Nat.le_of_ble_eq_true rfl) (Nat.le_of_ble_eq_true rfl) (Nat.le_of_ble_eq_true rfl) (Nat.le_of_ble_eq_true rfl) dX10_behind_105 ?_
            refine n_topi (y := nI (max w r_15v)) (n_max (by omega) (by omega)) ?_
            refine lv_istore (lv' := [(6, .int (nI (max w r_15v))), (7, .long (o &&& ((sLeft S pp o (dy i0) 0 (ntN o)) ^^^ (-1)))), (10, .long (sLeft S pp x (dy i0) er (ntN o))), (9, .int (nI (ntN o))), (0, .ref (ad.1 40 0)), (1, .long x), (3, .int (nI i0)), (4, .int (nI 1)), (5, .int (nI c0))]) hx hb dX10_behind_108 hl (by decide) rfl (fun ls hl => ?_)
            refine lv_goto (tgt := 6) hx hb dX10_behind_110 (by decide) ?_
            exact ih_lp6 (max w r_15v) (o &&& ((sLeft S pp o (dy i0) 0 (ntN o)) ^^^ (-1))) d_14 _ _ ls (by omega) (by omega) hI hPD hOP2 hW hS (lv_sub hl [4, 5, 6, 7, 8, 0, 1] rfl)
  exact lp6 (65) 0 x d0 _ _ ls (by omega) (by omega) hI hPD (OP.start S pp er x (dy i0) _ c0) hW hS (lv_sub hl [2, 3, 4, 5, 6, 1, 0] rfl)

set_option maxHeartbeats 400000 in
set_option maxRecDepth 100000 in
theorem c_X10_behind_2u (l : Launch) (D : va_G) (cA : Nat → ClassId) (B0 : Nat) (ad : kA) (hal : mAl ad) (S : sS) (d0 : kD) (hM : InvM S d0) (pp er nn : Nat) (dy : Nat → Nat) (hPD : PD d0 pp er dy nn) (hp : pp < S 7 0) (her : er ≤ 50) (hn6 : nn ≤ 6) (hdy : ∀ i, i < nn → dy i < 400) (x : Int64) (i0 c0 : Nat) (hi0 : i0 < nn) (hc0 : c0 ≤ 64) : oM l yX10_behind wX10_behind 11 0 0 D cA B0 ad d0 ([.ref (ad.1 40 0), .long x, .int (nI i0), .int (nI 2), .int (nI c0)] : List Value) (oQi D cA B0 ad (fun r d1 => ∃ v, r = nI v ∧ v ≤ 64 ∧ min v c0 = min (bhV S pp er dy nn 1 x i0) c0 ∧ MI S d0 d1)) := by
  refine o_ofW (cc := cX10_behind) (maxL := 12) (ret := some .int) (by decide) rfl (Nat.le_of_ble_eq_true rfl) ?_
  intro p e s m below meth c hx hb hr hml hts hown hlocks hnm hK hW hB hS ls hl
  have hu : ∀ w ∈ UW, w.before _ s = true := fun w h => hts w (uw_c w h)
  have hl : lv_has ls 12 [(0, .ref (ad.1 40 0)), (1, .long x), (3, .int (nI i0)), (4, .int (nI 2)), (5, .int (nI c0))] := hl
  have hI : MI S d0 d0 := MI.start hM
  have hG : sG S := hM.2.1
  have hb7 : S 7 0 ≤ 8 := hG.f 7 (mx := 8) (by decide)
  have hb18 : S 18 0 ≤ 40 := hG.f 18 (mx := 40) (by decide)
  have hdi := hdy i0 hi0
  have hpx := popN_le x
  refine n_iconst (v := 0) hx hb dX10_behind_0 (by decide) ?_
  refine lv_istore (lv' := [(6, .int (nI 0)), (0, .ref (ad.1 40 0)), (1, .long x), (3, .int (nI i0)), (4, .int (nI 2)), (5, .int (nI c0))]) hx hb dX10_behind_1 hl (by decide) rfl (fun ls hl => ?_)
  refine lv_lload_n hx hb dX10_behind_3 rfl (lv_at hl 2 rfl) ?_
  refine lv_lstore (lv' := [(7, .long x), (6, .int (nI 0)), (0, .ref (ad.1 40 0)), (1, .long x), (3, .int (nI i0)), (4, .int (nI 2)), (5, .int (nI c0))]) hx hb dX10_behind_4 hl (by decide) rfl (fun ls hl => ?_)
  have lp6 : ∀ (n : Nat) (w : Nat) (o : Int64)  (d : kD) (H : Heap) (locs : List Loc) (ls : Array Slot), popN o < n → (w ≤ 64) → (MI S d0 d) → (PD d pp er dy nn) → (OP S pp er x (dy i0) (fun y => plV S pp er dy nn 1 y (i0 + 1)) c0 w o) → oW D cA B0 ad d H → va_S (oA B0) s.heap H locs → lv_has ls 12 [(0, .ref (ad.1 40 0)), (1, .long x), (3, .int (nI i0)), (4, .int (nI 2)), (5, .int (nI c0)), (6, .int (nI w)), (7, .long o)] → W p l e (oR 11 0 0) s m ([.ref (ad.1 40 0), .long x, .int (nI i0), .int (nI 2), .int (nI c0)] : List Value).toArray below meth c H locs 0 0 (MQ below (oQi D cA B0 ad (fun r d1 => ∃ v, r = nI v ∧ v ≤ 64 ∧ min v c0 = min (bhV S pp er dy nn 1 x i0) c0 ∧ MI S d0 d1)) ([.ref (ad.1 40 0), .long x, .int (nI i0), .int (nI 2), .int (nI c0)] : List Value).toArray s 0 0 (oA B0)) (F0 m 6 ls []) := by
    intro n
    induction n with
    | zero => intro w o  d H locs ls hmu; exact absurd hmu (Nat.not_lt_zero _)
    | succ n ih_lp6 =>
      intro w o  d H locs ls hmu hw64 hI hPD hOP hW hS hl
      refine lv_lload hx hb dX10_behind_6 (lv_at hl 6 rfl) ?_
      refine lv_lconst (v := 0) hx hb dX10_behind_8 (by decide) ?_
      refine W.lcmp hx hb dX10_behind_9 ?_
      refine lv_if_eq (tgt := 113) hx hb dX10_behind_10 (by decide) (fun c_o => ?_) (fun c_o => ?_)
      · have ho0 := lg0 c_o
        have hfin := hOP.end (Or.inl ho0)
        refine lv_iload hx hb dX10_behind_113 (lv_at hl 5 rfl) ?_
        exact o_iret hx hb hr hlocks hW hS (⟨w, rfl, by omega, hfin, hI⟩) dX10_behind_115
      · have ho0 := lg0n c_o
        obtain ⟨a1, a2, a3⟩ := ntN_ok ho0
        have hlt := but_lt (S := S) (p := pp) (day := dy i0) ho0
        refine lv_iload hx hb dX10_behind_13 (lv_at hl 5 rfl) ?_
        refine lv_iload hx hb dX10_behind_15 (lv_at hl 4 rfl) ?_
        refine n_icmp_ge (tgt := 113) hx hb (by omega) (by omega) dX10_behind_17 (by decide) (fun c_w => ?_) (fun c_w => ?_)
        · have hfin := hOP.end (Or.inr (by omega))
          refine lv_iload hx hb dX10_behind_113 (lv_at hl 5 rfl) ?_
          exact o_iret hx hb hr hlocks hW hS (⟨w, rfl, by omega, hfin, hI⟩) dX10_behind_115
        · refine lv_lload hx hb dX10_behind_20 (lv_at hl 6 rfl) ?_
          refine o_calli (o_runS (As := [.long o]) (rest := []) ⟨hx, hb, hml, hown, hu⟩ (c_J13_numberOfTrailingZeros_95d88 l D cA B0 ad hal d o ho0) (gS_X10_230 (fun _ h => h)) (n0 := 1) rfl (by decide +kernel) rfl ⟨Nat.le_of_ble_eq_true rfl, Nat.le_of_ble_eq_true rfl⟩ hK hW hB hS hl.1 rfl (lv_room (Nat.le_of_ble_eq_true rfl)) ⟨Nat.zero_le _, Nat.zero_le _⟩ dX10_behind_22) hS (fun r_2 d_1 q_3 H locs hW hS => ?_)
          obtain ⟨rfl, rfl⟩ := q_3
          refine lv_istore (lv' := [(9, .int (nI (ntN o))), (0, .ref (ad.1 40 0)), (1, .long x), (3, .int (nI i0)), (4, .int (nI 2)), (5, .int (nI c0)), (6, .int (nI w)), (7, .long o)]) hx hb dX10_behind_25 hl (by decide) rfl (fun ls hl => ?_)
          refine lv_aload_n hx hb dX10_behind_27 rfl (lv_at hl 1 rfl) ?_
          refine lv_aload_n hx hb dX10_behind_28 rfl (lv_at hl 1 rfl) ?_
          refine mo_gr hx hb hu hown hK hal hW 42 (by decide) uF_X10_244 dX10_behind_29 ?_
          refine n_topi (y := nI pp) (hPD.1) ?_
          refine lv_lload_n hx hb dX10_behind_32 rfl (lv_at hl 2 rfl) ?_
          refine lv_aload_n hx hb dX10_behind_33 rfl (lv_at hl 1 rfl) ?_
          refine mo_ga hx hb hu hown hK hal hW 39 (by decide) uF_X10_104 dX10_behind_34 ?_
          refine lv_iload_n hx hb dX10_behind_37 rfl (lv_at hl 3 rfl) ?_
          refine mo_lr hx hb hK hal hW 39 (n := 6) (by decide) (by omega) dX10_behind_38 ?_
          refine n_topi (y := nI (dy i0)) (hPD.2.2.2 i0 hi0) ?_
          refine lv_aload_n hx hb dX10_behind_39 rfl (lv_at hl 1 rfl) ?_
          refine mo_gr hx hb hu hown hK hal hW 41 (by decide) uF_X10_247 dX10_behind_40 ?_
          refine n_topi (y := nI er) (hPD.2.1) ?_
          refine lv_iload hx hb dX10_behind_43 (lv_at hl 0 rfl) ?_
          refine o_calll (o_runV (As := [.int (nI pp), .long x, .int (nI (dy i0)), .int (nI er), .int (nI (ntN o))]) (rest := []) ⟨hx, hb, hml, hown, hu⟩ (c_X10_left l D cA B0 ad hal S d hI.1 pp x (dy i0) er (ntN o) (by omega) (by omega) (by omega) (by omega)) (gV_X10_233 (fun _ h => h)) (n0 := 5) rfl (by decide +kernel) rfl ⟨Nat.le_of_ble_eq_true rfl, Nat.le_of_ble_eq_true rfl⟩ (o_recv hK hW hal.1 (kC_M _ _ _) rfl) hK hW hB hS hl.1 rfl (lv_room (Nat.le_of_ble_eq_true rfl)) ⟨Nat.zero_le _, Nat.zero_le _⟩ dX10_behind_45) hS (fun r_5 d_4 q_6 H locs hW hS => ?_)
          obtain ⟨rfl, hq⟩ := q_6
          have hI := hI.trans hq
          have hPD := hPD.mi hq
          refine lv_lstore (lv' := [(10, .long (sLeft S pp x (dy i0) er (ntN o))), (9, .int (nI (ntN o))), (0, .ref (ad.1 40 0)), (1, .long x), (3, .int (nI i0)), (4, .int (nI 2)), (5, .int (nI c0)), (6, .int (nI w)), (7, .long o)]) hx hb dX10_behind_48 hl (by decide) rfl (fun ls hl => ?_)
          refine lv_lload hx hb dX10_behind_50 (lv_at hl 8 rfl) ?_
          refine lv_aload_n hx hb dX10_behind_52 rfl (lv_at hl 2 rfl) ?_
          refine lv_aload_n hx hb dX10_behind_53 rfl (lv_at hl 2 rfl) ?_
          refine mo_gr hx hb hu hown hK hal hW 42 (by decide) uF_X10_244 dX10_behind_54 ?_
          refine n_topi (y := nI pp) (hPD.1) ?_
          refine lv_lload hx hb dX10_behind_57 (lv_at hl 8 rfl) ?_
          refine lv_aload_n hx hb dX10_behind_59 rfl (lv_at hl 2 rfl) ?_
          refine mo_ga hx hb hu hown hK hal hW 39 (by decide) uF_X10_104 dX10_behind_60 ?_
          refine lv_iload_n hx hb dX10_behind_63 rfl (lv_at hl 4 rfl) ?_
          refine mo_lr hx hb hK hal hW 39 (n := 6) (by decide) (by omega) dX10_behind_64 ?_
          refine n_topi (y := nI (dy i0)) (hPD.2.2.2 i0 hi0) ?_
          refine n_iconst (v := 0) hx hb dX10_behind_65 (by decide) ?_
          refine lv_iload hx hb dX10_behind_66 (lv_at hl 1 rfl) ?_
          refine o_calll (o_runV (As := [.int (nI pp), .long o, .int (nI (dy i0)), .int (nI 0), .int (nI (ntN o))]) (rest := [.long o]) ⟨hx, hb, hml, hown, hu⟩ (c_X10_left l D cA B0 ad hal S d_4 hI.1 pp o (dy i0) 0 (ntN o) (by omega) (by omega) (by omega) (by omega)) (gV_X10_233 (fun _ h => h)) (n0 := 5) rfl (by decide +kernel) rfl ⟨Nat.le_of_ble_eq_true rfl, Nat.le_of_ble_eq_true rfl⟩ (o_recv hK hW hal.1 (kC_M _ _ _) rfl) hK hW hB hS hl.1 rfl (lv_room (Nat.le_of_ble_eq_true rfl)) ⟨Nat.zero_le _, Nat.zero_le _⟩ dX10_behind_68) hS (fun r_8 d_7 q_9 H locs hW hS => ?_)
          obtain ⟨rfl, hq⟩ := q_9
          have hI := hI.trans hq
          have hPD := hPD.mi hq
          refine lv_ldc2 (v := (-1)) hx hb hown (hu _ uK_X10_183) dX10_behind_71 ?_
          refine lv_lxor hx hb dX10_behind_74 ?_
          refine lv_land hx hb dX10_behind_75 ?_
          refine lv_lstore (lv' := [(7, .long (o &&& ((sLeft S pp o (dy i0) 0 (ntN o)) ^^^ (-1)))), (10, .long (sLeft S pp x (dy i0) er (ntN o))), (9, .int (nI (ntN o))), (0, .ref (ad.1 40 0)), (1, .long x), (3, .int (nI i0)), (4, .int (nI 2)), (5, .int (nI c0)), (6, .int (nI w))]) hx hb dX10_behind_76 hl (by decide) rfl (fun ls hl => ?_)
          refine lv_lload hx hb dX10_behind_78 (lv_at hl 1 rfl) ?_
          refine o_calli (o_runS (As := [.long (sLeft S pp x (dy i0) er (ntN o))]) (rest := []) ⟨hx, hb, hml, hown, hu⟩ (c_X10_many l D cA B0 ad hal d_7 (sLeft S pp x (dy i0) er (ntN o))) (gS_X10_217 (fun _ h => h)) (n0 := 1) rfl (by decide +kernel) rfl ⟨Nat.le_of_ble_eq_true rfl, Nat.le_of_ble_eq_true rfl⟩ hK hW hB hS hl.1 rfl (lv_room (Nat.le_of_ble_eq_true rfl)) ⟨Nat.zero_le _, Nat.zero_le _⟩ dX10_behind_80) hS (fun r_11 d_10 q_12 H locs hW hS => ?_)
          obtain ⟨rfl, rfl⟩ := q_12
          have b_13 := popN_le (sLeft S pp x (dy i0) er (ntN o))
          refine lv_iload hx hb dX10_behind_83 (lv_at hl 8 rfl) ?_
          refine n_icmp_le (tgt := 110) hx hb (by omega) (by omega) dX10_behind_85 (by decide) (fun c_m => ?_) (fun c_m => ?_)
          · have hpl : (plV S pp er dy nn 1 (sLeft S pp x (dy i0) er (ntN o)) (i0 + 1)) ≤ popN (sLeft S pp x (dy i0) er (ntN o)) := plV_le S pp er dy nn 1 _ _
            have hOP2 := hOP.next a1 a2 (Nat.le_refl w) (Or.inl (by omega)) (Or.inl (Nat.le_refl w))
            refine lv_goto (tgt := 6) hx hb dX10_behind_110 (by decide) ?_
            exact ih_lp6 w (o &&& ((sLeft S pp o (dy i0) 0 (ntN o)) ^^^ (-1))) d_7 _ _ ls (by omega) (by omega) hI hPD hOP2 hW hS (lv_sub hl [3, 4, 5, 6, 7, 8, 0] rfl)
          · refine lv_iload hx hb dX10_behind_88 (lv_at hl 8 rfl) ?_
            refine lv_aload_n hx hb dX10_behind_90 rfl (lv_at hl 3 rfl) ?_
            refine lv_lload hx hb dX10_behind_91 (lv_at hl 1 rfl) ?_
            refine lv_iload_n hx hb dX10_behind_93 rfl (lv_at hl 5 rfl) ?_
            refine n_iconst (v := 1) hx hb dX10_behind_94 (by decide) ?_
            refine n_iadd hx hb dX10_behind_95 ?_
            refine lv_iload hx hb dX10_behind_96 (lv_at hl 6 rfl) ?_
            refine n_iconst (v := 1) hx hb dX10_behind_98 (by decide) ?_
            refine n_isub hx hb (by omega) dX10_behind_99 ?_
            refine n_top (b := 1) (rfl) ?_
            refine lv_iload hx hb dX10_behind_100 (lv_at hl 7 rfl) ?_
            refine o_calli (o_runV (As := [.long (sLeft S pp x (dy i0) er (ntN o)), .int (nI (i0 + 1)), .int (nI 1), .int (nI c0)]) (rest := [.int (nI w)]) ⟨hx, hb, hml, hown, hu⟩ (c_X10_least_1 l D cA B0 ad hal S d_7 hI.1 pp er nn dy hPD hp her hn6 hdy (sLeft S pp x (dy i0) er (ntN o)) (i0 + 1) c0 (show i0 + 1 ≤ nn by omega) (by omega)) (gV_X10_257 (fun _ h => h)) (n0 := 4) rfl (by decide +kernel) rfl ⟨Nat.le_of_ble_eq_true rfl, Nat.le_of_ble_eq_true rfl⟩ (o_recv hK hW hal.1 (kC_M _ _ _) rfl) hK hW hB hS hl.1 rfl (lv_room (Nat.le_of_ble_eq_true rfl)) ⟨Nat.zero_le _, Nat.zero_le _⟩ dX10_behind_102) hS (fun r_15 d_14 q_16 H locs hW hS => ?_)
            obtain ⟨r_15v, rfl, r_15a, r_15b, hq⟩ := q_16
            have hI := hI.trans hq
            have hPD := hPD.mi hq
            have hF : min r_15v c0 = min (plV S pp er dy nn 1 (sLeft S pp x (dy i0) er (ntN o)) (i0 + 1)) c0 := r_15b
            have hOP2 := hOP.next (v' := max w r_15v) a1 a2 (by omega) (by omega) (by omega)
            refine va_mmax hx hb (hml.trans hl.1.symm) hown (hu _ uM_X10_139) (hu _ uT_J9_max_7cf53) (hu _ uI_J9) (hu _ uC_J9_max_7cf53) (Nat.le_of_ble_eq_true rfl) (Nat.le_of_ble_eq_true rfl) (Nat.le_of_ble_eq_true rfl) (Nat.le_of_ble_eq_true rfl) dX10_behind_105 ?_
            refine n_topi (y := nI (max w r_15v)) (n_max (by omega) (by omega)) ?_
            refine lv_istore (lv' := [(6, .int (nI (max w r_15v))), (7, .long (o &&& ((sLeft S pp o (dy i0) 0 (ntN o)) ^^^ (-1)))), (10, .long (sLeft S pp x (dy i0) er (ntN o))), (9, .int (nI (ntN o))), (0, .ref (ad.1 40 0)), (1, .long x), (3, .int (nI i0)), (4, .int (nI 2)), (5, .int (nI c0))]) hx hb dX10_behind_108 hl (by decide) rfl (fun ls hl => ?_)
            refine lv_goto (tgt := 6) hx hb dX10_behind_110 (by decide) ?_
            exact ih_lp6 (max w r_15v) (o &&& ((sLeft S pp o (dy i0) 0 (ntN o)) ^^^ (-1))) d_14 _ _ ls (by omega) (by omega) hI hPD hOP2 hW hS (lv_sub hl [4, 5, 6, 7, 8, 0, 1] rfl)
  exact lp6 (65) 0 x d0 _ _ ls (by omega) (by omega) hI hPD (OP.start S pp er x (dy i0) _ c0) hW hS (lv_sub hl [2, 3, 4, 5, 6, 1, 0] rfl)

theorem c_X10_behind_u (l : Launch) (D : va_G) (cA : Nat → ClassId) (B0 : Nat) (ad : kA) (hal : mAl ad) (S : sS) (d0 : kD) (hM : InvM S d0) (pp er nn : Nat) (dy : Nat → Nat) (hPD : PD d0 pp er dy nn) (hp : pp < S 7 0) (her : er ≤ 50) (hn6 : nn ≤ 6) (hdy : ∀ i, i < nn → dy i < 400) (x : Int64) (i0 k0 c0 : Nat) (hi0 : i0 < nn) (hk1 : 1 ≤ k0) (hk3 : k0 ≤ 3) (hc0 : c0 ≤ 64) : oM l yX10_behind wX10_behind 11 0 0 D cA B0 ad d0 [.ref (ad.1 40 0), .long x, .int (nI i0), .int (nI k0), .int (nI c0)] (oQi D cA B0 ad (fun r d1 => ∃ v, r = nI v ∧ v ≤ 64 ∧ min v c0 = min (bhV S pp er dy nn (k0 - 1) x i0) c0 ∧ MI S d0 d1)) := by
  rcases (show k0 = 1 ∨ k0 = 2 ∨ k0 = 3 by omega) with rfl | rfl | rfl
  · exact c_X10_behind_1u l D cA B0 ad hal S d0 hM pp er nn dy hPD hp her hn6 hdy x i0 c0 hi0 hc0
  · exact c_X10_behind_2u l D cA B0 ad hal S d0 hM pp er nn dy hPD hp her hn6 hdy x i0 c0 hi0 hc0
  · exact c_X10_behind_3 l D cA B0 ad hal S d0 hM pp er nn dy hPD hp her hn6 hdy x i0 c0 hi0 hc0
