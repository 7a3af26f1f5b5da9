set_option maxHeartbeats 400000 in
set_option maxRecDepth 100000 in
theorem c_X10_settled_0 (l : Launch) (D : va_G) (cA : Nat → ClassId) (B0 : Nat) (ad : kA) (hal : mAl ad) (S : sS) (d0 : kD) (hM : InvM S d0) (pp er nn : Nat) (dy : Nat → Nat) (hPD : PD d0 pp er dy nn) (hp : pp < S 7 0) (her : er ≤ 50) (hn6 : nn ≤ 6) (hdy : ∀ i, i < nn → dy i < 400) (x ys : Int64) (i0 : Nat) (hi0 : i0 ≤ nn) : oM l yX10_settled wX10_settled 6 0 0 D cA B0 ad d0 ([.ref (ad.1 40 0), .long x, .long ys, .int (nI i0), .int (nI 0)] : List Value) (oQi D cA B0 ad (fun r d1 => r = bI (stV S pp er dy nn ys 0 x i0) ∧ MI S d0 d1)) := by
  refine o_ofW (cc := cX10_settled) (maxL := 14) (ret := some .boolean) (by decide) rfl (Nat.le_of_ble_eq_true rfl) ?_
  intro p e s m below meth c hx hb hr hml hts hown hlocks hnm hK hW hB hS ls hl
  have hu : ∀ w ∈ UW, w.before _ s = true := fun w h => hts w (uw_c w h)
  have hl : lv_has ls 14 [(0, .ref (ad.1 40 0)), (1, .long x), (3, .long ys), (5, .int (nI i0)), (6, .int (nI 0))] := hl
  have hI : MI S d0 d0 := MI.start hM
  have hG : sG S := hM.2.1
  have hb7 : S 7 0 ≤ 8 := hG.f 7 (mx := 8) (by decide)
  have hb18 : S 18 0 ≤ 40 := hG.f 18 (mx := 40) (by decide)
  have hpx := popN_le x
  refine lv_lload_n hx hb dX10_settled_0 rfl (lv_at hl 1 rfl) ?_
  refine lv_lload_n hx hb dX10_settled_1 rfl (lv_at hl 2 rfl) ?_
  refine lv_land hx hb dX10_settled_2 ?_
  refine lv_lstore (lv' := [(7, .long (x &&& ys)), (0, .ref (ad.1 40 0)), (1, .long x), (3, .long ys), (5, .int (nI i0)), (6, .int (nI 0))]) hx hb dX10_settled_3 hl (by decide) rfl (fun ls hl => ?_)
  refine lv_lload hx hb dX10_settled_5 (lv_at hl 0 rfl) ?_
  refine lv_lconst (v := 0) hx hb dX10_settled_7 (by decide) ?_
  refine W.lcmp hx hb dX10_settled_8 ?_
  refine lv_if_eq (tgt := 19) hx hb dX10_settled_9 (by decide) (fun c_1 => ?_) (fun c_1 => ?_)
  · have hb0 : stB ys x = true := stB_t (Or.inl (lgc c_1))
    refine n_iconst (v := 1) hx hb dX10_settled_19 (by decide) ?_
    exact o_zret hx hb hr hlocks (by first | rfl | exact z_bI _ | (split <;> first | rfl | (split <;> rfl))) hW hS (⟨by show nI 1 = bI (stB ys x); rw [hb0]; rfl, hI⟩) dX10_settled_20
  · refine lv_lload hx hb dX10_settled_12 (lv_at hl 0 rfl) ?_
    refine lv_lload_n hx hb dX10_settled_14 rfl (lv_at hl 2 rfl) ?_
    refine W.lcmp hx hb dX10_settled_15 ?_
    refine lv_if_ne (tgt := 21) hx hb dX10_settled_16 (by decide) (fun c_2 => ?_) (fun c_2 => ?_)
    · have hb0 : stB ys x = false := stB_f (lgcn c_1) (lgcn c_2)
      refine lv_iload hx hb dX10_settled_21 (lv_at hl 5 rfl) ?_
      refine n_if_ne (tgt := 28) hx hb (by omega) dX10_settled_23 (by decide) (fun c_k => ?_) (fun c_k => ?_)
      · exfalso; omega
      · refine n_iconst (v := 0) hx hb dX10_settled_26 (by decide) ?_
        exact o_zret hx hb hr hlocks (by first | rfl | exact z_bI _ | (split <;> first | rfl | (split <;> rfl))) hW hS (⟨by show nI 0 = bI (stB ys x); rw [hb0]; rfl, hI⟩) dX10_settled_27
    · have hb0 : stB ys x = true := stB_t (Or.inr (lgc c_2))
      refine n_iconst (v := 1) hx hb dX10_settled_19 (by decide) ?_
      exact o_zret hx hb hr hlocks (by first | rfl | exact z_bI _ | (split <;> first | rfl | (split <;> rfl))) hW hS (⟨by show nI 1 = bI (stB ys x); rw [hb0]; rfl, hI⟩) dX10_settled_20

set_option maxHeartbeats 400000 in
set_option maxRecDepth 100000 in
theorem c_X10_settled_1 (l : Launch) (D : va_G) (cA : Nat → ClassId) (B0 : Nat) (ad : kA) (hal : mAl ad) (S : sS) (d0 : kD) (hM : InvM S d0) (pp er nn : Nat) (dy : Nat → Nat) (hPD : PD d0 pp er dy nn) (hp : pp < S 7 0) (her : er ≤ 50) (hn6 : nn ≤ 6) (hdy : ∀ i, i < nn → dy i < 400) (x ys : Int64) (i0 : Nat) (hi0 : i0 ≤ nn) : oM l yX10_settled wX10_settled 7 0 0 D cA B0 ad d0 ([.ref (ad.1 40 0), .long x, .long ys, .int (nI i0), .int (nI 1)] : List Value) (oQi D cA B0 ad (fun r d1 => r = bI (stV S pp er dy nn ys 1 x i0) ∧ MI S d0 d1)) := by
  refine o_ofW (cc := cX10_settled) (maxL := 14) (ret := some .boolean) (by decide) rfl (Nat.le_of_ble_eq_true rfl) ?_
  intro p e s m below meth c hx hb hr hml hts hown hlocks hnm hK hW hB hS ls hl
  have hu : ∀ w ∈ UW, w.before _ s = true := fun w h => hts w (uw_c w h)
  have hl : lv_has ls 14 [(0, .ref (ad.1 40 0)), (1, .long x), (3, .long ys), (5, .int (nI i0)), (6, .int (nI 1))] := hl
  have hI : MI S d0 d0 := MI.start hM
  have hG : sG S := hM.2.1
  have hb7 : S 7 0 ≤ 8 := hG.f 7 (mx := 8) (by decide)
  have hb18 : S 18 0 ≤ 40 := hG.f 18 (mx := 40) (by decide)
  have hpx := popN_le x
  refine lv_lload_n hx hb dX10_settled_0 rfl (lv_at hl 1 rfl) ?_
  refine lv_lload_n hx hb dX10_settled_1 rfl (lv_at hl 2 rfl) ?_
  refine lv_land hx hb dX10_settled_2 ?_
  refine lv_lstore (lv' := [(7, .long (x &&& ys)), (0, .ref (ad.1 40 0)), (1, .long x), (3, .long ys), (5, .int (nI i0)), (6, .int (nI 1))]) hx hb dX10_settled_3 hl (by decide) rfl (fun ls hl => ?_)
  refine lv_lload hx hb dX10_settled_5 (lv_at hl 0 rfl) ?_
  refine lv_lconst (v := 0) hx hb dX10_settled_7 (by decide) ?_
  refine W.lcmp hx hb dX10_settled_8 ?_
  refine lv_if_eq (tgt := 19) hx hb dX10_settled_9 (by decide) (fun c_1 => ?_) (fun c_1 => ?_)
  · have hb0 : stB ys x = true := stB_t (Or.inl (lgc c_1))
    refine n_iconst (v := 1) hx hb dX10_settled_19 (by decide) ?_
    exact o_zret hx hb hr hlocks (by first | rfl | exact z_bI _ | (split <;> first | rfl | (split <;> rfl))) hW hS (⟨by rw [stV_suc, hb0, Bool.true_or]; rfl, hI⟩) dX10_settled_20
  · refine lv_lload hx hb dX10_settled_12 (lv_at hl 0 rfl) ?_
    refine lv_lload_n hx hb dX10_settled_14 rfl (lv_at hl 2 rfl) ?_
    refine W.lcmp hx hb dX10_settled_15 ?_
    refine lv_if_ne (tgt := 21) hx hb dX10_settled_16 (by decide) (fun c_2 => ?_) (fun c_2 => ?_)
    · have hb0 : stB ys x = false := stB_f (lgcn c_1) (lgcn c_2)
      refine lv_iload hx hb dX10_settled_21 (lv_at hl 5 rfl) ?_
      refine n_if_ne (tgt := 28) hx hb (by omega) dX10_settled_23 (by decide) (fun c_k => ?_) (fun c_k => ?_)
      · refine lv_iload hx hb dX10_settled_28 (lv_at hl 4 rfl) ?_
        refine lv_istore (lv' := [(9, .int (nI i0)), (7, .long (x &&& ys)), (0, .ref (ad.1 40 0)), (1, .long x), (3, .long ys), (5, .int (nI i0)), (6, .int (nI 1))]) hx hb dX10_settled_30 hl (by decide) rfl (fun ls hl => ?_)
        have lp32 : ∀ (n : Nat) (j0 : Nat)  (d : kD) (H : Heap) (locs : List Loc) (ls : Array Slot), nn - j0 < n → (i0 ≤ j0) → (j0 ≤ nn) → (MI S d0 d) → (PD d pp er dy nn) → (anyL (fun j => sbV S pp er dy nn ys 0 x (i0 + j)) (j0 - i0) = false) → oW D cA B0 ad d H → va_S (oA B0) s.heap H locs → lv_has ls 14 [(0, .ref (ad.1 40 0)), (1, .long x), (3, .long ys), (5, .int (nI i0)), (6, .int (nI 1)), (7, .long (x &&& ys)), (9, .int (nI j0))] → W p l e (oR 7 0 0) s m ([.ref (ad.1 40 0), .long x, .long ys, .int (nI i0), .int (nI 1)] : List Value).toArray below meth c H locs 0 0 (MQ below (oQi D cA B0 ad (fun r d1 => r = bI (stV S pp er dy nn ys 1 x i0) ∧ MI S d0 d1)) ([.ref (ad.1 40 0), .long x, .long ys, .int (nI i0), .int (nI 1)] : List Value).toArray s 0 0 (oA B0)) (F0 m 32 ls []) := by
          intro n
          induction n with
          | zero => intro j0  d H locs ls hmu; exact absurd hmu (Nat.not_lt_zero _)
          | succ n ih_lp32 =>
            intro j0  d H locs ls hmu hj1 hj2 hI hPD hany hW hS hl
            refine lv_iload hx hb dX10_settled_32 (lv_at hl 6 rfl) ?_
            refine lv_aload_n hx hb dX10_settled_34 rfl (lv_at hl 0 rfl) ?_
            refine mo_gr hx hb hu hown hK hal hW 40 (by decide) uF_X10_250 dX10_settled_35 ?_
            refine n_topi (y := nI nn) (hPD.2.2.1) ?_
            refine n_icmp_ge (tgt := 148) hx hb (by omega) (by omega) dX10_settled_38 (by decide) (fun c_1 => ?_) (fun c_1 => ?_)
            · refine n_iconst (v := 0) hx hb dX10_settled_148 (by decide) ?_
              exact o_zret hx hb hr hlocks (by first | rfl | exact z_bI _ | (split <;> first | rfl | (split <;> rfl))) hW hS (⟨by rw [stV_suc, hb0, show nn - i0 = j0 - i0 by omega, hany]; rfl, hI⟩) dX10_settled_149
            · have hdi := hdy j0 (by omega)
              refine n_iconst (v := 1) hx hb dX10_settled_41 (by decide) ?_
              refine lv_istore (lv' := [(10, .int (nI 1)), (0, .ref (ad.1 40 0)), (1, .long x), (3, .long ys), (5, .int (nI i0)), (6, .int (nI 1)), (7, .long (x &&& ys)), (9, .int (nI j0))]) hx hb dX10_settled_42 hl (by decide) rfl (fun ls hl => ?_)
              refine lv_lload_n hx hb dX10_settled_44 rfl (lv_at hl 2 rfl) ?_
              refine lv_lstore (lv' := [(11, .long x), (10, .int (nI 1)), (0, .ref (ad.1 40 0)), (1, .long x), (3, .long ys), (5, .int (nI i0)), (6, .int (nI 1)), (7, .long (x &&& ys)), (9, .int (nI j0))]) hx hb dX10_settled_45 hl (by decide) rfl (fun ls hl => ?_)
              have lp47 : ∀ (n : Nat) (av : Int32) (o : Int64) (al : Bool) (d : kD) (H : Heap) (locs : List Loc) (ls : Array Slot), popN o < n → (MI S d0 d) → (PD d pp er dy nn) → (av = bI al) → (OS S pp er x (dy j0) (fun y => stV S pp er dy nn ys 0 y (j0 + 1)) al o) → oW D cA B0 ad d H → va_S (oA B0) s.heap H locs → lv_has ls 14 [(0, .ref (ad.1 40 0)), (1, .long x), (3, .long ys), (5, .int (nI i0)), (6, .int (nI 1)), (7, .long (x &&& ys)), (9, .int (nI j0)), (10, .int av), (11, .long o)] → W p l e (oR 7 0 0) s m ([.ref (ad.1 40 0), .long x, .long ys, .int (nI i0), .int (nI 1)] : List Value).toArray below meth c H locs 0 0 (MQ below (oQi D cA B0 ad (fun r d1 => r = bI (stV S pp er dy nn ys 1 x i0) ∧ MI S d0 d1)) ([.ref (ad.1 40 0), .long x, .long ys, .int (nI i0), .int (nI 1)] : List Value).toArray s 0 0 (oA B0)) (F0 m 47 ls []) := by
                intro n
                induction n with
                | zero => intro av o al d H locs ls hmu; exact absurd hmu (Nat.not_lt_zero _)
                | succ n ih_lp47 =>
                  intro av o al d H locs ls hmu hI hPD hav hOS hW hS hl
                  refine lv_lload hx hb dX10_settled_47 (lv_at hl 8 rfl) ?_
                  refine lv_lconst (v := 0) hx hb dX10_settled_49 (by decide) ?_
                  refine W.lcmp hx hb dX10_settled_50 ?_
                  refine lv_if_eq (tgt := 135) hx hb dX10_settled_51 (by decide) (fun c_o => ?_) (fun c_o => ?_)
                  · have hfin := hOS.end (Or.inl (lg0 c_o))
                    refine lv_iload hx hb dX10_settled_135 (lv_at hl 7 rfl) ?_
                    refine lv_if_eq (tgt := 142) hx hb dX10_settled_137 (by decide) (fun c_e => ?_) (fun c_e => ?_)
                    · have hsb : sbV S pp er dy nn ys 0 x j0 = false := hfin.symm.trans (bI_z (hav.symm.trans c_e))
                      refine n_iinc (q := 1) (lv' := [(9, .int (nI (j0 + 1))), (0, .ref (ad.1 40 0)), (1, .long x), (3, .long ys), (5, .int (nI i0)), (6, .int (nI 1)), (7, .long (x &&& ys)), (10, .int av), (11, .long o)]) hx hb dX10_settled_142 hl (k := 6) rfl (by decide) (by decide) rfl (fun ls hl => ?_)
                      refine lv_goto (tgt := 32) hx hb dX10_settled_145 (by decide) ?_
                      exact ih_lp32 (j0 + 1) d _ _ ls (by omega) (by omega) (by omega) hI hPD (by rw [show j0 + 1 - i0 = (j0 - i0) + 1 by omega]; exact anyL_f hany (by show sbV S pp er dy nn ys 0 x (i0 + (j0 - i0)) = false; rw [show i0 + (j0 - i0) = j0 by omega]; exact hsb)) hW hS (lv_sub hl [1, 2, 3, 4, 5, 6, 0] rfl)
                    · have hsb : sbV S pp er dy nn ys 0 x j0 = true := hfin.symm.trans (bI_n (by rw [← hav]; exact c_e))
                      refine n_iconst (v := 1) hx hb dX10_settled_140 (by decide) ?_
                      exact o_zret hx hb hr hlocks (by first | rfl | exact z_bI _ | (split <;> first | rfl | (split <;> rfl))) hW hS (⟨by rw [stV_suc, anyL_t (nn - i0) (j := j0 - i0) (by omega) (by show sbV S pp er dy nn ys 0 x (i0 + (j0 - i0)) = true; rw [show i0 + (j0 - i0) = j0 by omega]; exact hsb), Bool.or_true]; rfl, hI⟩) dX10_settled_141
                  · have ho0 := lg0n c_o
                    obtain ⟨a1, a2, a3⟩ := ntN_ok ho0
                    have hlt := but_lt (S := S) (p := pp) (day := dy j0) ho0
                    refine lv_iload hx hb dX10_settled_54 (lv_at hl 7 rfl) ?_
                    refine lv_if_eq (tgt := 135) hx hb dX10_settled_56 (by decide) (fun c_a => ?_) (fun c_a => ?_)
                    · have hfin := hOS.end (Or.inr (bI_z (hav.symm.trans c_a)))
                      refine lv_iload hx hb dX10_settled_135 (lv_at hl 7 rfl) ?_
                      refine lv_if_eq (tgt := 142) hx hb dX10_settled_137 (by decide) (fun c_e => ?_) (fun c_e => ?_)
                      · have hsb : sbV S pp er dy nn ys 0 x j0 = false := hfin.symm.trans (bI_z (hav.symm.trans c_e))
                        refine n_iinc (q := 1) (lv' := [(9, .int (nI (j0 + 1))), (0, .ref (ad.1 40 0)), (1, .long x), (3, .long ys), (5, .int (nI i0)), (6, .int (nI 1)), (7, .long (x &&& ys)), (10, .int av), (11, .long o)]) hx hb dX10_settled_142 hl (k := 6) rfl (by decide) (by decide) rfl (fun ls hl => ?_)
                        refine lv_goto (tgt := 32) hx hb dX10_settled_145 (by decide) ?_
                        exact ih_lp32 (j0 + 1) d _ _ ls (by omega) (by omega) (by omega) hI hPD (by rw [show j0 + 1 - i0 = (j0 - i0) + 1 by omega]; exact anyL_f hany (by show sbV S pp er dy nn ys 0 x (i0 + (j0 - i0)) = false; rw [show i0 + (j0 - i0) = j0 by omega]; exact hsb)) hW hS (lv_sub hl [1, 2, 3, 4, 5, 6, 0] rfl)
                      · have hsb : sbV S pp er dy nn ys 0 x j0 = true := hfin.symm.trans (bI_n (by rw [← hav]; exact c_e))
                        refine n_iconst (v := 1) hx hb dX10_settled_140 (by decide) ?_
                        exact o_zret hx hb hr hlocks (by first | rfl | exact z_bI _ | (split <;> first | rfl | (split <;> rfl))) hW hS (⟨by rw [stV_suc, anyL_t (nn - i0) (j := j0 - i0) (by omega) (by show sbV S pp er dy nn ys 0 x (i0 + (j0 - i0)) = true; rw [show i0 + (j0 - i0) = j0 by omega]; exact hsb), Bool.or_true]; rfl, hI⟩) dX10_settled_141
                    · have hal1 : al = true := bI_n (by rw [← hav]; exact c_a)
                      rw [hal1] at hOS
                      have hOS := hOS.next a1 a2
                      refine lv_lload hx hb dX10_settled_59 (lv_at hl 8 rfl) ?_
                      refine o_calli (o_runS (As := [.long o]) (rest := []) ⟨hx, hb, hml, hown, hu⟩ (c_J13_numberOfTrailingZeros_95d88 l D cA B0 ad hal d o ho0) (gS_X10_230 (fun _ h => h)) (n0 := 1) rfl (by decide +kernel) rfl ⟨Nat.le_of_ble_eq_true rfl, Nat.le_of_ble_eq_true rfl⟩ hK hW hB hS hl.1 rfl (lv_room (Nat.le_of_ble_eq_true rfl)) ⟨Nat.zero_le _, Nat.zero_le _⟩ dX10_settled_61) hS (fun r_3 d_2 q_4 H locs hW hS => ?_)
                      obtain ⟨rfl, rfl⟩ := q_4
                      refine lv_istore (lv' := [(13, .int (nI (ntN o))), (0, .ref (ad.1 40 0)), (1, .long x), (3, .long ys), (5, .int (nI i0)), (6, .int (nI 1)), (7, .long (x &&& ys)), (9, .int (nI j0)), (10, .int av), (11, .long o)]) hx hb dX10_settled_64 hl (by decide) rfl (fun ls hl => ?_)
                      refine lv_aload_n hx hb dX10_settled_66 rfl (lv_at hl 1 rfl) ?_
                      refine lv_aload_n hx hb dX10_settled_67 rfl (lv_at hl 1 rfl) ?_
                      refine lv_aload_n hx hb dX10_settled_68 rfl (lv_at hl 1 rfl) ?_
                      refine mo_gr hx hb hu hown hK hal hW 42 (by decide) uF_X10_244 dX10_settled_69 ?_
                      refine n_topi (y := nI pp) (hPD.1) ?_
                      refine lv_lload_n hx hb dX10_settled_72 rfl (lv_at hl 2 rfl) ?_
                      refine lv_aload_n hx hb dX10_settled_73 rfl (lv_at hl 1 rfl) ?_
                      refine mo_ga hx hb hu hown hK hal hW 39 (by decide) uF_X10_104 dX10_settled_74 ?_
                      refine lv_iload hx hb dX10_settled_77 (lv_at hl 7 rfl) ?_
                      refine mo_lr hx hb hK hal hW 39 (n := 6) (by decide) (by omega) dX10_settled_79 ?_
                      refine n_topi (y := nI (dy j0)) (hPD.2.2.2 j0 (by omega)) ?_
                      refine lv_aload_n hx hb dX10_settled_80 rfl (lv_at hl 1 rfl) ?_
                      refine mo_gr hx hb hu hown hK hal hW 41 (by decide) uF_X10_247 dX10_settled_81 ?_
                      refine n_topi (y := nI er) (hPD.2.1) ?_
                      refine lv_iload hx hb dX10_settled_84 (lv_at hl 0 rfl) ?_
                      refine o_calll (o_runV (As := [.int (nI pp), .long x, .int (nI (dy j0)), .int (nI er), .int (nI (ntN o))]) (rest := [.ref (ad.1 40 0)]) ⟨hx, hb, hml, hown, hu⟩ (c_X10_left l D cA B0 ad hal S d hI.1 pp x (dy j0) er (ntN o) (by omega) (by omega) (by omega) (by omega)) (gV_X10_233 (fun _ h => h)) (n0 := 5) rfl (by decide +kernel) rfl ⟨Nat.le_of_ble_eq_true rfl, Nat.le_of_ble_eq_true rfl⟩ (o_recv hK hW hal.1 (kC_M _ _ _) rfl) hK hW hB hS hl.1 rfl (lv_room (Nat.le_of_ble_eq_true rfl)) ⟨Nat.zero_le _, Nat.zero_le _⟩ dX10_settled_86) hS (fun r_6 d_5 q_7 H locs hW hS => ?_)
                      obtain ⟨rfl, hq⟩ := q_7
                      have hI := hI.trans hq
                      have hPD := hPD.mi hq
                      refine lv_lload_n hx hb dX10_settled_89 rfl (lv_at hl 3 rfl) ?_
                      refine lv_iload hx hb dX10_settled_90 (lv_at hl 7 rfl) ?_
                      refine n_iconst (v := 1) hx hb dX10_settled_92 (by decide) ?_
                      refine n_iadd hx hb dX10_settled_93 ?_
                      refine lv_iload hx hb dX10_settled_94 (lv_at hl 5 rfl) ?_
                      refine n_iconst (v := 1) hx hb dX10_settled_96 (by decide) ?_
                      refine n_isub hx hb (by omega) dX10_settled_97 ?_
                      refine n_top (b := 0) (rfl) ?_
                      refine o_calli (o_runV (As := [.long (sLeft S pp x (dy j0) er (ntN o)), .long ys, .int (nI (j0 + 1)), .int (nI 0)]) (rest := []) ⟨hx, hb, hml, hown, hu⟩ (c_X10_settled_0 l D cA B0 ad hal S d_5 hI.1 pp er nn dy hPD hp her hn6 hdy (sLeft S pp x (dy j0) er (ntN o)) ys (j0 + 1) (by omega)) (gV_X10_268 (fun _ h => h)) (n0 := 4) rfl (by decide +kernel) rfl ⟨Nat.le_of_ble_eq_true rfl, Nat.le_of_ble_eq_true rfl⟩ (o_recv hK hW hal.1 (kC_M _ _ _) rfl) hK hW hB hS hl.1 rfl (lv_room (Nat.le_of_ble_eq_true rfl)) ⟨Nat.zero_le _, Nat.zero_le _⟩ dX10_settled_98) hS (fun r_9 d_8 q_10 H locs hW hS => ?_)
                      obtain ⟨rfl, hq⟩ := q_10
                      have hI := hI.trans hq
                      have hPD := hPD.mi hq
                      refine lv_istore (lv' := [(10, .int (bI (stV S pp er dy nn ys 0 (sLeft S pp x (dy j0) er (ntN o)) (j0 + 1)))), (13, .int (nI (ntN o))), (0, .ref (ad.1 40 0)), (1, .long x), (3, .long ys), (5, .int (nI i0)), (6, .int (nI 1)), (7, .long (x &&& ys)), (9, .int (nI j0)), (11, .long o)]) hx hb dX10_settled_101 hl (by decide) rfl (fun ls hl => ?_)
                      refine lv_lload hx hb dX10_settled_103 (lv_at hl 9 rfl) ?_
                      refine lv_aload_n hx hb dX10_settled_105 rfl (lv_at hl 2 rfl) ?_
                      refine lv_aload_n hx hb dX10_settled_106 rfl (lv_at hl 2 rfl) ?_
                      refine mo_gr hx hb hu hown hK hal hW 42 (by decide) uF_X10_244 dX10_settled_107 ?_
                      refine n_topi (y := nI pp) (hPD.1) ?_
                      refine lv_lload hx hb dX10_settled_110 (lv_at hl 9 rfl) ?_
                      refine lv_aload_n hx hb dX10_settled_112 rfl (lv_at hl 2 rfl) ?_
                      refine mo_ga hx hb hu hown hK hal hW 39 (by decide) uF_X10_104 dX10_settled_113 ?_
                      refine lv_iload hx hb dX10_settled_116 (lv_at hl 8 rfl) ?_
                      refine mo_lr hx hb hK hal hW 39 (n := 6) (by decide) (by omega) dX10_settled_118 ?_
                      refine n_topi (y := nI (dy j0)) (hPD.2.2.2 j0 (by omega)) ?_
                      refine n_iconst (v := 0) hx hb dX10_settled_119 (by decide) ?_
                      refine lv_iload hx hb dX10_settled_120 (lv_at hl 1 rfl) ?_
                      refine o_calll (o_runV (As := [.int (nI pp), .long o, .int (nI (dy j0)), .int (nI 0), .int (nI (ntN o))]) (rest := [.long o]) ⟨hx, hb, hml, hown, hu⟩ (c_X10_left l D cA B0 ad hal S d_8 hI.1 pp o (dy j0) 0 (ntN o) (by omega) (by omega) (by omega) (by omega)) (gV_X10_233 (fun _ h => h)) (n0 := 5) rfl (by decide +kernel) rfl ⟨Nat.le_of_ble_eq_true rfl, Nat.le_of_ble_eq_true rfl⟩ (o_recv hK hW hal.1 (kC_M _ _ _) rfl) hK hW hB hS hl.1 rfl (lv_room (Nat.le_of_ble_eq_true rfl)) ⟨Nat.zero_le _, Nat.zero_le _⟩ dX10_settled_122) hS (fun r_12 d_11 q_13 H locs hW hS => ?_)
                      obtain ⟨rfl, hq⟩ := q_13
                      have hI := hI.trans hq
                      have hPD := hPD.mi hq
                      refine lv_ldc2 (v := (-1)) hx hb hown (hu _ uK_X10_183) dX10_settled_125 ?_
                      refine lv_lxor hx hb dX10_settled_128 ?_
                      refine lv_land hx hb dX10_settled_129 ?_
                      refine lv_lstore (lv' := [(11, .long (o &&& ((sLeft S pp o (dy j0) 0 (ntN o)) ^^^ (-1)))), (10, .int (bI (stV S pp er dy nn ys 0 (sLeft S pp x (dy j0) er (ntN o)) (j0 + 1)))), (13, .int (nI (ntN o))), (0, .ref (ad.1 40 0)), (1, .long x), (3, .long ys), (5, .int (nI i0)), (6, .int (nI 1)), (7, .long (x &&& ys)), (9, .int (nI j0))]) hx hb dX10_settled_130 hl (by decide) rfl (fun ls hl => ?_)
                      refine lv_goto (tgt := 47) hx hb dX10_settled_132 (by decide) ?_
                      exact ih_lp47 (bI (stV S pp er dy nn ys 0 (sLeft S pp x (dy j0) er (ntN o)) (j0 + 1))) (o &&& ((sLeft S pp o (dy j0) 0 (ntN o)) ^^^ (-1))) (stV S pp er dy nn ys 0 (sLeft S pp x (dy j0) er (ntN o)) (j0 + 1)) d_11 _ _ ls (by omega) hI hPD rfl hOS hW hS (lv_sub hl [3, 4, 5, 6, 7, 8, 9, 1, 0] rfl)
              exact lp47 (65) (nI 1) x true d _ _ ls (by omega) hI hPD (by decide) (OS.start S pp er x (dy j0) _) hW hS (lv_sub hl [2, 3, 4, 5, 6, 7, 8, 1, 0] rfl)
        exact lp32 (nn + 1) i0 d0 _ _ ls (by omega) (by omega) (by omega) hI hPD (by rw [Nat.sub_self]; rfl) hW hS (lv_sub hl [2, 3, 4, 5, 6, 1, 0] rfl)
      · exfalso; omega
    · have hb0 : stB ys x = true := stB_t (Or.inr (lgc c_2))
      refine n_iconst (v := 1) hx hb dX10_settled_19 (by decide) ?_
      exact o_zret hx hb hr hlocks (by first | rfl | exact z_bI _ | (split <;> first | rfl | (split <;> rfl))) hW hS (⟨by rw [stV_suc, hb0, Bool.true_or]; rfl, hI⟩) dX10_settled_20

set_option maxHeartbeats 400000 in
set_option maxRecDepth 100000 in
theorem c_X10_settled_2 (l : Launch) (D : va_G) (cA : Nat → ClassId) (B0 : Nat) (ad : kA) (hal : mAl ad) (S : sS) (d0 : kD) (hM : InvM S d0) (pp er nn : Nat) (dy : Nat → Nat) (hPD : PD d0 pp er dy nn) (hp : pp < S 7 0) (her : er ≤ 50) (hn6 : nn ≤ 6) (hdy : ∀ i, i < nn → dy i < 400) (x ys : Int64) (i0 : Nat) (hi0 : i0 ≤ nn) : oM l yX10_settled wX10_settled 8 0 0 D cA B0 ad d0 ([.ref (ad.1 40 0), .long x, .long ys, .int (nI i0), .int (nI 2)] : List Value) (oQi D cA B0 ad (fun r d1 => r = bI (stV S pp er dy nn ys 2 x i0) ∧ MI S d0 d1)) := by
  refine o_ofW (cc := cX10_settled) (maxL := 14) (ret := some .boolean) (by decide) rfl (Nat.le_of_ble_eq_true rfl) ?_
  intro p e s m below meth c hx hb hr hml hts hown hlocks hnm hK hW hB hS ls hl
  have hu : ∀ w ∈ UW, w.before _ s = true := fun w h => hts w (uw_c w h)
  have hl : lv_has ls 14 [(0, .ref (ad.1 40 0)), (1, .long x), (3, .long ys), (5, .int (nI i0)), (6, .int (nI 2))] := hl
  have hI : MI S d0 d0 := MI.start hM
  have hG : sG S := hM.2.1
  have hb7 : S 7 0 ≤ 8 := hG.f 7 (mx := 8) (by decide)
  have hb18 : S 18 0 ≤ 40 := hG.f 18 (mx := 40) (by decide)
  have hpx := popN_le x
  refine lv_lload_n hx hb dX10_settled_0 rfl (lv_at hl 1 rfl) ?_
  refine lv_lload_n hx hb dX10_settled_1 rfl (lv_at hl 2 rfl) ?_
  refine lv_land hx hb dX10_settled_2 ?_
  refine lv_lstore (lv' := [(7, .long (x &&& ys)), (0, .ref (ad.1 40 0)), (1, .long x), (3, .long ys), (5, .int (nI i0)), (6, .int (nI 2))]) hx hb dX10_settled_3 hl (by decide) rfl (fun ls hl => ?_)
  refine lv_lload hx hb dX10_settled_5 (lv_at hl 0 rfl) ?_
  refine lv_lconst (v := 0) hx hb dX10_settled_7 (by decide) ?_
  refine W.lcmp hx hb dX10_settled_8 ?_
  refine lv_if_eq (tgt := 19) hx hb dX10_settled_9 (by decide) (fun c_1 => ?_) (fun c_1 => ?_)
  · have hb0 : stB ys x = true := stB_t (Or.inl (lgc c_1))
    refine n_iconst (v := 1) hx hb dX10_settled_19 (by decide) ?_
    exact o_zret hx hb hr hlocks (by first | rfl | exact z_bI _ | (split <;> first | rfl | (split <;> rfl))) hW hS (⟨by rw [stV_suc, hb0, Bool.true_or]; rfl, hI⟩) dX10_settled_20
  · refine lv_lload hx hb dX10_settled_12 (lv_at hl 0 rfl) ?_
    refine lv_lload_n hx hb dX10_settled_14 rfl (lv_at hl 2 rfl) ?_
    refine W.lcmp hx hb dX10_settled_15 ?_
    refine lv_if_ne (tgt := 21) hx hb dX10_settled_16 (by decide) (fun c_2 => ?_) (fun c_2 => ?_)
    · have hb0 : stB ys x = false := stB_f (lgcn c_1) (lgcn c_2)
      refine lv_iload hx hb dX10_settled_21 (lv_at hl 5 rfl) ?_
      refine n_if_ne (tgt := 28) hx hb (by omega) dX10_settled_23 (by decide) (fun c_k => ?_) (fun c_k => ?_)
      · refine lv_iload hx hb dX10_settled_28 (lv_at hl 4 rfl) ?_
        refine lv_istore (lv' := [(9, .int (nI i0)), (7, .long (x &&& ys)), (0, .ref (ad.1 40 0)), (1, .long x), (3, .long ys), (5, .int (nI i0)), (6, .int (nI 2))]) hx hb dX10_settled_30 hl (by decide) rfl (fun ls hl => ?_)
        have lp32 : ∀ (n : Nat) (j0 : Nat)  (d : kD) (H : Heap) (locs : List Loc) (ls : Array Slot), nn - j0 < n → (i0 ≤ j0) → (j0 ≤ nn) → (MI S d0 d) → (PD d pp er dy nn) → (anyL (fun j => sbV S pp er dy nn ys 1 x (i0 + j)) (j0 - i0) = false) → oW D cA B0 ad d H → va_S (oA B0) s.heap H locs → lv_has ls 14 [(0, .ref (ad.1 40 0)), (1, .long x), (3, .long ys), (5, .int (nI i0)), (6, .int (nI 2)), (7, .long (x &&& ys)), (9, .int (nI j0))] → W p l e (oR 8 0 0) s m ([.ref (ad.1 40 0), .long x, .long ys, .int (nI i0), .int (nI 2)] : List Value).toArray below meth c H locs 0 0 (MQ below (oQi D cA B0 ad (fun r d1 => r = bI (stV S pp er dy nn ys 2 x i0) ∧ MI S d0 d1)) ([.ref (ad.1 40 0), .long x, .long ys, .int (nI i0), .int (nI 2)] : List Value).toArray s 0 0 (oA B0)) (F0 m 32 ls []) := by
          intro n
          induction n with
          | zero => intro j0  d H locs ls hmu; exact absurd hmu (Nat.not_lt_zero _)
          | succ n ih_lp32 =>
            intro j0  d H locs ls hmu hj1 hj2 hI hPD hany hW hS hl
            refine lv_iload hx hb dX10_settled_32 (lv_at hl 6 rfl) ?_
            refine lv_aload_n hx hb dX10_settled_34 rfl (lv_at hl 0 rfl) ?_
            refine mo_gr hx hb hu hown hK hal hW 40 (by decide) uF_X10_250 dX10_settled_35 ?_
            refine n_topi (y := nI nn) (hPD.2.2.1) ?_
            refine n_icmp_ge (tgt := 148) hx hb (by omega) (by omega) dX10_settled_38 (by decide) (fun c_1 => ?_) (fun c_1 => ?_)
            · refine n_iconst (v := 0) hx hb dX10_settled_148 (by decide) ?_
              exact o_zret hx hb hr hlocks (by first | rfl | exact z_bI _ | (split <;> first | rfl | (split <;> rfl))) hW hS (⟨by rw [stV_suc, hb0, show nn - i0 = j0 - i0 by omega, hany]; rfl, hI⟩) dX10_settled_149
            · have hdi := hdy j0 (by omega)
              refine n_iconst (v := 1) hx hb dX10_settled_41 (by decide) ?_
              refine lv_istore (lv' := [(10, .int (nI 1)), (0, .ref (ad.1 40 0)), (1, .long x), (3, .long ys), (5, .int (nI i0)), (6, .int (nI 2)), (7, .long (x &&& ys)), (9, .int (nI j0))]) hx hb dX10_settled_42 hl (by decide) rfl (fun ls hl => ?_)
              refine lv_lload_n hx hb dX10_settled_44 rfl (lv_at hl 2 rfl) ?_
              refine lv_lstore (lv' := [(11, .long x), (10, .int (nI 1)), (0, .ref (ad.1 40 0)), (1, .long x), (3, .long ys), (5, .int (nI i0)), (6, .int (nI 2)), (7, .long (x &&& ys)), (9, .int (nI j0))]) hx hb dX10_settled_45 hl (by decide) rfl (fun ls hl => ?_)
              have lp47 : ∀ (n : Nat) (av : Int32) (o : Int64) (al : Bool) (d : kD) (H : Heap) (locs : List Loc) (ls : Array Slot), popN o < n → (MI S d0 d) → (PD d pp er dy nn) → (av = bI al) → (OS S pp er x (dy j0) (fun y => stV S pp er dy nn ys 1 y (j0 + 1)) al o) → oW D cA B0 ad d H → va_S (oA B0) s.heap H locs → lv_has ls 14 [(0, .ref (ad.1 40 0)), (1, .long x), (3, .long ys), (5, .int (nI i0)), (6, .int (nI 2)), (7, .long (x &&& ys)), (9, .int (nI j0)), (10, .int av), (11, .long o)] → W p l e (oR 8 0 0) s m ([.ref (ad.1 40 0), .long x, .long ys, .int (nI i0), .int (nI 2)] : List Value).toArray below meth c H locs 0 0 (MQ below (oQi D cA B0 ad (fun r d1 => r = bI (stV S pp er dy nn ys 2 x i0) ∧ MI S d0 d1)) ([.ref (ad.1 40 0), .long x, .long ys, .int (nI i0), .int (nI 2)] : List Value).toArray s 0 0 (oA B0)) (F0 m 47 ls []) := by
                intro n
                induction n with
                | zero => intro av o al d H locs ls hmu; exact absurd hmu (Nat.not_lt_zero _)
                | succ n ih_lp47 =>
                  intro av o al d H locs ls hmu hI hPD hav hOS hW hS hl
                  refine lv_lload hx hb dX10_settled_47 (lv_at hl 8 rfl) ?_
                  refine lv_lconst (v := 0) hx hb dX10_settled_49 (by decide) ?_
                  refine W.lcmp hx hb dX10_settled_50 ?_
                  refine lv_if_eq (tgt := 135) hx hb dX10_settled_51 (by decide) (fun c_o => ?_) (fun c_o => ?_)
                  · have hfin := hOS.end (Or.inl (lg0 c_o))
                    refine lv_iload hx hb dX10_settled_135 (lv_at hl 7 rfl) ?_
                    refine lv_if_eq (tgt := 142) hx hb dX10_settled_137 (by decide) (fun c_e => ?_) (fun c_e => ?_)
                    · have hsb : sbV S pp er dy nn ys 1 x j0 = false := hfin.symm.trans (bI_z (hav.symm.trans c_e))
                      refine n_iinc (q := 1) (lv' := [(9, .int (nI (j0 + 1))), (0, .ref (ad.1 40 0)), (1, .long x), (3, .long ys), (5, .int (nI i0)), (6, .int (nI 2)), (7, .long (x &&& ys)), (10, .int av), (11, .long o)]) hx hb dX10_settled_142 hl (k := 6) rfl (by decide) (by decide) rfl (fun ls hl => ?_)
                      refine lv_goto (tgt := 32) hx hb dX10_settled_145 (by decide) ?_
                      exact ih_lp32 (j0 + 1) d _ _ ls (by omega) (by omega) (by omega) hI hPD (by rw [show j0 + 1 - i0 = (j0 - i0) + 1 by omega]; exact anyL_f hany (by show sbV S pp er dy nn ys 1 x (i0 + (j0 - i0)) = false; rw [show i0 + (j0 - i0) = j0 by omega]; exact hsb)) hW hS (lv_sub hl [1, 2, 3, 4, 5, 6, 0] rfl)
                    · have hsb : sbV S pp er dy nn ys 1 x j0 = true := hfin.symm.trans (bI_n (by rw [← hav]; exact c_e))
                      refine n_iconst (v := 1) hx hb dX10_settled_140 (by decide) ?_
                      exact o_zret hx hb hr hlocks (by first | rfl | exact z_bI _ | (split <;> first | rfl | (split <;> rfl))) hW hS (⟨by rw [stV_suc, anyL_t (nn - i0) (j := j0 - i0) (by omega) (by show sbV S pp er dy nn ys 1 x (i0 + (j0 - i0)) = true; rw [show i0 + (j0 - i0) = j0 by omega]; exact hsb), Bool.or_true]; rfl, hI⟩) dX10_settled_141
                  · have ho0 := lg0n c_o
                    obtain ⟨a1, a2, a3⟩ := ntN_ok ho0
                    have hlt := but_lt (S := S) (p := pp) (day := dy j0) ho0
                    refine lv_iload hx hb dX10_settled_54 (lv_at hl 7 rfl) ?_
                    refine lv_if_eq (tgt := 135) hx hb dX10_settled_56 (by decide) (fun c_a => ?_) (fun c_a => ?_)
                    · have hfin := hOS.end (Or.inr (bI_z (hav.symm.trans c_a)))
                      refine lv_iload hx hb dX10_settled_135 (lv_at hl 7 rfl) ?_
                      refine lv_if_eq (tgt := 142) hx hb dX10_settled_137 (by decide) (fun c_e => ?_) (fun c_e => ?_)
                      · have hsb : sbV S pp er dy nn ys 1 x j0 = false := hfin.symm.trans (bI_z (hav.symm.trans c_e))
                        refine n_iinc (q := 1) (lv' := [(9, .int (nI (j0 + 1))), (0, .ref (ad.1 40 0)), (1, .long x), (3, .long ys), (5, .int (nI i0)), (6, .int (nI 2)), (7, .long (x &&& ys)), (10, .int av), (11, .long o)]) hx hb dX10_settled_142 hl (k := 6) rfl (by decide) (by decide) rfl (fun ls hl => ?_)
                        refine lv_goto (tgt := 32) hx hb dX10_settled_145 (by decide) ?_
                        exact ih_lp32 (j0 + 1) d _ _ ls (by omega) (by omega) (by omega) hI hPD (by rw [show j0 + 1 - i0 = (j0 - i0) + 1 by omega]; exact anyL_f hany (by show sbV S pp er dy nn ys 1 x (i0 + (j0 - i0)) = false; rw [show i0 + (j0 - i0) = j0 by omega]; exact hsb)) hW hS (lv_sub hl [1, 2, 3, 4, 5, 6, 0] rfl)
                      · have hsb : sbV S pp er dy nn ys 1 x j0 = true := hfin.symm.trans (bI_n (by rw [← hav]; exact c_e))
                        refine n_iconst (v := 1) hx hb dX10_settled_140 (by decide) ?_
                        exact o_zret hx hb hr hlocks (by first | rfl | exact z_bI _ | (split <;> first | rfl | (split <;> rfl))) hW hS (⟨by rw [stV_suc, anyL_t (nn - i0) (j := j0 - i0) (by omega) (by show sbV S pp er dy nn ys 1 x (i0 + (j0 - i0)) = true; rw [show i0 + (j0 - i0) = j0 by omega]; exact hsb), Bool.or_true]; rfl, hI⟩) dX10_settled_141
                    · have hal1 : al = true := bI_n (by rw [← hav]; exact c_a)
                      rw [hal1] at hOS
                      have hOS := hOS.next a1 a2
                      refine lv_lload hx hb dX10_settled_59 (lv_at hl 8 rfl) ?_
                      refine o_calli (o_runS (As := [.long o]) (rest := []) ⟨hx, hb, hml, hown, hu⟩ (c_J13_numberOfTrailingZeros_95d88 l D cA B0 ad hal d o ho0) (gS_X10_230 (fun _ h => h)) (n0 := 1) rfl (by decide +kernel) rfl ⟨Nat.le_of_ble_eq_true rfl, Nat.le_of_ble_eq_true rfl⟩ hK hW hB hS hl.1 rfl (lv_room (Nat.le_of_ble_eq_true rfl)) ⟨Nat.zero_le _, Nat.zero_le _⟩ dX10_settled_61) hS (fun r_3 d_2 q_4 H locs hW hS => ?_)
                      obtain ⟨rfl, rfl⟩ := q_4
                      refine lv_istore (lv' := [(13, .int (nI (ntN o))), (0, .ref (ad.1 40 0)), (1, .long x), (3, .long ys), (5, .int (nI i0)), (6, .int (nI 2)), (7, .long (x &&& ys)), (9, .int (nI j0)), (10, .int av), (11, .long o)]) hx hb dX10_settled_64 hl (by decide) rfl (fun ls hl => ?_)
                      refine lv_aload_n hx hb dX10_settled_66 rfl (lv_at hl 1 rfl) ?_
                      refine lv_aload_n hx hb dX10_settled_67 rfl (lv_at hl 1 rfl) ?_
                      refine lv_aload_n hx hb dX10_settled_68 rfl (lv_at hl 1 rfl) ?_
                      refine mo_gr hx hb hu hown hK hal hW 42 (by decide) uF_X10_244 dX10_settled_69 ?_
                      refine n_topi (y := nI pp) (hPD.1) ?_
                      refine lv_lload_n hx hb dX10_settled_72 rfl (lv_at hl 2 rfl) ?_
                      refine lv_aload_n hx hb dX10_settled_73 rfl (lv_at hl 1 rfl) ?_
                      refine mo_ga hx hb hu hown hK hal hW 39 (by decide) uF_X10_104 dX10_settled_74 ?_
                      refine lv_iload hx hb dX10_settled_77 (lv_at hl 7 rfl) ?_
                      refine mo_lr hx hb hK hal hW 39 (n := 6) (by decide) (by omega) dX10_settled_79 ?_
                      refine n_topi (y := nI (dy j0)) (hPD.2.2.2 j0 (by omega)) ?_
                      refine lv_aload_n hx hb dX10_settled_80 rfl (lv_at hl 1 rfl) ?_
                      refine mo_gr hx hb hu hown hK hal hW 41 (by decide) uF_X10_247 dX10_settled_81 ?_
                      refine n_topi (y := nI er) (hPD.2.1) ?_
                      refine lv_iload hx hb dX10_settled_84 (lv_at hl 0 rfl) ?_
                      refine o_calll (o_runV (As := [.int (nI pp), .long x, .int (nI (dy j0)), .int (nI er), .int (nI (ntN o))]) (rest := [.ref (ad.1 40 0)]) ⟨hx, hb, hml, hown, hu⟩ (c_X10_left l D cA B0 ad hal S d hI.1 pp x (dy j0) er (ntN o) (by omega) (by omega) (by omega) (by omega)) (gV_X10_233 (fun _ h => h)) (n0 := 5) rfl (by decide +kernel) rfl ⟨Nat.le_of_ble_eq_true rfl, Nat.le_of_ble_eq_true rfl⟩ (o_recv hK hW hal.1 (kC_M _ _ _) rfl) hK hW hB hS hl.1 rfl (lv_room (Nat.le_of_ble_eq_true rfl)) ⟨Nat.zero_le _, Nat.zero_le _⟩ dX10_settled_86) hS (fun r_6 d_5 q_7 H locs hW hS => ?_)
                      obtain ⟨rfl, hq⟩ := q_7
                      have hI := hI.trans hq
                      have hPD := hPD.mi hq
                      refine lv_lload_n hx hb dX10_settled_89 rfl (lv_at hl 3 rfl) ?_
                      refine lv_iload hx hb dX10_settled_90 (lv_at hl 7 rfl) ?_
                      refine n_iconst (v := 1) hx hb dX10_settled_92 (by decide) ?_
                      refine n_iadd hx hb dX10_settled_93 ?_
                      refine lv_iload hx hb dX10_settled_94 (lv_at hl 5 rfl) ?_
                      refine n_iconst (v := 1) hx hb dX10_settled_96 (by decide) ?_
                      refine n_isub hx hb (by omega) dX10_settled_97 ?_
                      refine n_top (b := 1) (rfl) ?_
                      refine o_calli (o_runV (As := [.long (sLeft S pp x (dy j0) er (ntN o)), .long ys, .int (nI (j0 + 1)), .int (nI 1)]) (rest := []) ⟨hx, hb, hml, hown, hu⟩ (c_X10_settled_1 l D cA B0 ad hal S d_5 hI.1 pp er nn dy hPD hp her hn6 hdy (sLeft S pp x (dy j0) er (ntN o)) ys (j0 + 1) (by omega)) (gV_X10_268 (fun _ h => h)) (n0 := 4) rfl (by decide +kernel) rfl ⟨Nat.le_of_ble_eq_true rfl, Nat.le_of_ble_eq_true rfl⟩ (o_recv hK hW hal.1 (kC_M _ _ _) rfl) hK hW hB hS hl.1 rfl (lv_room (Nat.le_of_ble_eq_true rfl)) ⟨Nat.zero_le _, Nat.zero_le _⟩ dX10_settled_98) hS (fun r_9 d_8 q_10 H locs hW hS => ?_)
                      obtain ⟨rfl, hq⟩ := q_10
                      have hI := hI.trans hq
                      have hPD := hPD.mi hq
                      refine lv_istore (lv' := [(10, .int (bI (stV S pp er dy nn ys 1 (sLeft S pp x (dy j0) er (ntN o)) (j0 + 1)))), (13, .int (nI (ntN o))), (0, .ref (ad.1 40 0)), (1, .long x), (3, .long ys), (5, .int (nI i0)), (6, .int (nI 2)), (7, .long (x &&& ys)), (9, .int (nI j0)), (11, .long o)]) hx hb dX10_settled_101 hl (by decide) rfl (fun ls hl => ?_)
                      refine lv_lload hx hb dX10_settled_103 (lv_at hl 9 rfl) ?_
                      refine lv_aload_n hx hb dX10_settled_105 rfl (lv_at hl 2 rfl) ?_
                      refine lv_aload_n hx hb dX10_settled_106 rfl (lv_at hl 2 rfl) ?_
                      refine mo_gr hx hb hu hown hK hal hW 42 (by decide) uF_X10_244 dX10_settled_107 ?_
                      refine n_topi (y := nI pp) (hPD.1) ?_
                      refine lv_lload hx hb dX10_settled_110 (lv_at hl 9 rfl) ?_
                      refine lv_aload_n hx hb dX10_settled_112 rfl (lv_at hl 2 rfl) ?_
                      refine mo_ga hx hb hu hown hK hal hW 39 (by decide) uF_X10_104 dX10_settled_113 ?_
                      refine lv_iload hx hb dX10_settled_116 (lv_at hl 8 rfl) ?_
                      refine mo_lr hx hb hK hal hW 39 (n := 6) (by decide) (by omega) dX10_settled_118 ?_
                      refine n_topi (y := nI (dy j0)) (hPD.2.2.2 j0 (by omega)) ?_
                      refine n_iconst (v := 0) hx hb dX10_settled_119 (by decide) ?_
                      refine lv_iload hx hb dX10_settled_120 (lv_at hl 1 rfl) ?_
                      refine o_calll (o_runV (As := [.int (nI pp), .long o, .int (nI (dy j0)), .int (nI 0), .int (nI (ntN o))]) (rest := [.long o]) ⟨hx, hb, hml, hown, hu⟩ (c_X10_left l D cA B0 ad hal S d_8 hI.1 pp o (dy j0) 0 (ntN o) (by omega) (by omega) (by omega) (by omega)) (gV_X10_233 (fun _ h => h)) (n0 := 5) rfl (by decide +kernel) rfl ⟨Nat.le_of_ble_eq_true rfl, Nat.le_of_ble_eq_true rfl⟩ (o_recv hK hW hal.1 (kC_M _ _ _) rfl) hK hW hB hS hl.1 rfl (lv_room (Nat.le_of_ble_eq_true rfl)) ⟨Nat.zero_le _, Nat.zero_le _⟩ dX10_settled_122) hS (fun r_12 d_11 q_13 H locs hW hS => ?_)
                      obtain ⟨rfl, hq⟩ := q_13
                      have hI := hI.trans hq
                      have hPD := hPD.mi hq
                      refine lv_ldc2 (v := (-1)) hx hb hown (hu _ uK_X10_183) dX10_settled_125 ?_
                      refine lv_lxor hx hb dX10_settled_128 ?_
                      refine lv_land hx hb dX10_settled_129 ?_
                      refine lv_lstore (lv' := [(11, .long (o &&& ((sLeft S pp o (dy j0) 0 (ntN o)) ^^^ (-1)))), (10, .int (bI (stV S pp er dy nn ys 1 (sLeft S pp x (dy j0) er (ntN o)) (j0 + 1)))), (13, .int (nI (ntN o))), (0, .ref (ad.1 40 0)), (1, .long x), (3, .long ys), (5, .int (nI i0)), (6, .int (nI 2)), (7, .long (x &&& ys)), (9, .int (nI j0))]) hx hb dX10_settled_130 hl (by decide) rfl (fun ls hl => ?_)
                      refine lv_goto (tgt := 47) hx hb dX10_settled_132 (by decide) ?_
                      exact ih_lp47 (bI (stV S pp er dy nn ys 1 (sLeft S pp x (dy j0) er (ntN o)) (j0 + 1))) (o &&& ((sLeft S pp o (dy j0) 0 (ntN o)) ^^^ (-1))) (stV S pp er dy nn ys 1 (sLeft S pp x (dy j0) er (ntN o)) (j0 + 1)) d_11 _ _ ls (by omega) hI hPD rfl hOS hW hS (lv_sub hl [3, 4, 5, 6, 7, 8, 9, 1, 0] rfl)
              exact lp47 (65) (nI 1) x true d _ _ ls (by omega) hI hPD (by decide) (OS.start S pp er x (dy j0) _) hW hS (lv_sub hl [2, 3, 4, 5, 6, 7, 8, 1, 0] rfl)
        exact lp32 (nn + 1) i0 d0 _ _ ls (by omega) (by omega) (by omega) hI hPD (by rw [Nat.sub_self]; rfl) hW hS (lv_sub hl [2, 3, 4, 5, 6, 1, 0] rfl)
      · exfalso; omega
    · have hb0 : stB ys x = true := stB_t (Or.inr (lgc c_2))
      refine n_iconst (v := 1) hx hb dX10_settled_19 (by decide) ?_
      exact o_zret hx hb hr hlocks (by first | rfl | exact z_bI _ | (split <;> first | rfl | (split <;> rfl))) hW hS (⟨by rw [stV_suc, hb0, Bool.true_or]; rfl, hI⟩) dX10_settled_20

set_option maxHeartbeats 400000 in
set_option maxRecDepth 100000 in
theorem c_X10_settled_3 (l : Launch) (D : va_G) (cA : Nat → ClassId) (B0 : Nat) (ad : kA) (hal : mAl ad) (S : sS) (d0 : kD) (hM : InvM S d0) (pp er nn : Nat) (dy : Nat → Nat) (hPD : PD d0 pp er dy nn) (hp : pp < S 7 0) (her : er ≤ 50) (hn6 : nn ≤ 6) (hdy : ∀ i, i < nn → dy i < 400) (x ys : Int64) (i0 : Nat) (hi0 : i0 ≤ nn) : oM l yX10_settled wX10_settled 9 0 0 D cA B0 ad d0 ([.ref (ad.1 40 0), .long x, .long ys, .int (nI i0), .int (nI 3)] : List Value) (oQi D cA B0 ad (fun r d1 => r = bI (stV S pp er dy nn ys 3 x i0) ∧ MI S d0 d1)) := by
  refine o_ofW (cc := cX10_settled) (maxL := 14) (ret := some .boolean) (by decide) rfl (Nat.le_of_ble_eq_true rfl) ?_
  intro p e s m below meth c hx hb hr hml hts hown hlocks hnm hK hW hB hS ls hl
  have hu : ∀ w ∈ UW, w.before _ s = true := fun w h => hts w (uw_c w h)
  have hl : lv_has ls 14 [(0, .ref (ad.1 40 0)), (1, .long x), (3, .long ys), (5, .int (nI i0)), (6, .int (nI 3))] := hl
  have hI : MI S d0 d0 := MI.start hM
  have hG : sG S := hM.2.1
  have hb7 : S 7 0 ≤ 8 := hG.f 7 (mx := 8) (by decide)
  have hb18 : S 18 0 ≤ 40 := hG.f 18 (mx := 40) (by decide)
  have hpx := popN_le x
  refine lv_lload_n hx hb dX10_settled_0 rfl (lv_at hl 1 rfl) ?_
  refine lv_lload_n hx hb dX10_settled_1 rfl (lv_at hl 2 rfl) ?_
  refine lv_land hx hb dX10_settled_2 ?_
  refine lv_lstore (lv' := [(7, .long (x &&& ys)), (0, .ref (ad.1 40 0)), (1, .long x), (3, .long ys), (5, .int (nI i0)), (6, .int (nI 3))]) hx hb dX10_settled_3 hl (by decide) rfl (fun ls hl => ?_)
  refine lv_lload hx hb dX10_settled_5 (lv_at hl 0 rfl) ?_
  refine lv_lconst (v := 0) hx hb dX10_settled_7 (by decide) ?_
  refine W.lcmp hx hb dX10_settled_8 ?_
  refine lv_if_eq (tgt := 19) hx hb dX10_settled_9 (by decide) (fun c_1 => ?_) (fun c_1 => ?_)
  · have hb0 : stB ys x = true := stB_t (Or.inl (lgc c_1))
    refine n_iconst (v := 1) hx hb dX10_settled_19 (by decide) ?_
    exact o_zret hx hb hr hlocks (by first | rfl | exact z_bI _ | (split <;> first | rfl | (split <;> rfl))) hW hS (⟨by rw [stV_suc, hb0, Bool.true_or]; rfl, hI⟩) dX10_settled_20
  · refine lv_lload hx hb dX10_settled_12 (lv_at hl 0 rfl) ?_
    refine lv_lload_n hx hb dX10_settled_14 rfl (lv_at hl 2 rfl) ?_
    refine W.lcmp hx hb dX10_settled_15 ?_
    refine lv_if_ne (tgt := 21) hx hb dX10_settled_16 (by decide) (fun c_2 => ?_) (fun c_2 => ?_)
    · have hb0 : stB ys x = false := stB_f (lgcn c_1) (lgcn c_2)
      refine lv_iload hx hb dX10_settled_21 (lv_at hl 5 rfl) ?_
      refine n_if_ne (tgt := 28) hx hb (by omega) dX10_settled_23 (by decide) (fun c_k => ?_) (fun c_k => ?_)
      · refine lv_iload hx hb dX10_settled_28 (lv_at hl 4 rfl) ?_
        refine lv_istore (lv' := [(9, .int (nI i0)), (7, .long (x &&& ys)), (0, .ref (ad.1 40 0)), (1, .long x), (3, .long ys), (5, .int (nI i0)), (6, .int (nI 3))]) hx hb dX10_settled_30 hl (by decide) rfl (fun ls hl => ?_)
        have lp32 : ∀ (n : Nat) (j0 : Nat)  (d : kD) (H : Heap) (locs : List Loc) (ls : Array Slot), nn - j0 < n → (i0 ≤ j0) → (j0 ≤ nn) → (MI S d0 d) → (PD d pp er dy nn) → (anyL (fun j => sbV S pp er dy nn ys 2 x (i0 + j)) (j0 - i0) = false) → oW D cA B0 ad d H → va_S (oA B0) s.heap H locs → lv_has ls 14 [(0, .ref (ad.1 40 0)), (1, .long x), (3, .long ys), (5, .int (nI i0)), (6, .int (nI 3)), (7, .long (x &&& ys)), (9, .int (nI j0))] → W p l e (oR 9 0 0) s m ([.ref (ad.1 40 0), .long x, .long ys, .int (nI i0), .int (nI 3)] : List Value).toArray below meth c H locs 0 0 (MQ below (oQi D cA B0 ad (fun r d1 => r = bI (stV S pp er dy nn ys 3 x i0) ∧ MI S d0 d1)) ([.ref (ad.1 40 0), .long x, .long ys, .int (nI i0), .int (nI 3)] : List Value).toArray s 0 0 (oA B0)) (F0 m 32 ls []) := by
          intro n
          induction n with
          | zero => intro j0  d H locs ls hmu; exact absurd hmu (Nat.not_lt_zero _)
          | succ n ih_lp32 =>
            intro j0  d H locs ls hmu hj1 hj2 hI hPD hany hW hS hl
            refine lv_iload hx hb dX10_settled_32 (lv_at hl 6 rfl) ?_
            refine lv_aload_n hx hb dX10_settled_34 rfl (lv_at hl 0 rfl) ?_
            refine mo_gr hx hb hu hown hK hal hW 40 (by decide) uF_X10_250 dX10_settled_35 ?_
            refine n_topi (y := nI nn) (hPD.2.2.1) ?_
            refine n_icmp_ge (tgt := 148) hx hb (by omega) (by omega) dX10_settled_38 (by decide) (fun c_1 => ?_) (fun c_1 => ?_)
            · refine n_iconst (v := 0) hx hb dX10_settled_148 (by decide) ?_
              exact o_zret hx hb hr hlocks (by first | rfl | exact z_bI _ | (split <;> first | rfl | (split <;> rfl))) hW hS (⟨by rw [stV_suc, hb0, show nn - i0 = j0 - i0 by omega, hany]; rfl, hI⟩) dX10_settled_149
            · have hdi := hdy j0 (by omega)
              refine n_iconst (v := 1) hx hb dX10_settled_41 (by decide) ?_
              refine lv_istore (lv' := [(10, .int (nI 1)), (0, .ref (ad.1 40 0)), (1, .long x), (3, .long ys), (5, .int (nI i0)), (6, .int (nI 3)), (7, .long (x &&& ys)), (9, .int (nI j0))]) hx hb dX10_settled_42 hl (by decide) rfl (fun ls hl => ?_)
              refine lv_lload_n hx hb dX10_settled_44 rfl (lv_at hl 2 rfl) ?_
              refine lv_lstore (lv' := [(11, .long x), (10, .int (nI 1)), (0, .ref (ad.1 40 0)), (1, .long x), (3, .long ys), (5, .int (nI i0)), (6, .int (nI 3)), (7, .long (x &&& ys)), (9, .int (nI j0))]) hx hb dX10_settled_45 hl (by decide) rfl (fun ls hl => ?_)
              have lp47 : ∀ (n : Nat) (av : Int32) (o : Int64) (al : Bool) (d : kD) (H : Heap) (locs : List Loc) (ls : Array Slot), popN o < n → (MI S d0 d) → (PD d pp er dy nn) → (av = bI al) → (OS S pp er x (dy j0) (fun y => stV S pp er dy nn ys 2 y (j0 + 1)) al o) → oW D cA B0 ad d H → va_S (oA B0) s.heap H locs → lv_has ls 14 [(0, .ref (ad.1 40 0)), (1, .long x), (3, .long ys), (5, .int (nI i0)), (6, .int (nI 3)), (7, .long (x &&& ys)), (9, .int (nI j0)), (10, .int av), (11, .long o)] → W p l e (oR 9 0 0) s m ([.ref (ad.1 40 0), .long x, .long ys, .int (nI i0), .int (nI 3)] : List Value).toArray below meth c H locs 0 0 (MQ below (oQi D cA B0 ad (fun r d1 => r = bI (stV S pp er dy nn ys 3 x i0) ∧ MI S d0 d1)) ([.ref (ad.1 40 0), .long x, .long ys, .int (nI i0), .int (nI 3)] : List Value).toArray s 0 0 (oA B0)) (F0 m 47 ls []) := by
                intro n
                induction n with
                | zero => intro av o al d H locs ls hmu; exact absurd hmu (Nat.not_lt_zero _)
                | succ n ih_lp47 =>
                  intro av o al d H locs ls hmu hI hPD hav hOS hW hS hl
                  refine lv_lload hx hb dX10_settled_47 (lv_at hl 8 rfl) ?_
                  refine lv_lconst (v := 0) hx hb dX10_settled_49 (by decide) ?_
                  refine W.lcmp hx hb dX10_settled_50 ?_
                  refine lv_if_eq (tgt := 135) hx hb dX10_settled_51 (by decide) (fun c_o => ?_) (fun c_o => ?_)
                  · have hfin := hOS.end (Or.inl (lg0 c_o))
                    refine lv_iload hx hb dX10_settled_135 (lv_at hl 7 rfl) ?_
                    refine lv_if_eq (tgt := 142) hx hb dX10_settled_137 (by decide) (fun c_e => ?_) (fun c_e => ?_)
                    · have hsb : sbV S pp er dy nn ys 2 x j0 = false := hfin.symm.trans (bI_z (hav.symm.trans c_e))
                      refine n_iinc (q := 1) (lv' := [(9, .int (nI (j0 + 1))), (0, .ref (ad.1 40 0)), (1, .long x), (3, .long ys), (5, .int (nI i0)), (6, .int (nI 3)), (7, .long (x &&& ys)), (10, .int av), (11, .long o)]) hx hb dX10_settled_142 hl (k := 6) rfl (by decide) (by decide) rfl (fun ls hl => ?_)
                      refine lv_goto (tgt := 32) hx hb dX10_settled_145 (by decide) ?_
                      exact ih_lp32 (j0 + 1) d _ _ ls (by omega) (by omega) (by omega) hI hPD (by rw [show j0 + 1 - i0 = (j0 - i0) + 1 by omega]; exact anyL_f hany (by show sbV S pp er dy nn ys 2 x (i0 + (j0 - i0)) = false; rw [show i0 + (j0 - i0) = j0 by omega]; exact hsb)) hW hS (lv_sub hl [1, 2, 3, 4, 5, 6, 0] rfl)
                    · have hsb : sbV S pp er dy nn ys 2 x j0 = true := hfin.symm.trans (bI_n (by rw [← hav]; exact c_e))
                      refine n_iconst (v := 1) hx hb dX10_settled_140 (by decide) ?_
                      exact o_zret hx hb hr hlocks (by first | rfl | exact z_bI _ | (split <;> first | rfl | (split <;> rfl))) hW hS (⟨by rw [stV_suc, anyL_t (nn - i0) (j := j0 - i0) (by omega) (by show sbV S pp er dy nn ys 2 x (i0 + (j0 - i0)) = true; rw [show i0 + (j0 - i0) = j0 by omega]; exact hsb), Bool.or_true]; rfl, hI⟩) dX10_settled_141
                  · have ho0 := lg0n c_o
                    obtain ⟨a1, a2, a3⟩ := ntN_ok ho0
                    have hlt := but_lt (S := S) (p := pp) (day := dy j0) ho0
                    refine lv_iload hx hb dX10_settled_54 (lv_at hl 7 rfl) ?_
                    refine lv_if_eq (tgt := 135) hx hb dX10_settled_56 (by decide) (fun c_a => ?_) (fun c_a => ?_)
                    · have hfin := hOS.end (Or.inr (bI_z (hav.symm.trans c_a)))
                      refine lv_iload hx hb dX10_settled_135 (lv_at hl 7 rfl) ?_
                      refine lv_if_eq (tgt := 142) hx hb dX10_settled_137 (by decide) (fun c_e => ?_) (fun c_e => ?_)
                      · have hsb : sbV S pp er dy nn ys 2 x j0 = false := hfin.symm.trans (bI_z (hav.symm.trans c_e))
                        refine n_iinc (q := 1) (lv' := [(9, .int (nI (j0 + 1))), (0, .ref (ad.1 40 0)), (1, .long x), (3, .long ys), (5, .int (nI i0)), (6, .int (nI 3)), (7, .long (x &&& ys)), (10, .int av), (11, .long o)]) hx hb dX10_settled_142 hl (k := 6) rfl (by decide) (by decide) rfl (fun ls hl => ?_)
                        refine lv_goto (tgt := 32) hx hb dX10_settled_145 (by decide) ?_
                        exact ih_lp32 (j0 + 1) d _ _ ls (by omega) (by omega) (by omega) hI hPD (by rw [show j0 + 1 - i0 = (j0 - i0) + 1 by omega]; exact anyL_f hany (by show sbV S pp er dy nn ys 2 x (i0 + (j0 - i0)) = false; rw [show i0 + (j0 - i0) = j0 by omega]; exact hsb)) hW hS (lv_sub hl [1, 2, 3, 4, 5, 6, 0] rfl)
                      · have hsb : sbV S pp er dy nn ys 2 x j0 = true := hfin.symm.trans (bI_n (by rw [← hav]; exact c_e))
                        refine n_iconst (v := 1) hx hb dX10_settled_140 (by decide) ?_
                        exact o_zret hx hb hr hlocks (by first | rfl | exact z_bI _ | (split <;> first | rfl | (split <;> rfl))) hW hS (⟨by rw [stV_suc, anyL_t (nn - i0) (j := j0 - i0) (by omega) (by show sbV S pp er dy nn ys 2 x (i0 + (j0 - i0)) = true; rw [show i0 + (j0 - i0) = j0 by omega]; exact hsb), Bool.or_true]; rfl, hI⟩) dX10_settled_141
                    · have hal1 : al = true := bI_n (by rw [← hav]; exact c_a)
                      rw [hal1] at hOS
                      have hOS := hOS.next a1 a2
                      refine lv_lload hx hb dX10_settled_59 (lv_at hl 8 rfl) ?_
                      refine o_calli (o_runS (As := [.long o]) (rest := []) ⟨hx, hb, hml, hown, hu⟩ (c_J13_numberOfTrailingZeros_95d88 l D cA B0 ad hal d o ho0) (gS_X10_230 (fun _ h => h)) (n0 := 1) rfl (by decide +kernel) rfl ⟨Nat.le_of_ble_eq_true rfl, Nat.le_of_ble_eq_true rfl⟩ hK hW hB hS hl.1 rfl (lv_room (Nat.le_of_ble_eq_true rfl)) ⟨Nat.zero_le _, Nat.zero_le _⟩ dX10_settled_61) hS (fun r_3 d_2 q_4 H locs hW hS => ?_)
                      obtain ⟨rfl, rfl⟩ := q_4
                      refine lv_istore (lv' := [(13, .int (nI (ntN o))), (0, .ref (ad.1 40 0)), (1, .long x), (3, .long ys), (5, .int (nI i0)), (6, .int (nI 3)), (7, .long (x &&& ys)), (9, .int (nI j0)), (10, .int av), (11, .long o)]) hx hb dX10_settled_64 hl (by decide) rfl (fun ls hl => ?_)
                      refine lv_aload_n hx hb dX10_settled_66 rfl (lv_at hl 1 rfl) ?_
                      refine lv_aload_n hx hb dX10_settled_67 rfl (lv_at hl 1 rfl) ?_
                      refine lv_aload_n hx hb dX10_settled_68 rfl (lv_at hl 1 rfl) ?_
                      refine mo_gr hx hb hu hown hK hal hW 42 (by decide) uF_X10_244 dX10_settled_69 ?_
                      refine n_topi (y := nI pp) (hPD.1) ?_
                      refine lv_lload_n hx hb dX10_settled_72 rfl (lv_at hl 2 rfl) ?_
                      refine lv_aload_n hx hb dX10_settled_73 rfl (lv_at hl 1 rfl) ?_
                      refine mo_ga hx hb hu hown hK hal hW 39 (by decide) uF_X10_104 dX10_settled_74 ?_
                      refine lv_iload hx hb dX10_settled_77 (lv_at hl 7 rfl) ?_
                      refine mo_lr hx hb hK hal hW 39 (n := 6) (by decide) (by omega) dX10_settled_79 ?_
                      refine n_topi (y := nI (dy j0)) (hPD.2.2.2 j0 (by omega)) ?_
                      refine lv_aload_n hx hb dX10_settled_80 rfl (lv_at hl 1 rfl) ?_
                      refine mo_gr hx hb hu hown hK hal hW 41 (by decide) uF_X10_247 dX10_settled_81 ?_
                      refine n_topi (y := nI er) (hPD.2.1) ?_
                      refine lv_iload hx hb dX10_settled_84 (lv_at hl 0 rfl) ?_
                      refine o_calll (o_runV (As := [.int (nI pp), .long x, .int (nI (dy j0)), .int (nI er), .int (nI (ntN o))]) (rest := [.ref (ad.1 40 0)]) ⟨hx, hb, hml, hown, hu⟩ (c_X10_left l D cA B0 ad hal S d hI.1 pp x (dy j0) er (ntN o) (by omega) (by omega) (by omega) (by omega)) (gV_X10_233 (fun _ h => h)) (n0 := 5) rfl (by decide +kernel) rfl ⟨Nat.le_of_ble_eq_true rfl, Nat.le_of_ble_eq_true rfl⟩ (o_recv hK hW hal.1 (kC_M _ _ _) rfl) hK hW hB hS hl.1 rfl (lv_room (Nat.le_of_ble_eq_true rfl)) ⟨Nat.zero_le _, Nat.zero_le _⟩ dX10_settled_86) hS (fun r_6 d_5 q_7 H locs hW hS => ?_)
                      obtain ⟨rfl, hq⟩ := q_7
                      have hI := hI.trans hq
                      have hPD := hPD.mi hq
                      refine lv_lload_n hx hb dX10_settled_89 rfl (lv_at hl 3 rfl) ?_
                      refine lv_iload hx hb dX10_settled_90 (lv_at hl 7 rfl) ?_
                      refine n_iconst (v := 1) hx hb dX10_settled_92 (by decide) ?_
                      refine n_iadd hx hb dX10_settled_93 ?_
                      refine lv_iload hx hb dX10_settled_94 (lv_at hl 5 rfl) ?_
                      refine n_iconst (v := 1) hx hb dX10_settled_96 (by decide) ?_
                      refine n_isub hx hb (by omega) dX10_settled_97 ?_
                      refine n_top (b := 2) (rfl) ?_
                      refine o_calli (o_runV (As := [.long (sLeft S pp x (dy j0) er (ntN o)), .long ys, .int (nI (j0 + 1)), .int (nI 2)]) (rest := []) ⟨hx, hb, hml, hown, hu⟩ (c_X10_settled_2 l D cA B0 ad hal S d_5 hI.1 pp er nn dy hPD hp her hn6 hdy (sLeft S pp x (dy j0) er (ntN o)) ys (j0 + 1) (by omega)) (gV_X10_268 (fun _ h => h)) (n0 := 4) rfl (by decide +kernel) rfl ⟨Nat.le_of_ble_eq_true rfl, Nat.le_of_ble_eq_true rfl⟩ (o_recv hK hW hal.1 (kC_M _ _ _) rfl) hK hW hB hS hl.1 rfl (lv_room (Nat.le_of_ble_eq_true rfl)) ⟨Nat.zero_le _, Nat.zero_le _⟩ dX10_settled_98) hS (fun r_9 d_8 q_10 H locs hW hS => ?_)
                      obtain ⟨rfl, hq⟩ := q_10
                      have hI := hI.trans hq
                      have hPD := hPD.mi hq
                      refine lv_istore (lv' := [(10, .int (bI (stV S pp er dy nn ys 2 (sLeft S pp x (dy j0) er (ntN o)) (j0 + 1)))), (13, .int (nI (ntN o))), (0, .ref (ad.1 40 0)), (1, .long x), (3, .long ys), (5, .int (nI i0)), (6, .int (nI 3)), (7, .long (x &&& ys)), (9, .int (nI j0)), (11, .long o)]) hx hb dX10_settled_101 hl (by decide) rfl (fun ls hl => ?_)
                      refine lv_lload hx hb dX10_settled_103 (lv_at hl 9 rfl) ?_
                      refine lv_aload_n hx hb dX10_settled_105 rfl (lv_at hl 2 rfl) ?_
                      refine lv_aload_n hx hb dX10_settled_106 rfl (lv_at hl 2 rfl) ?_
                      refine mo_gr hx hb hu hown hK hal hW 42 (by decide) uF_X10_244 dX10_settled_107 ?_
                      refine n_topi (y := nI pp) (hPD.1) ?_
                      refine lv_lload hx hb dX10_settled_110 (lv_at hl 9 rfl) ?_
                      refine lv_aload_n hx hb dX10_settled_112 rfl (lv_at hl 2 rfl) ?_
                      refine mo_ga hx hb hu hown hK hal hW 39 (by decide) uF_X10_104 dX10_settled_113 ?_
                      refine lv_iload hx hb dX10_settled_116 (lv_at hl 8 rfl) ?_
                      refine mo_lr hx hb hK hal hW 39 (n := 6) (by decide) (by omega) dX10_settled_118 ?_
                      refine n_topi (y := nI (dy j0)) (hPD.2.2.2 j0 (by omega)) ?_
                      refine n_iconst (v := 0) hx hb dX10_settled_119 (by decide) ?_
                      refine lv_iload hx hb dX10_settled_120 (lv_at hl 1 rfl) ?_
                      refine o_calll (o_runV (As := [.int (nI pp), .long o, .int (nI (dy j0)), .int (nI 0), .int (nI (ntN o))]) (rest := [.long o]) ⟨hx, hb, hml, hown, hu⟩ (c_X10_left l D cA B0 ad hal S d_8 hI.1 pp o (dy j0) 0 (ntN o) (by omega) (by omega) (by omega) (by omega)) (gV_X10_233 (fun _ h => h)) (n0 := 5) rfl (by decide +kernel) rfl ⟨Nat.le_of_ble_eq_true rfl, Nat.le_of_ble_eq_true rfl⟩ (o_recv hK hW hal.1 (kC_M _ _ _) rfl) hK hW hB hS hl.1 rfl (lv_room (Nat.le_of_ble_eq_true rfl)) ⟨Nat.zero_le _, Nat.zero_le _⟩ dX10_settled_122) hS (fun r_12 d_11 q_13 H locs hW hS => ?_)
                      obtain ⟨rfl, hq⟩ := q_13
                      have hI := hI.trans hq
                      have hPD := hPD.mi hq
                      refine lv_ldc2 (v := (-1)) hx hb hown (hu _ uK_X10_183) dX10_settled_125 ?_
                      refine lv_lxor hx hb dX10_settled_128 ?_
                      refine lv_land hx hb dX10_settled_129 ?_
                      refine lv_lstore (lv' := [(11, .long (o &&& ((sLeft S pp o (dy j0) 0 (ntN o)) ^^^ (-1)))), (10, .int (bI (stV S pp er dy nn ys 2 (sLeft S pp x (dy j0) er (ntN o)) (j0 + 1)))), (13, .int (nI (ntN o))), (0, .ref (ad.1 40 0)), (1, .long x), (3, .long ys), (5, .int (nI i0)), (6, .int (nI 3)), (7, .long (x &&& ys)), (9, .int (nI j0))]) hx hb dX10_settled_130 hl (by decide) rfl (fun ls hl => ?_)
                      refine lv_goto (tgt := 47) hx hb dX10_settled_132 (by decide) ?_
                      exact ih_lp47 (bI (stV S pp er dy nn ys 2 (sLeft S pp x (dy j0) er (ntN o)) (j0 + 1))) (o &&& ((sLeft S pp o (dy j0) 0 (ntN o)) ^^^ (-1))) (stV S pp er dy nn ys 2 (sLeft S pp x (dy j0) er (ntN o)) (j0 + 1)) d_11 _ _ ls (by omega) hI hPD rfl hOS hW hS (lv_sub hl [3, 4, 5, 6, 7, 8, 9, 1, 0] rfl)
              exact lp47 (65) (nI 1) x true d _ _ ls (by omega) hI hPD (by decide) (OS.start S pp er x (dy j0) _) hW hS (lv_sub hl [2, 3, 4, 5, 6, 7, 8, 1, 0] rfl)
        exact lp32 (nn + 1) i0 d0 _ _ ls (by omega) (by omega) (by omega) hI hPD (by rw [Nat.sub_self]; rfl) hW hS (lv_sub hl [2, 3, 4, 5, 6, 1, 0] rfl)
      · exfalso; omega
    · have hb0 : stB ys x = true := stB_t (Or.inr (lgc c_2))
      refine n_iconst (v := 1) hx hb dX10_settled_19 (by decide) ?_
      exact o_zret hx hb hr hlocks (by first | rfl | exact z_bI _ | (split <;> first | rfl | (split <;> rfl))) hW hS (⟨by rw [stV_suc, hb0, Bool.true_or]; rfl, hI⟩) dX10_settled_20

set_option maxHeartbeats 400000 in
set_option maxRecDepth 100000 in
theorem c_X10_settles (l : Launch) (D : va_G) (cA : Nat → ClassId) (B0 : Nat) (ad : kA) (hal : mAl ad) (S : sS) (sr : Nat → Int32) (d0 : kD) (hM : InvM S d0) (hR : RowM S sr d0) (pi qi day ai bi ni ei : Int32) : oM l yX10_settles wX10_settles 10 0 0 D cA B0 ad d0 ([.ref (ad.1 40 0), .int pi, .int qi, .int day, .int ai, .int bi, .int ni, .int ei] : List Value) (oQi D cA B0 ad (fun r d1 => r = aSettles S pi qi day ai bi ni ei ∧ PI S sr d0 d1)) := by
  refine o_ofW (cc := cX10_settles) (maxL := 13) (ret := some .int) (by decide) rfl (Nat.le_of_ble_eq_true rfl) ?_
  intro p e s m below meth c hx hb hr hml hts hown hlocks hnm hK hW hB hS ls hl
  have hu : ∀ w ∈ UW, w.before _ s = true := fun w h => hts w (uw_c w h)
  have hl : lv_has ls 13 [(0, .ref (ad.1 40 0)), (1, .int pi), (2, .int qi), (3, .int day), (4, .int ai), (5, .int bi), (6, .int ni), (7, .int ei)] := hl
  refine lv_aload_n hx hb dX10_settles_0 rfl (lv_at hl 0 rfl) ?_
  refine n_iconst (v := 0) hx hb dX10_settles_1 (by decide) ?_
  refine mo_pi hx hb hu hown hK hal hW hS 33 (by decide +kernel) uF_X10_113 dX10_settles_2 (fun H locs hW hS => ?_)
  have hI : MI S (uI d0 40 0 33 (nI 0)) (uI d0 40 0 33 (nI 0)) := MI.start (hM.thr 33 _ rfl)
  have hG : sG S := hM.2.1
  have hb1 : S 1 0 ≤ 4 := hG.f 1 (mx := 4) (by decide)
  have hb7 : S 7 0 ≤ 8 := hG.f 7 (mx := 8) (by decide)
  have hb11 : S 11 0 ≤ 20 := hG.f 11 (mx := 20) (by decide)
  have hb18 : S 18 0 ≤ 40 := hG.f 18 (mx := 40) (by decide)
  have hb19 : S 19 0 ≤ 399 := hG.f 19 (mx := 399) (by decide)
  have hb22 : S 22 0 ≤ 64 := hG.f 22 (mx := 64) (by decide)
  have hb25 : S 25 0 ≤ 4 := hG.f 25 (mx := 4) (by decide)
  have hb30 : S 30 0 ≤ 10 := hG.f 30 (mx := 10) (by decide)
  have hb32 : S 32 0 ≤ 64 := hG.f 32 (mx := 64) (by decide)
  refine lv_aload_n hx hb dX10_settles_5 rfl (lv_at hl 0 rfl) ?_
  refine lv_iload_n hx hb dX10_settles_6 rfl (lv_at hl 1 rfl) ?_
  refine lv_iload hx hb dX10_settles_7 (lv_at hl 4 rfl) ?_
  refine lv_iload hx hb dX10_settles_9 (lv_at hl 5 rfl) ?_
  refine lv_iload hx hb dX10_settles_11 (lv_at hl 6 rfl) ?_
  refine lv_iload hx hb dX10_settles_13 (lv_at hl 7 rfl) ?_
  refine o_calli (o_runV (As := [.int pi, .int ai, .int bi, .int ni, .int ei]) (rest := []) ⟨hx, hb, hml, hown, hu⟩ (c_X10_isPlan l D cA B0 ad hal S (uI d0 40 0 33 (nI 0)) hI.dS hG pi ai bi ni ei ) (gV_X10_260 (fun _ h => h)) (n0 := 5) rfl (by decide +kernel) rfl ⟨Nat.le_of_ble_eq_true rfl, Nat.le_of_ble_eq_true rfl⟩ (o_recv hK hW hal.1 (kC_M _ _ _) rfl) hK hW hB hS hl.1 rfl (lv_room (Nat.le_of_ble_eq_true rfl)) ⟨Nat.zero_le _, Nat.zero_le _⟩ dX10_settles_15) hS (fun r_2 d_1 q_3 H locs hW hS => ?_)
  obtain ⟨rfl, rfl⟩ := q_3
  refine lv_if_eq (tgt := 37) hx hb dX10_settles_18 (by decide) (fun c_p => ?_) (fun c_p => ?_)
  · refine lv_iconst (v := -1) hx hb dX10_settles_37 (by decide) ?_
    exact o_iret hx hb hr hlocks hW hS (⟨by simp only [aSettles, bI_z c_p, eq_self, ↓reduceIte, Bool.false_eq_true], hI.pub hR⟩) dX10_settles_38
  · have hspl := bI_n c_p
    obtain ⟨pin, ain, bin, nin, ein, hpin, hain, hbina, hbin, hnina, hnin, hdyl, hein, rfl, rfl, rfl, rfl, rfl⟩ := isPl_t hb7 hspl
    have hdyF : ∀ i, i < nin → dyF ain bin i < 400 := fun i hi => dyF_le hdyl hi
    refine lv_iload_n hx hb dX10_settles_21 rfl (lv_at hl 2 rfl) ?_
    refine n_iconst (v := 0) hx hb dX10_settles_22 (by decide) ?_
    refine n_iconst (v := 1) hx hb dX10_settles_23 (by decide) ?_
    refine o_calli (o_runS (As := [.int qi, .int (nI 0), .int (nI 1)]) (rest := []) ⟨hx, hb, hml, hown, hu⟩ (c_X10_in l D cA B0 ad hal (uI d0 40 0 33 (nI 0)) qi (nI 0) (nI 1)) (gS_X10_119 (fun _ h => h)) (n0 := 3) rfl (by decide +kernel) rfl ⟨Nat.le_of_ble_eq_true rfl, Nat.le_of_ble_eq_true rfl⟩ hK hW hB hS hl.1 rfl (lv_room (Nat.le_of_ble_eq_true rfl)) ⟨Nat.zero_le _, Nat.zero_le _⟩ dX10_settles_24) hS (fun r_5 d_4 q_6 H locs hW hS => ?_)
    obtain ⟨rfl, rfl⟩ := q_6
    refine n_topi (y := bI (ix qi 2)) (in_ixc 2 rfl (by decide)) ?_
    refine lv_if_eq (tgt := 37) hx hb dX10_settles_27 (by decide) (fun c_7 => ?_) (fun c_7 => ?_)
    · refine lv_iconst (v := -1) hx hb dX10_settles_37 (by decide) ?_
      exact o_iret hx hb hr hlocks hW hS (⟨by simp only [aSettles, hspl, nx_nI (j := pin) (by omega), nx_nI (j := ain) (by omega), nx_nI (j := bin) (by omega), nx_nI (j := nin) (by omega), nx_nI (j := ein) (by omega), bI_z c_7, eq_self, ↓reduceIte, Bool.false_eq_true], hI.pub hR⟩) dX10_settles_38
    · obtain ⟨qin, hqin, rfl⟩ := ix_t (bI_n c_7) (by omega)
      refine lv_iload_n hx hb dX10_settles_30 rfl (lv_at hl 3 rfl) ?_
      refine o_calli (o_runS (As := [.int day]) (rest := []) ⟨hx, hb, hml, hown, hu⟩ (c_X10_isDay l D cA B0 ad hal (uI d0 40 0 33 (nI 0)) day) (gS_X10_126 (fun _ h => h)) (n0 := 1) rfl (by decide +kernel) rfl ⟨Nat.le_of_ble_eq_true rfl, Nat.le_of_ble_eq_true rfl⟩ hK hW hB hS hl.1 rfl (lv_room (Nat.le_of_ble_eq_true rfl)) ⟨Nat.zero_le _, Nat.zero_le _⟩ dX10_settles_31) hS (fun r_9 d_8 q_10 H locs hW hS => ?_)
      obtain ⟨rfl, rfl⟩ := q_10
      refine lv_if_ne (tgt := 39) hx hb dX10_settles_34 (by decide) (fun c_11 => ?_) (fun c_11 => ?_)
      · obtain ⟨dayn, hdayn, rfl⟩ := ix_t (bI_n c_11) (by omega)
        refine lv_aload_n hx hb dX10_settles_39 rfl (lv_at hl 0 rfl) ?_
        refine lv_iload_n hx hb dX10_settles_40 rfl (lv_at hl 1 rfl) ?_
        refine lv_aload_n hx hb dX10_settles_41 rfl (lv_at hl 0 rfl) ?_
        refine mo_gi hx hb hu hown hK hal hW hI.dS 19 (by decide) uF_X10_55 dX10_settles_42 ?_
        have b_12 : S 19 0 ≤ 399 := hG.f 19 (mx := 399) (by decide)
        refine o_calll (o_runV (As := [.int (nI pin), .int (nI (S 19 0))]) (rest := []) ⟨hx, hb, hml, hown, hu⟩ (c_X10_keptOn l D cA B0 ad hal S (uI d0 40 0 33 (nI 0)) hI.1 pin (S 19 0) (by omega) (by omega)) (gV_X10_207 (fun _ h => h)) (n0 := 2) rfl (by decide +kernel) rfl ⟨Nat.le_of_ble_eq_true rfl, Nat.le_of_ble_eq_true rfl⟩ (o_recv hK hW hal.1 (kC_M _ _ _) rfl) hK hW hB hS hl.1 rfl (lv_room (Nat.le_of_ble_eq_true rfl)) ⟨Nat.zero_le _, Nat.zero_le _⟩ dX10_settles_45) hS (fun r_14 d_13 q_15 H locs hW hS => ?_)
        obtain ⟨rfl, hq⟩ := q_15
        have hI := hI.trans hq
        refine lv_lstore (lv' := [(8, .long (sKept S pin (S 19 0))), (0, .ref (ad.1 40 0)), (1, .int (nI pin)), (2, .int (nI qin)), (3, .int (nI dayn)), (4, .int (nI ain)), (5, .int (nI bin)), (6, .int (nI nin)), (7, .int (nI ein))]) hx hb dX10_settles_48 hl (by decide) rfl (fun ls hl => ?_)
        refine lv_lload hx hb dX10_settles_50 (lv_at hl 0 rfl) ?_
        refine lv_lconst (v := 0) hx hb dX10_settles_52 (by decide) ?_
        refine W.lcmp hx hb dX10_settles_53 ?_
        refine lv_if_ne (tgt := 59) hx hb dX10_settles_54 (by decide) (fun c_z => ?_) (fun c_z => ?_)
        · have hz : ¬ sKept S pin (S 19 0) = 0 := lg0n c_z
          refine lv_aload_n hx hb dX10_settles_59 rfl (lv_at hl 1 rfl) ?_
          refine lv_iload_n hx hb dX10_settles_60 rfl (lv_at hl 2 rfl) ?_
          refine lv_iload hx hb dX10_settles_61 (lv_at hl 5 rfl) ?_
          refine lv_iload hx hb dX10_settles_63 (lv_at hl 6 rfl) ?_
          refine lv_iload hx hb dX10_settles_65 (lv_at hl 7 rfl) ?_
          refine lv_iload hx hb dX10_settles_67 (lv_at hl 8 rfl) ?_
          refine o_callv (o_runV (As := [.int (nI pin), .int (nI ain), .int (nI bin), .int (nI nin), .int (nI ein)]) (rest := []) ⟨hx, hb, hml, hown, hu⟩ (c_X10_beginPlan l D cA B0 ad hal S d_13 hI.1 pin ain bin nin ein (by omega)) (gV_X10_264 (fun _ h => h)) (n0 := 5) rfl (by decide +kernel) rfl ⟨Nat.le_of_ble_eq_true rfl, Nat.le_of_ble_eq_true rfl⟩ (o_recv hK hW hal.1 (kC_M _ _ _) rfl) hK hW hB hS hl.1 rfl (lv_room (Nat.le_of_ble_eq_true rfl)) ⟨Nat.zero_le _, Nat.zero_le _⟩ dX10_settles_69) hS (fun dB q_17 H locs hW hS => ?_)
          have hBG := q_17
          have hP0 := hBG.pi hI hR
          have hPD := hBG.pd
          have hI2 : MI S dB dB := MI.start hBG.1
          refine lv_aload_n hx hb dX10_settles_72 rfl (lv_at hl 1 rfl) ?_
          refine lv_iload_n hx hb dX10_settles_73 rfl (lv_at hl 2 rfl) ?_
          refine lv_lload hx hb dX10_settles_74 (lv_at hl 0 rfl) ?_
          refine lv_iload_n hx hb dX10_settles_76 rfl (lv_at hl 4 rfl) ?_
          refine lv_iload_n hx hb dX10_settles_77 rfl (lv_at hl 3 rfl) ?_
          refine o_calll (o_runV (As := [.int (nI pin), .long (sKept S pin (S 19 0)), .int (nI dayn), .int (nI qin)]) (rest := []) ⟨hx, hb, hml, hown, hu⟩ (c_X10_yes l D cA B0 ad hal S dB hI2.1 pin (sKept S pin (S 19 0)) dayn qin (by omega) (by omega) (by omega)) (gV_X10_226 (fun _ h => h)) (n0 := 4) rfl (by decide +kernel) rfl ⟨Nat.le_of_ble_eq_true rfl, Nat.le_of_ble_eq_true rfl⟩ (o_recv hK hW hal.1 (kC_M _ _ _) rfl) hK hW hB hS hl.1 rfl (lv_room (Nat.le_of_ble_eq_true rfl)) ⟨Nat.zero_le _, Nat.zero_le _⟩ dX10_settles_78) hS (fun r_19 d_18 q_20 H locs hW hS => ?_)
          obtain ⟨rfl, hq⟩ := q_20
          have hI2 := hI2.trans hq
          have hPD := hPD.mi hq
          refine lv_lstore (lv' := [(10, .long (sYes S pin (sKept S pin (S 19 0)) dayn qin)), (8, .long (sKept S pin (S 19 0))), (0, .ref (ad.1 40 0)), (1, .int (nI pin)), (2, .int (nI qin)), (3, .int (nI dayn)), (4, .int (nI ain)), (5, .int (nI bin)), (6, .int (nI nin)), (7, .int (nI ein))]) hx hb dX10_settles_81 hl (by decide) rfl (fun ls hl => ?_)
          refine n_iconst (v := 0) hx hb dX10_settles_83 (by decide) ?_
          refine lv_istore (lv' := [(12, .int (nI 0)), (10, .long (sYes S pin (sKept S pin (S 19 0)) dayn qin)), (8, .long (sKept S pin (S 19 0))), (0, .ref (ad.1 40 0)), (1, .int (nI pin)), (2, .int (nI qin)), (3, .int (nI dayn)), (4, .int (nI ain)), (5, .int (nI bin)), (6, .int (nI nin)), (7, .int (nI ein))]) hx hb dX10_settles_84 hl (by decide) rfl (fun ls hl => ?_)
          refine lv_iload hx hb dX10_settles_86 (lv_at hl 0 rfl) ?_
          refine n_iconst (v := 4) hx hb dX10_settles_88 (by decide) ?_
          refine n_icmp_ge (tgt := 115) hx hb (by omega) (by omega) dX10_settles_89 (by decide) (fun c_k0 => ?_) (fun c_k0 => ?_)
          · exfalso; omega
          · refine lv_aload_n hx hb dX10_settles_92 rfl (lv_at hl 3 rfl) ?_
            refine lv_lload hx hb dX10_settles_93 (lv_at hl 2 rfl) ?_
            refine lv_lload hx hb dX10_settles_95 (lv_at hl 1 rfl) ?_
            refine n_iconst (v := 0) hx hb dX10_settles_97 (by decide) ?_
            refine lv_iload hx hb dX10_settles_98 (lv_at hl 0 rfl) ?_
            refine o_calli (o_runV (As := [.long (sKept S pin (S 19 0)), .long (sYes S pin (sKept S pin (S 19 0)) dayn qin), .int (nI 0), .int (nI 0)]) (rest := []) ⟨hx, hb, hml, hown, hu⟩ (c_X10_settled_0 l D cA B0 ad hal S d_18 hI2.1 pin ein nin (dyF ain bin) hPD hpin (by omega) (by omega) hdyF (sKept S pin (S 19 0)) (sYes S pin (sKept S pin (S 19 0)) dayn qin) 0 (by omega)) (gV_X10_268 (fun _ h => h)) (n0 := 4) rfl (by decide +kernel) rfl ⟨Nat.le_of_ble_eq_true rfl, Nat.le_of_ble_eq_true rfl⟩ (o_recv hK hW hal.1 (kC_M _ _ _) rfl) hK hW hB hS hl.1 rfl (lv_room (Nat.le_of_ble_eq_true rfl)) ⟨Nat.zero_le _, Nat.zero_le _⟩ dX10_settles_100) hS (fun r_22 d_21 q_23 H locs hW hS => ?_)
            obtain ⟨rfl, hq⟩ := q_23
            have hI2 := hI2.trans hq
            have hPD := hPD.mi hq
            refine lv_if_eq (tgt := 109) hx hb dX10_settles_103 (by decide) (fun c_s0 => ?_) (fun c_s0 => ?_)
            · have hs0 : stV S pin ein (dyF ain bin) nin (sYes S pin (sKept S pin (S 19 0)) dayn qin) 0 (sKept S pin (S 19 0)) 0 = false := bI_z c_s0
              refine n_iinc (q := 1) (lv' := [(12, .int (nI (0 + 1))), (10, .long (sYes S pin (sKept S pin (S 19 0)) dayn qin)), (8, .long (sKept S pin (S 19 0))), (0, .ref (ad.1 40 0)), (1, .int (nI pin)), (2, .int (nI qin)), (3, .int (nI dayn)), (4, .int (nI ain)), (5, .int (nI bin)), (6, .int (nI nin)), (7, .int (nI ein))]) hx hb dX10_settles_109 hl (k := 0) rfl (by decide) (by decide) rfl (fun ls hl => ?_)
              refine lv_goto (tgt := 86) hx hb dX10_settles_112 (by decide) ?_
              refine lv_iload hx hb dX10_settles_86 (lv_at hl 0 rfl) ?_
              refine n_iconst (v := 4) hx hb dX10_settles_88 (by decide) ?_
              refine n_icmp_ge (tgt := 115) hx hb (by omega) (by omega) dX10_settles_89 (by decide) (fun c_k1 => ?_) (fun c_k1 => ?_)
              · exfalso; omega
              · refine lv_aload_n hx hb dX10_settles_92 rfl (lv_at hl 3 rfl) ?_
                refine lv_lload hx hb dX10_settles_93 (lv_at hl 2 rfl) ?_
                refine lv_lload hx hb dX10_settles_95 (lv_at hl 1 rfl) ?_
                refine n_iconst (v := 0) hx hb dX10_settles_97 (by decide) ?_
                refine lv_iload hx hb dX10_settles_98 (lv_at hl 0 rfl) ?_
                refine o_calli (o_runV (As := [.long (sKept S pin (S 19 0)), .long (sYes S pin (sKept S pin (S 19 0)) dayn qin), .int (nI 0), .int (nI (0 + 1))]) (rest := []) ⟨hx, hb, hml, hown, hu⟩ (c_X10_settled_1 l D cA B0 ad hal S d_21 hI2.1 pin ein nin (dyF ain bin) hPD hpin (by omega) (by omega) hdyF (sKept S pin (S 19 0)) (sYes S pin (sKept S pin (S 19 0)) dayn qin) 0 (by omega)) (gV_X10_268 (fun _ h => h)) (n0 := 4) rfl (by decide +kernel) rfl ⟨Nat.le_of_ble_eq_true rfl, Nat.le_of_ble_eq_true rfl⟩ (o_recv hK hW hal.1 (kC_M _ _ _) rfl) hK hW hB hS hl.1 rfl (lv_room (Nat.le_of_ble_eq_true rfl)) ⟨Nat.zero_le _, Nat.zero_le _⟩ dX10_settles_100) hS (fun r_25 d_24 q_26 H locs hW hS => ?_)
                obtain ⟨rfl, hq⟩ := q_26
                have hI2 := hI2.trans hq
                have hPD := hPD.mi hq
                refine lv_if_eq (tgt := 109) hx hb dX10_settles_103 (by decide) (fun c_s1 => ?_) (fun c_s1 => ?_)
                · have hs1 : stV S pin ein (dyF ain bin) nin (sYes S pin (sKept S pin (S 19 0)) dayn qin) 1 (sKept S pin (S 19 0)) 0 = false := bI_z c_s1
                  refine n_iinc (q := 1) (lv' := [(12, .int (nI (0 + 1 + 1))), (10, .long (sYes S pin (sKept S pin (S 19 0)) dayn qin)), (8, .long (sKept S pin (S 19 0))), (0, .ref (ad.1 40 0)), (1, .int (nI pin)), (2, .int (nI qin)), (3, .int (nI dayn)), (4, .int (nI ain)), (5, .int (nI bin)), (6, .int (nI nin)), (7, .int (nI ein))]) hx hb dX10_settles_109 hl (k := 0) rfl (by decide) (by decide) rfl (fun ls hl => ?_)
                  refine lv_goto (tgt := 86) hx hb dX10_settles_112 (by decide) ?_
                  refine lv_iload hx hb dX10_settles_86 (lv_at hl 0 rfl) ?_
                  refine n_iconst (v := 4) hx hb dX10_settles_88 (by decide) ?_
                  refine n_icmp_ge (tgt := 115) hx hb (by omega) (by omega) dX10_settles_89 (by decide) (fun c_k2 => ?_) (fun c_k2 => ?_)
                  · exfalso; omega
                  · refine lv_aload_n hx hb dX10_settles_92 rfl (lv_at hl 3 rfl) ?_
                    refine lv_lload hx hb dX10_settles_93 (lv_at hl 2 rfl) ?_
                    refine lv_lload hx hb dX10_settles_95 (lv_at hl 1 rfl) ?_
                    refine n_iconst (v := 0) hx hb dX10_settles_97 (by decide) ?_
                    refine lv_iload hx hb dX10_settles_98 (lv_at hl 0 rfl) ?_
                    refine o_calli (o_runV (As := [.long (sKept S pin (S 19 0)), .long (sYes S pin (sKept S pin (S 19 0)) dayn qin), .int (nI 0), .int (nI (0 + 1 + 1))]) (rest := []) ⟨hx, hb, hml, hown, hu⟩ (c_X10_settled_2 l D cA B0 ad hal S d_24 hI2.1 pin ein nin (dyF ain bin) hPD hpin (by omega) (by omega) hdyF (sKept S pin (S 19 0)) (sYes S pin (sKept S pin (S 19 0)) dayn qin) 0 (by omega)) (gV_X10_268 (fun _ h => h)) (n0 := 4) rfl (by decide +kernel) rfl ⟨Nat.le_of_ble_eq_true rfl, Nat.le_of_ble_eq_true rfl⟩ (o_recv hK hW hal.1 (kC_M _ _ _) rfl) hK hW hB hS hl.1 rfl (lv_room (Nat.le_of_ble_eq_true rfl)) ⟨Nat.zero_le _, Nat.zero_le _⟩ dX10_settles_100) hS (fun r_28 d_27 q_29 H locs hW hS => ?_)
                    obtain ⟨rfl, hq⟩ := q_29
                    have hI2 := hI2.trans hq
                    have hPD := hPD.mi hq
                    refine lv_if_eq (tgt := 109) hx hb dX10_settles_103 (by decide) (fun c_s2 => ?_) (fun c_s2 => ?_)
                    · have hs2 : stV S pin ein (dyF ain bin) nin (sYes S pin (sKept S pin (S 19 0)) dayn qin) 2 (sKept S pin (S 19 0)) 0 = false := bI_z c_s2
                      refine n_iinc (q := 1) (lv' := [(12, .int (nI (0 + 1 + 1 + 1))), (10, .long (sYes S pin (sKept S pin (S 19 0)) dayn qin)), (8, .long (sKept S pin (S 19 0))), (0, .ref (ad.1 40 0)), (1, .int (nI pin)), (2, .int (nI qin)), (3, .int (nI dayn)), (4, .int (nI ain)), (5, .int (nI bin)), (6, .int (nI nin)), (7, .int (nI ein))]) hx hb dX10_settles_109 hl (k := 0) rfl (by decide) (by decide) rfl (fun ls hl => ?_)
                      refine lv_goto (tgt := 86) hx hb dX10_settles_112 (by decide) ?_
                      refine lv_iload hx hb dX10_settles_86 (lv_at hl 0 rfl) ?_
                      refine n_iconst (v := 4) hx hb dX10_settles_88 (by decide) ?_
                      refine n_icmp_ge (tgt := 115) hx hb (by omega) (by omega) dX10_settles_89 (by decide) (fun c_k3 => ?_) (fun c_k3 => ?_)
                      · exfalso; omega
                      · refine lv_aload_n hx hb dX10_settles_92 rfl (lv_at hl 3 rfl) ?_
                        refine lv_lload hx hb dX10_settles_93 (lv_at hl 2 rfl) ?_
                        refine lv_lload hx hb dX10_settles_95 (lv_at hl 1 rfl) ?_
                        refine n_iconst (v := 0) hx hb dX10_settles_97 (by decide) ?_
                        refine lv_iload hx hb dX10_settles_98 (lv_at hl 0 rfl) ?_
                        refine o_calli (o_runV (As := [.long (sKept S pin (S 19 0)), .long (sYes S pin (sKept S pin (S 19 0)) dayn qin), .int (nI 0), .int (nI (0 + 1 + 1 + 1))]) (rest := []) ⟨hx, hb, hml, hown, hu⟩ (c_X10_settled_3 l D cA B0 ad hal S d_27 hI2.1 pin ein nin (dyF ain bin) hPD hpin (by omega) (by omega) hdyF (sKept S pin (S 19 0)) (sYes S pin (sKept S pin (S 19 0)) dayn qin) 0 (by omega)) (gV_X10_268 (fun _ h => h)) (n0 := 4) rfl (by decide +kernel) rfl ⟨Nat.le_of_ble_eq_true rfl, Nat.le_of_ble_eq_true rfl⟩ (o_recv hK hW hal.1 (kC_M _ _ _) rfl) hK hW hB hS hl.1 rfl (lv_room (Nat.le_of_ble_eq_true rfl)) ⟨Nat.zero_le _, Nat.zero_le _⟩ dX10_settles_100) hS (fun r_31 d_30 q_32 H locs hW hS => ?_)
                        obtain ⟨rfl, hq⟩ := q_32
                        have hI2 := hI2.trans hq
                        have hPD := hPD.mi hq
                        refine lv_if_eq (tgt := 109) hx hb dX10_settles_103 (by decide) (fun c_s3 => ?_) (fun c_s3 => ?_)
                        · have hs3 : stV S pin ein (dyF ain bin) nin (sYes S pin (sKept S pin (S 19 0)) dayn qin) 3 (sKept S pin (S 19 0)) 0 = false := bI_z c_s3
                          refine n_iinc (q := 1) (lv' := [(12, .int (nI (0 + 1 + 1 + 1 + 1))), (10, .long (sYes S pin (sKept S pin (S 19 0)) dayn qin)), (8, .long (sKept S pin (S 19 0))), (0, .ref (ad.1 40 0)), (1, .int (nI pin)), (2, .int (nI qin)), (3, .int (nI dayn)), (4, .int (nI ain)), (5, .int (nI bin)), (6, .int (nI nin)), (7, .int (nI ein))]) hx hb dX10_settles_109 hl (k := 0) rfl (by decide) (by decide) rfl (fun ls hl => ?_)
                          refine lv_goto (tgt := 86) hx hb dX10_settles_112 (by decide) ?_
                          refine lv_iload hx hb dX10_settles_86 (lv_at hl 0 rfl) ?_
                          refine n_iconst (v := 4) hx hb dX10_settles_88 (by decide) ?_
                          refine n_icmp_ge (tgt := 115) hx hb (by omega) (by omega) dX10_settles_89 (by decide) (fun c_k4 => ?_) (fun c_k4 => ?_)
                          · refine lv_bipush (v := -2) hx hb dX10_settles_115 (by decide) ?_
                            exact o_iret hx hb hr hlocks hW hS (⟨by simp only [aSettles, hspl, nx_nI (j := pin) (by omega), nx_nI (j := ain) (by omega), nx_nI (j := bin) (by omega), nx_nI (j := nin) (by omega), nx_nI (j := ein) (by omega), ix_nI hqin (by omega), nx_nI (j := qin) (by omega), ix_nI hdayn (by omega), nx_nI (j := dayn) (by omega), hz, eq_self, ↓reduceIte, Bool.false_eq_true]; unfold slA; rw [slL, if_neg (by rw [hs0]; decide), slL, if_neg (by rw [hs1]; decide), slL, if_neg (by rw [hs2]; decide), slL, if_neg (by rw [hs3]; decide)]; rfl, hP0.mi hI2⟩) dX10_settles_117
                          · exfalso; omega
                        · have hs3 : stV S pin ein (dyF ain bin) nin (sYes S pin (sKept S pin (S 19 0)) dayn qin) 3 (sKept S pin (S 19 0)) 0 = true := bI_n c_s3
                          refine lv_iload hx hb dX10_settles_106 (lv_at hl 0 rfl) ?_
                          exact o_iret hx hb hr hlocks hW hS (⟨by simp only [aSettles, hspl, nx_nI (j := pin) (by omega), nx_nI (j := ain) (by omega), nx_nI (j := bin) (by omega), nx_nI (j := nin) (by omega), nx_nI (j := ein) (by omega), ix_nI hqin (by omega), nx_nI (j := qin) (by omega), ix_nI hdayn (by omega), nx_nI (j := dayn) (by omega), hz, eq_self, ↓reduceIte, Bool.false_eq_true]; unfold slA; rw [slL, if_neg (by rw [hs0]; decide), slL, if_neg (by rw [hs1]; decide), slL, if_neg (by rw [hs2]; decide), slL, if_pos hs3], hP0.mi hI2⟩) dX10_settles_108
                    · have hs2 : stV S pin ein (dyF ain bin) nin (sYes S pin (sKept S pin (S 19 0)) dayn qin) 2 (sKept S pin (S 19 0)) 0 = true := bI_n c_s2
                      refine lv_iload hx hb dX10_settles_106 (lv_at hl 0 rfl) ?_
                      exact o_iret hx hb hr hlocks hW hS (⟨by simp only [aSettles, hspl, nx_nI (j := pin) (by omega), nx_nI (j := ain) (by omega), nx_nI (j := bin) (by omega), nx_nI (j := nin) (by omega), nx_nI (j := ein) (by omega), ix_nI hqin (by omega), nx_nI (j := qin) (by omega), ix_nI hdayn (by omega), nx_nI (j := dayn) (by omega), hz, eq_self, ↓reduceIte, Bool.false_eq_true]; unfold slA; rw [slL, if_neg (by rw [hs0]; decide), slL, if_neg (by rw [hs1]; decide), slL, if_pos hs2], hP0.mi hI2⟩) dX10_settles_108
                · have hs1 : stV S pin ein (dyF ain bin) nin (sYes S pin (sKept S pin (S 19 0)) dayn qin) 1 (sKept S pin (S 19 0)) 0 = true := bI_n c_s1
                  refine lv_iload hx hb dX10_settles_106 (lv_at hl 0 rfl) ?_
                  exact o_iret hx hb hr hlocks hW hS (⟨by simp only [aSettles, hspl, nx_nI (j := pin) (by omega), nx_nI (j := ain) (by omega), nx_nI (j := bin) (by omega), nx_nI (j := nin) (by omega), nx_nI (j := ein) (by omega), ix_nI hqin (by omega), nx_nI (j := qin) (by omega), ix_nI hdayn (by omega), nx_nI (j := dayn) (by omega), hz, eq_self, ↓reduceIte, Bool.false_eq_true]; unfold slA; rw [slL, if_neg (by rw [hs0]; decide), slL, if_pos hs1], hP0.mi hI2⟩) dX10_settles_108
            · have hs0 : stV S pin ein (dyF ain bin) nin (sYes S pin (sKept S pin (S 19 0)) dayn qin) 0 (sKept S pin (S 19 0)) 0 = true := bI_n c_s0
              refine lv_iload hx hb dX10_settles_106 (lv_at hl 0 rfl) ?_
              exact o_iret hx hb hr hlocks hW hS (⟨by simp only [aSettles, hspl, nx_nI (j := pin) (by omega), nx_nI (j := ain) (by omega), nx_nI (j := bin) (by omega), nx_nI (j := nin) (by omega), nx_nI (j := ein) (by omega), ix_nI hqin (by omega), nx_nI (j := qin) (by omega), ix_nI hdayn (by omega), nx_nI (j := dayn) (by omega), hz, eq_self, ↓reduceIte, Bool.false_eq_true]; unfold slA; rw [slL, if_pos hs0], hP0.mi hI2⟩) dX10_settles_108
        · have hz : sKept S pin (S 19 0) = 0 := lg0 c_z
          refine lv_iconst (v := -1) hx hb dX10_settles_57 (by decide) ?_
          exact o_iret hx hb hr hlocks hW hS (⟨by simp only [aSettles, hspl, nx_nI (j := pin) (by omega), nx_nI (j := ain) (by omega), nx_nI (j := bin) (by omega), nx_nI (j := nin) (by omega), nx_nI (j := ein) (by omega), ix_nI hqin (by omega), nx_nI (j := qin) (by omega), ix_nI hdayn (by omega), nx_nI (j := dayn) (by omega), hz, eq_self, ↓reduceIte, Bool.false_eq_true], hI.pub hR⟩) dX10_settles_58
      · refine lv_iconst (v := -1) hx hb dX10_settles_37 (by decide) ?_
        exact o_iret hx hb hr hlocks hW hS (⟨by simp only [aSettles, hspl, nx_nI (j := pin) (by omega), nx_nI (j := ain) (by omega), nx_nI (j := bin) (by omega), nx_nI (j := nin) (by omega), nx_nI (j := ein) (by omega), ix_nI hqin (by omega), nx_nI (j := qin) (by omega), bI_z c_11, eq_self, ↓reduceIte, Bool.false_eq_true], hI.pub hR⟩) dX10_settles_38
