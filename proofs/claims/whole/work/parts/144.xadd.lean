set_option maxHeartbeats 400000 in
set_option maxRecDepth 100000 in
theorem c_X0_addDay (l : Launch) (D : va_G) (cA : Nat → ClassId) (B0 : Nat) (ad : kA) (hal : mAl ad) (S : sS) (d0 : kD) (hM : InvX cA ad S d0) (pp dd : Nat) (x : Int64) (er s0 : Nat) (hp : pp < S 7 0) (hd : dd < 400) (hx0 : d0.2.1 6 pp 12 = x) (her : er ≤ 50) (hs : d0.1 16 0 5 = nI s0) (hs6 : s0 < 6) : oM l yX0_addDay wX0_addDay 5 0 0 D cA B0 ad d0 ([.ref (ad.1 16 0), .ref (ad.1 6 pp), .int (nI dd), .int (nI er)] : List Value) (oQv D cA B0 ad (fun d1 => XA cA ad S d0 d1 ∧ SL S pp er x dd s0 d1 ∧ d1.1 16 0 5 = nI (s0 + 1) ∧ OL s0 d0 d1)) := by
  refine o_ofW (cc := cX0_addDay) (maxL := 8) (ret := none) (by decide) rfl (Nat.le_of_ble_eq_true rfl) ?_
  intro p e s m below meth c hx hb hr hml hts hown hlocks hnm hK hW hB hS ls hl
  have hu : ∀ w ∈ UW, w.before _ s = true := fun w h => hts w (uw_c w h)
  have hl : lv_has ls 8 [(0, .ref (ad.1 16 0)), (1, .ref (ad.1 6 pp)), (2, .int (nI dd)), (3, .int (nI er))] := hl
  have hX := hM.1
  have hA := hX.1
  have hG := hX.2.2
  have hb7 : S 7 0 ≤ 8 := hG.f 7 (mx := 8) (by decide)
  have hb11 : S 11 0 ≤ 20 := hG.f 11 (mx := 20) (by decide)
  have hb18 : S 18 0 ≤ 40 := hG.f 18 (mx := 40) (by decide)
  have hI : XA cA ad S d0 d0 := XA.start hM
  refine lv_aload_n hx hb dX0_addDay_0 rfl (lv_at hl 0 rfl) ?_
  refine x_gi hx hb hu in_X0 hown hK hW (hA.o (k := 16) rfl) (kX_16 _ _ _ _) rfl 5 (by decide) uF_X0_28 dX0_addDay_1 ?_
  refine n_topi (y := nI s0) (hs) ?_
  refine n_bipush (v := 6) hx hb dX0_addDay_4 (by decide) ?_
  refine n_icmp_lt (tgt := 10) hx hb (by omega) (by omega) dX0_addDay_6 (by decide) (fun c_1 => ?_) (fun c_1 => ?_)
  · refine lv_aload_n hx hb dX0_addDay_10 rfl (lv_at hl 0 rfl) ?_
    refine lv_aload_n hx hb dX0_addDay_11 rfl (lv_at hl 1 rfl) ?_
    refine lv_iload_n hx hb dX0_addDay_12 rfl (lv_at hl 2 rfl) ?_
    refine o_callv (o_runV (As := [.ref (ad.1 6 pp), .int (nI dd)]) (rest := []) ⟨hx, hb, hml, hown, hu⟩ (c_X0_sortByHole l D cA B0 ad hal S d0 hI.1 pp dd x hp hd hx0) (gV_X0_35 (fun _ h => h)) (n0 := 2) rfl (by decide +kernel) rfl ⟨Nat.le_of_ble_eq_true rfl, Nat.le_of_ble_eq_true rfl⟩ (o_recv hK hW (hA.o (k := 16) rfl) (kX_16 _ _ _ _) rfl) hK hW hB hS hl.1 rfl (lv_room (Nat.le_of_ble_eq_true rfl)) ⟨Nat.zero_le _, Nat.zero_le _⟩ dX0_addDay_13) hS (fun d_2 q_4 H locs hW hS => ?_)
    obtain ⟨hq, hSH, hNS⟩ := q_4
    have hI := hI.trans hq
    have hOL : OL s0 d0 d_2 := OL.ns hNS
    have h16 : d_2.1 16 0 5 = nI s0 := by rw [hNS.1]; exact hs
    have hSI := SI.start S pp er x dd s0 d_2
    refine n_iconst (v := 0) hx hb dX0_addDay_16 (by decide) ?_
    refine lv_istore (lv' := [(4, .int (nI 0)), (0, .ref (ad.1 16 0)), (1, .ref (ad.1 6 pp)), (2, .int (nI dd)), (3, .int (nI er))]) hx hb dX0_addDay_17 hl (by decide) rfl (fun ls hl => ?_)
    refine n_iconst (v := 0) hx hb dX0_addDay_19 (by decide) ?_
    refine lv_istore (lv' := [(5, .int (nI 0)), (4, .int (nI 0)), (0, .ref (ad.1 16 0)), (1, .ref (ad.1 6 pp)), (2, .int (nI dd)), (3, .int (nI er))]) hx hb dX0_addDay_20 hl (by decide) rfl (fun ls hl => ?_)
    have lp22 : ∀ (n : Nat) (cn : Nat) (h : Nat)  (d : kD) (H : Heap) (locs : List Loc) (ls : Array Slot), 201 - h < n → (h ≤ 201) → (XA cA ad S d0 d) → (SH S pp x dd d) → (d.1 16 0 5 = nI s0) → (SI S pp er x dd s0 cn h d) → (OL s0 d0 d) → oW D cA B0 ad d H → va_S (oA B0) s.heap H locs → lv_has ls 8 [(0, .ref (ad.1 16 0)), (1, .ref (ad.1 6 pp)), (2, .int (nI dd)), (3, .int (nI er)), (4, .int (nI cn)), (5, .int (nI h))] → W p l e (oR 5 0 0) s m ([.ref (ad.1 16 0), .ref (ad.1 6 pp), .int (nI dd), .int (nI er)] : List Value).toArray below meth c H locs 0 0 (MQ below (oQv D cA B0 ad (fun d1 => XA cA ad S d0 d1 ∧ SL S pp er x dd s0 d1 ∧ d1.1 16 0 5 = nI (s0 + 1) ∧ OL s0 d0 d1)) ([.ref (ad.1 16 0), .ref (ad.1 6 pp), .int (nI dd), .int (nI er)] : List Value).toArray s 0 0 (oA B0)) (F0 m 22 ls []) := by
      intro n
      induction n with
      | zero => intro cn h  d H locs ls hmu; exact absurd hmu (Nat.not_lt_zero _)
      | succ n ih_lp22 =>
        intro cn h  d H locs ls hmu hh hI hSH h16 hSI hOL hW hS hl
        have hcl := hSI.le
        refine lv_iload hx hb dX0_addDay_22 (lv_at hl 5 rfl) ?_
        refine n_sipush (v := 200) hx hb dX0_addDay_24 (by decide) ?_
        refine n_icmp_gt (tgt := 138) hx hb (by omega) (by omega) dX0_addDay_27 (by decide) (fun c_e => ?_) (fun c_e => ?_)
        · have hex : 200 < h ∨ 64 ≤ cn := Or.inl (by omega)
          refine lv_aload_n hx hb dX0_addDay_138 rfl (lv_at hl 0 rfl) ?_
          refine x_gr hx hb hu in_X0 hown hK hW (hA.o (k := 16) rfl) (kX_16 _ _ _ _) rfl 2 (by decide) uF_X0_18 (hA.ah 2 (k := 19) (by decide)) dX0_addDay_139 ?_
          refine lv_aload_n hx hb dX0_addDay_142 rfl (lv_at hl 0 rfl) ?_
          refine x_gi hx hb hu in_X0 hown hK hW (hA.o (k := 16) rfl) (kX_16 _ _ _ _) rfl 5 (by decide) uF_X0_28 dX0_addDay_143 ?_
          refine n_topi (y := nI s0) (h16) ?_
          refine lv_iload hx hb dX0_addDay_146 (lv_at hl 4 rfl) ?_
          refine x_is hx hb hK hW hS (hA.o (k := 19) rfl) (kI_19 _ _ _ _) (by decide) (by omega) dX0_addDay_148 (fun H locs hW hS => ?_)
          refine lv_aload_n hx hb dX0_addDay_149 rfl (lv_at hl 0 rfl) ?_
          refine lv_dup hx hb dX0_addDay_150 rfl ?_
          refine x_gi hx hb hu in_X0 hown hK hW (hA.o (k := 16) rfl) (kX_16 _ _ _ _) rfl 5 (by decide) uF_X0_28 dX0_addDay_151 ?_
          refine n_topi (y := nI s0) (h16) ?_
          refine n_iconst (v := 1) hx hb dX0_addDay_154 (by decide) ?_
          refine n_iadd hx hb dX0_addDay_155 ?_
          refine x_pi hx hb hu in_X0 tyX0 tyX0_ok nmX0 hown hK hW hS (hA.o (k := 16) rfl) (kI_16 _ _ _ _) rfl 5 (ty := .int) (by decide +kernel) uF_X0_28 ⟨rfl, rfl⟩ dX0_addDay_156 (fun H locs hW hS => ?_)
          have hSL := hSI.end hG (by omega) hex (nI (s0 + 1))
          have hOL := hOL.end cn (nI (s0 + 1))
          have hI := (hI.uI 19 0 s0 (nI cn) (Or.inr rfl)).uI 16 0 5 (nI (s0 + 1)) (Or.inl rfl)
          exact o_vret hx hb hr hlocks hW hS (⟨hI, hSL, uI_s _ _ _ _ _, hOL⟩) dX0_addDay_159
        · refine lv_iload hx hb dX0_addDay_30 (lv_at hl 4 rfl) ?_
          refine n_bipush (v := 64) hx hb dX0_addDay_32 (by decide) ?_
          refine n_icmp_ge (tgt := 138) hx hb (by omega) (by omega) dX0_addDay_34 (by decide) (fun c_e2 => ?_) (fun c_e2 => ?_)
          · have hex : 200 < h ∨ 64 ≤ cn := Or.inr (by omega)
            refine lv_aload_n hx hb dX0_addDay_138 rfl (lv_at hl 0 rfl) ?_
            refine x_gr hx hb hu in_X0 hown hK hW (hA.o (k := 16) rfl) (kX_16 _ _ _ _) rfl 2 (by decide) uF_X0_18 (hA.ah 2 (k := 19) (by decide)) dX0_addDay_139 ?_
            refine lv_aload_n hx hb dX0_addDay_142 rfl (lv_at hl 0 rfl) ?_
            refine x_gi hx hb hu in_X0 hown hK hW (hA.o (k := 16) rfl) (kX_16 _ _ _ _) rfl 5 (by decide) uF_X0_28 dX0_addDay_143 ?_
            refine n_topi (y := nI s0) (h16) ?_
            refine lv_iload hx hb dX0_addDay_146 (lv_at hl 4 rfl) ?_
            refine x_is hx hb hK hW hS (hA.o (k := 19) rfl) (kI_19 _ _ _ _) (by decide) (by omega) dX0_addDay_148 (fun H locs hW hS => ?_)
            refine lv_aload_n hx hb dX0_addDay_149 rfl (lv_at hl 0 rfl) ?_
            refine lv_dup hx hb dX0_addDay_150 rfl ?_
            refine x_gi hx hb hu in_X0 hown hK hW (hA.o (k := 16) rfl) (kX_16 _ _ _ _) rfl 5 (by decide) uF_X0_28 dX0_addDay_151 ?_
            refine n_topi (y := nI s0) (h16) ?_
            refine n_iconst (v := 1) hx hb dX0_addDay_154 (by decide) ?_
            refine n_iadd hx hb dX0_addDay_155 ?_
            refine x_pi hx hb hu in_X0 tyX0 tyX0_ok nmX0 hown hK hW hS (hA.o (k := 16) rfl) (kI_16 _ _ _ _) rfl 5 (ty := .int) (by decide +kernel) uF_X0_28 ⟨rfl, rfl⟩ dX0_addDay_156 (fun H locs hW hS => ?_)
            have hSL := hSI.end hG (by omega) hex (nI (s0 + 1))
            have hOL := hOL.end cn (nI (s0 + 1))
            have hI := (hI.uI 19 0 s0 (nI cn) (Or.inr rfl)).uI 16 0 5 (nI (s0 + 1)) (Or.inl rfl)
            exact o_vret hx hb hr hlocks hW hS (⟨hI, hSL, uI_s _ _ _ _ _, hOL⟩) dX0_addDay_159
          · refine lv_aload_n hx hb dX0_addDay_37 rfl (lv_at hl 0 rfl) ?_
            refine x_gr hx hb hu in_X0 hown hK hW (hA.o (k := 16) rfl) (kX_16 _ _ _ _) rfl 3 (by decide) uF_X0_22 (hA.ah 3 (k := 20) (by decide)) dX0_addDay_38 ?_
            refine lv_iload hx hb dX0_addDay_41 (lv_at hl 5 rfl) ?_
            refine x_ll hx hb hK hW (hA.o (k := 20) rfl) (kX_20 _ _ _ _) (by decide) (by omega) dX0_addDay_43 ?_
            refine n_topl (y := (sHB S pp x dd h)) (hSH.1 h (by omega)) ?_
            refine lv_lconst (v := 0) hx hb dX0_addDay_44 (by decide) ?_
            refine W.lcmp hx hb dX0_addDay_45 ?_
            refine lv_if_eq (tgt := 132) hx hb dX0_addDay_46 (by decide) (fun c_z => ?_) (fun c_z => ?_)
            · have hSI := hSI.no (lg0 c_z)
              refine n_iinc (q := 1) (lv' := [(5, .int (nI (h + 1))), (0, .ref (ad.1 16 0)), (1, .ref (ad.1 6 pp)), (2, .int (nI dd)), (3, .int (nI er)), (4, .int (nI cn))]) hx hb dX0_addDay_132 hl (k := 5) rfl (by decide) (by decide) rfl (fun ls hl => ?_)
              refine lv_goto (tgt := 22) hx hb dX0_addDay_135 (by decide) ?_
              exact ih_lp22 cn (h + 1) d _ _ ls (by omega) (by omega) hI hSH h16 hSI hOL hW hS (lv_sub hl [1, 2, 3, 4, 5, 0] rfl)
            · obtain ⟨m0, hm0, hb0, hh0⟩ := HB_ex (lg0n c_z)
              refine n_sipush (v := 200) hx hb dX0_addDay_49 (by decide) ?_
              refine lv_iload hx hb dX0_addDay_52 (lv_at hl 5 rfl) ?_
              refine lv_iload_n hx hb dX0_addDay_54 rfl (lv_at hl 3 rfl) ?_
              refine n_iadd hx hb dX0_addDay_55 ?_
              refine va_mmin hx hb (hml.trans hl.1.symm) hown (hu _ uM_X0_39) (hu _ uT_J9_min_7cf53) (hu _ uI_J9) (hu _ uC_J9_min_7cf53) (Nat.le_of_ble_eq_true rfl) (Nat.le_of_ble_eq_true rfl) (Nat.le_of_ble_eq_true rfl) (Nat.le_of_ble_eq_true rfl) dX0_addDay_56 ?_
              refine n_topi (y := nI (min 200 (h + er))) (n_min (by omega) (by omega)) ?_
              refine lv_istore (lv' := [(6, .int (nI (min 200 (h + er)))), (0, .ref (ad.1 16 0)), (1, .ref (ad.1 6 pp)), (2, .int (nI dd)), (3, .int (nI er)), (4, .int (nI cn)), (5, .int (nI h))]) hx hb dX0_addDay_59 hl (by decide) rfl (fun ls hl => ?_)
              refine n_iconst (v := 0) hx hb dX0_addDay_61 (by decide) ?_
              refine lv_iload hx hb dX0_addDay_62 (lv_at hl 6 rfl) ?_
              refine lv_iload_n hx hb dX0_addDay_64 rfl (lv_at hl 4 rfl) ?_
              refine lv_isub hx hb dX0_addDay_65 ?_
              refine va_mmax hx hb (hml.trans hl.1.symm) hown (hu _ uM_X0_45) (hu _ uT_J9_max_7cf53) (hu _ uI_J9) (hu _ uC_J9_max_7cf53) (Nat.le_of_ble_eq_true rfl) (Nat.le_of_ble_eq_true rfl) (Nat.le_of_ble_eq_true rfl) (Nat.le_of_ble_eq_true rfl) dX0_addDay_66 ?_
              refine n_topi (y := nI (max 0 (h - er))) (n_max0 (by omega) (by omega)) ?_
              refine lv_istore (lv' := [(7, .int (nI (max 0 (h - er)))), (6, .int (nI (min 200 (h + er)))), (0, .ref (ad.1 16 0)), (1, .ref (ad.1 6 pp)), (2, .int (nI dd)), (3, .int (nI er)), (4, .int (nI cn)), (5, .int (nI h))]) hx hb dX0_addDay_69 hl (by decide) rfl (fun ls hl => ?_)
              refine lv_aload_n hx hb dX0_addDay_71 rfl (lv_at hl 2 rfl) ?_
              refine x_gr hx hb hu in_X0 hown hK hW (hA.o (k := 16) rfl) (kX_16 _ _ _ _) rfl 0 (by decide) uF_X0_9 (hA.ah 0 (k := 17) (by decide)) dX0_addDay_72 ?_
              refine lv_aload_n hx hb dX0_addDay_75 rfl (lv_at hl 2 rfl) ?_
              refine x_gi hx hb hu in_X0 hown hK hW (hA.o (k := 16) rfl) (kX_16 _ _ _ _) rfl 5 (by decide) uF_X0_28 dX0_addDay_76 ?_
              refine n_topi (y := nI s0) (h16) ?_
              refine n_bipush (v := 64) hx hb dX0_addDay_79 (by decide) ?_
              refine n_imul hx hb dX0_addDay_81 ?_
              refine lv_iload hx hb dX0_addDay_82 (lv_at hl 6 rfl) ?_
              refine n_iadd hx hb dX0_addDay_84 ?_
              refine n_top (b := 64 * s0 + cn) (by omega) ?_
              refine lv_aload_n hx hb dX0_addDay_85 rfl (lv_at hl 2 rfl) ?_
              refine x_gr hx hb hu in_X0 hown hK hW (hA.o (k := 16) rfl) (kX_16 _ _ _ _) rfl 3 (by decide) uF_X0_22 (hA.ah 3 (k := 20) (by decide)) dX0_addDay_86 ?_
              refine lv_iload hx hb dX0_addDay_89 (lv_at hl 7 rfl) ?_
              refine x_ll hx hb hK hW (hA.o (k := 20) rfl) (kX_20 _ _ _ _) (by decide) (by omega) dX0_addDay_91 ?_
              refine n_topl (y := (sHB S pp x dd h)) (hSH.1 h (by omega)) ?_
              refine x_ls hx hb hK hW hS (hA.o (k := 17) rfl) (kJ_17 _ _ _ _) (by decide) (by omega) dX0_addDay_92 (fun H locs hW hS => ?_)
              have hI := hI.uJ 17 0 (64 * s0 + cn) (sHB S pp x dd h) (decide_eq_true (by omega))
              refine lv_aload_n hx hb dX0_addDay_93 rfl (lv_at hl 2 rfl) ?_
              refine x_gr hx hb hu in_X0 hown hK hW (hA.o (k := 16) rfl) (kX_16 _ _ _ _) rfl 1 (by decide) uF_X0_15 (hA.ah 1 (k := 18) (by decide)) dX0_addDay_94 ?_
              refine lv_aload_n hx hb dX0_addDay_97 rfl (lv_at hl 2 rfl) ?_
              refine x_gi hx hb hu in_X0 hown hK hW (hA.o (k := 16) rfl) (kX_16 _ _ _ _) rfl 5 (by decide) uF_X0_28 dX0_addDay_98 ?_
              refine n_topi (y := nI s0) (h16) ?_
              refine n_bipush (v := 64) hx hb dX0_addDay_101 (by decide) ?_
              refine n_imul hx hb dX0_addDay_103 ?_
              refine lv_iload hx hb dX0_addDay_104 (lv_at hl 6 rfl) ?_
              refine n_iadd hx hb dX0_addDay_106 ?_
              refine n_top (b := 64 * s0 + cn) (by omega) ?_
              refine lv_aload_n hx hb dX0_addDay_107 rfl (lv_at hl 2 rfl) ?_
              refine x_gr hx hb hu in_X0 hown hK hW (hA.o (k := 16) rfl) (kX_16 _ _ _ _) rfl 4 (by decide) uF_X0_25 (hA.ah 4 (k := 21) (by decide)) dX0_addDay_108 ?_
              refine lv_iload hx hb dX0_addDay_111 (lv_at hl 1 rfl) ?_
              refine n_iconst (v := 1) hx hb dX0_addDay_113 (by decide) ?_
              refine n_iadd hx hb dX0_addDay_114 ?_
              refine x_ll hx hb hK hW (hA.o (k := 21) rfl) (kX_21 _ _ _ _) (by decide) (by omega) dX0_addDay_115 ?_
              refine n_topl (y := sNA S pp x dd (min 200 (h + er) + 1)) (hSH.2 _ (by omega)) ?_
              refine lv_aload_n hx hb dX0_addDay_116 rfl (lv_at hl 2 rfl) ?_
              refine x_gr hx hb hu in_X0 hown hK hW (hA.o (k := 16) rfl) (kX_16 _ _ _ _) rfl 4 (by decide) uF_X0_25 (hA.ah 4 (k := 21) (by decide)) dX0_addDay_117 ?_
              refine lv_iload hx hb dX0_addDay_120 (lv_at hl 0 rfl) ?_
              refine x_ll hx hb hK hW (hA.o (k := 21) rfl) (kX_21 _ _ _ _) (by decide) (by omega) dX0_addDay_122 ?_
              refine n_topl (y := sNA S pp x dd (max 0 (h - er))) (hSH.2 _ (by omega)) ?_
              refine lv_ldc2 (v := (-1)) hx hb hown (hu _ uK_X0_48) dX0_addDay_123 ?_
              refine lv_lxor hx hb dX0_addDay_126 ?_
              refine lv_land hx hb dX0_addDay_127 ?_
              refine n_topl (y := sLeft S pp x dd er m0) (by have z := left_NA (S := S) (p := pp) (x := x) (day := dd) (er := er) (m := m0) hG (by omega); rw [hh0] at z; exact z) ?_
              refine x_ls hx hb hK hW hS (hA.o (k := 18) rfl) (kJ_18 _ _ _ _) (by decide) (by omega) dX0_addDay_128 (fun H locs hW hS => ?_)
              have hI := hI.uJ 18 0 (64 * s0 + cn) (sLeft S pp x dd er m0) (decide_eq_true (by omega))
              have hSI := hSI.yes hm0 hb0 hh0 (v := (sHB S pp x dd h)) (w := (sLeft S pp x dd er m0)) (by rw [hh0]) rfl
              have hOL := hOL.st cn (sHB S pp x dd h) (sLeft S pp x dd er m0)
              refine n_iinc (q := 1) (lv' := [(4, .int (nI (cn + 1))), (7, .int (nI (max 0 (h - er)))), (6, .int (nI (min 200 (h + er)))), (0, .ref (ad.1 16 0)), (1, .ref (ad.1 6 pp)), (2, .int (nI dd)), (3, .int (nI er)), (5, .int (nI h))]) hx hb dX0_addDay_129 hl (k := 6) rfl (by decide) (by decide) rfl (fun ls hl => ?_)
              refine n_iinc (q := 1) (lv' := [(5, .int (nI (h + 1))), (4, .int (nI (cn + 1))), (7, .int (nI (max 0 (h - er)))), (6, .int (nI (min 200 (h + er)))), (0, .ref (ad.1 16 0)), (1, .ref (ad.1 6 pp)), (2, .int (nI dd)), (3, .int (nI er))]) hx hb dX0_addDay_132 hl (k := 7) rfl (by decide) (by decide) rfl (fun ls hl => ?_)
              refine lv_goto (tgt := 22) hx hb dX0_addDay_135 (by decide) ?_
              exact ih_lp22 (cn + 1) (h + 1) (uJ (uJ d 17 0 (64 * s0 + cn) (sHB S pp x dd h)) 18 0 (64 * s0 + cn) (sLeft S pp x dd er m0)) _ _ ls (by omega) (by omega) hI hSH h16 hSI hOL hW hS (lv_sub hl [4, 5, 6, 7, 1, 0] rfl)
    exact lp22 (202) 0 0 d_2 _ _ ls (by omega) (by omega) hI hSH h16 hSI hOL hW hS (lv_sub hl [2, 3, 4, 5, 1, 0] rfl)
  · exfalso; omega

set_option maxHeartbeats 400000 in
set_option maxRecDepth 100000 in
theorem c_X0_mostLeft (l : Launch) (D : va_G) (cA : Nat → ClassId) (B0 : Nat) (ad : kA) (hal : mAl ad) (S : sS) (d0 : kD) (hM : InvX cA ad S d0) (pp dd : Nat) (x : Int64) (er : Nat) (hp : pp < S 7 0) (hd : dd < 400) (hx0 : d0.2.1 6 pp 12 = x) (her : er ≤ 50) : oM l yX0_mostLeft wX0_mostLeft 6 0 0 D cA B0 ad d0 ([.ref (ad.1 16 0), .ref (ad.1 6 pp), .int (nI dd), .int (nI er)] : List Value) (oQi D cA B0 ad (fun r d1 => r = nI (sWorst S pp x dd er) ∧ XA cA ad S d0 d1)) := by
  refine o_ofW (cc := cX0_mostLeft) (maxL := 6) (ret := some .int) (by decide) rfl (Nat.le_of_ble_eq_true rfl) ?_
  intro p e s m below meth c hx hb hr hml hts hown hlocks hnm hK hW hB hS ls hl
  have hu : ∀ w ∈ UW, w.before _ s = true := fun w h => hts w (uw_c w h)
  have hl : lv_has ls 6 [(0, .ref (ad.1 16 0)), (1, .ref (ad.1 6 pp)), (2, .int (nI dd)), (3, .int (nI er))] := hl
  have hX := hM.1
  have hA := hX.1
  have hG := hX.2.2
  have hb7 : S 7 0 ≤ 8 := hG.f 7 (mx := 8) (by decide)
  have hb11 : S 11 0 ≤ 20 := hG.f 11 (mx := 20) (by decide)
  have hb18 : S 18 0 ≤ 40 := hG.f 18 (mx := 40) (by decide)
  have hI : XA cA ad S d0 d0 := XA.start hM
  refine lv_aload_n hx hb dX0_mostLeft_0 rfl (lv_at hl 0 rfl) ?_
  refine o_callv (o_runV (As := []) (rest := []) ⟨hx, hb, hml, hown, hu⟩ (c_X0_clear l D cA B0 ad hal S d0 hI.1.1) (gV_X0_74 (fun _ h => h)) (n0 := 0) rfl (by decide +kernel) rfl ⟨Nat.le_of_ble_eq_true rfl, Nat.le_of_ble_eq_true rfl⟩ (o_recv hK hW (hA.o (k := 16) rfl) (kX_16 _ _ _ _) rfl) hK hW hB hS hl.1 rfl (lv_room (Nat.le_of_ble_eq_true rfl)) ⟨Nat.zero_le _, Nat.zero_le _⟩ dX0_mostLeft_1) hS (fun d_1 q_3 H locs hW hS => ?_)
  subst q_3
  have hI := hI.uI 16 0 5 (nI 0) (Or.inl rfl)
  refine lv_aload_n hx hb dX0_mostLeft_4 rfl (lv_at hl 0 rfl) ?_
  refine lv_aload_n hx hb dX0_mostLeft_5 rfl (lv_at hl 1 rfl) ?_
  refine lv_iload_n hx hb dX0_mostLeft_6 rfl (lv_at hl 2 rfl) ?_
  refine lv_iload_n hx hb dX0_mostLeft_7 rfl (lv_at hl 3 rfl) ?_
  refine o_callv (o_runV (As := [.ref (ad.1 6 pp), .int (nI dd), .int (nI er)]) (rest := []) ⟨hx, hb, hml, hown, hu⟩ (c_X0_addDay l D cA B0 ad hal S (uI d0 16 0 5 (nI 0)) hI.1 pp dd x er 0 hp hd hx0 her rfl (by omega)) (gV_X0_77 (fun _ h => h)) (n0 := 3) rfl (by decide +kernel) rfl ⟨Nat.le_of_ble_eq_true rfl, Nat.le_of_ble_eq_true rfl⟩ (o_recv hK hW (hA.o (k := 16) rfl) (kX_16 _ _ _ _) rfl) hK hW hB hS hl.1 rfl (lv_room (Nat.le_of_ble_eq_true rfl)) ⟨Nat.zero_le _, Nat.zero_le _⟩ dX0_mostLeft_8) hS (fun dA q_5 H locs hW hS => ?_)
  obtain ⟨hq, hSL, hsl, hOL⟩ := q_5
  have hI := hI.trans hq
  obtain ⟨cn, hc6, h19, rep, hrep, hcov⟩ := hSL
  refine n_iconst (v := 0) hx hb dX0_mostLeft_11 (by decide) ?_
  refine lv_istore (lv' := [(4, .int (nI 0)), (0, .ref (ad.1 16 0)), (1, .ref (ad.1 6 pp)), (2, .int (nI dd)), (3, .int (nI er))]) hx hb dX0_mostLeft_12 hl (by decide) rfl (fun ls hl => ?_)
  refine n_iconst (v := 0) hx hb dX0_mostLeft_14 (by decide) ?_
  refine lv_istore (lv' := [(5, .int (nI 0)), (4, .int (nI 0)), (0, .ref (ad.1 16 0)), (1, .ref (ad.1 6 pp)), (2, .int (nI dd)), (3, .int (nI er))]) hx hb dX0_mostLeft_15 hl (by decide) rfl (fun ls hl => ?_)
  have lp17 : ∀ (n : Nat) (w : Nat) (i : Nat)  (H : Heap) (locs : List Loc) (ls : Array Slot), cn - i < n → (i ≤ cn) → (∀ j, j < i → popN (sLeft S pp x dd er (rep j)) ≤ w) → (w ≤ sWorst S pp x dd er) → oW D cA B0 ad dA H → va_S (oA B0) s.heap H locs → lv_has ls 6 [(0, .ref (ad.1 16 0)), (1, .ref (ad.1 6 pp)), (2, .int (nI dd)), (3, .int (nI er)), (4, .int (nI w)), (5, .int (nI i))] → W p l e (oR 6 0 0) s m ([.ref (ad.1 16 0), .ref (ad.1 6 pp), .int (nI dd), .int (nI er)] : List Value).toArray below meth c H locs 0 0 (MQ below (oQi D cA B0 ad (fun r d1 => r = nI (sWorst S pp x dd er) ∧ XA cA ad S d0 d1)) ([.ref (ad.1 16 0), .ref (ad.1 6 pp), .int (nI dd), .int (nI er)] : List Value).toArray s 0 0 (oA B0)) (F0 m 17 ls []) := by
    intro n
    induction n with
    | zero => intro w i  H locs ls hmu; exact absurd hmu (Nat.not_lt_zero _)
    | succ n ih_lp17 =>
      intro w i  H locs ls hmu hi hw1 hw2 hW hS hl
      have hwl := sWorst_le S pp x dd er
      refine lv_iload hx hb dX0_mostLeft_17 (lv_at hl 5 rfl) ?_
      refine lv_aload_n hx hb dX0_mostLeft_19 rfl (lv_at hl 0 rfl) ?_
      refine x_gr hx hb hu in_X0 hown hK hW (hA.o (k := 16) rfl) (kX_16 _ _ _ _) rfl 2 (by decide) uF_X0_18 (hA.ah 2 (k := 19) (by decide)) dX0_mostLeft_20 ?_
      refine n_iconst (v := 0) hx hb dX0_mostLeft_23 (by decide) ?_
      refine x_il hx hb hK hW (hA.o (k := 19) rfl) (kX_19 _ _ _ _) (by decide) (by omega) dX0_mostLeft_24 ?_
      refine n_topi (y := nI cn) (h19) ?_
      refine n_icmp_ge (tgt := 51) hx hb (by omega) (by omega) dX0_mostLeft_25 (by decide) (fun c_6 => ?_) (fun c_6 => ?_)
      · refine lv_iload hx hb dX0_mostLeft_51 (lv_at hl 4 rfl) ?_
        exact o_iret hx hb hr hlocks hW hS (⟨congrArg nI (Nat.le_antisymm hw2 (wvL_max 64 (fun m hm hb => by obtain ⟨j, hj, hr⟩ := hcov m hm hb; rw [← left_hole hr]; exact hw1 j (by omega)))), hI⟩) dX0_mostLeft_53
      · refine lv_iload hx hb dX0_mostLeft_28 (lv_at hl 4 rfl) ?_
        refine lv_aload_n hx hb dX0_mostLeft_30 rfl (lv_at hl 0 rfl) ?_
        refine x_gr hx hb hu in_X0 hown hK hW (hA.o (k := 16) rfl) (kX_16 _ _ _ _) rfl 1 (by decide) uF_X0_15 (hA.ah 1 (k := 18) (by decide)) dX0_mostLeft_31 ?_
        refine lv_iload hx hb dX0_mostLeft_34 (lv_at hl 5 rfl) ?_
        refine x_ll hx hb hK hW (hA.o (k := 18) rfl) (kX_18 _ _ _ _) (by decide) (by omega) dX0_mostLeft_36 ?_
        refine n_topl (y := sLeft S pp x dd er (rep i)) (by have z := (hrep i (by omega)).2.2.2; rw [show 64 * 0 + i = i by omega] at z; exact z) ?_
        refine o_calli (o_runS (As := [.long (sLeft S pp x dd er (rep i))]) (rest := [.int (nI w)]) ⟨hx, hb, hml, hown, hu⟩ (c_J13_bitCount_95d88 l D cA B0 ad hal dA (sLeft S pp x dd er (rep i))) (gS_X0_81 (fun _ h => h)) (n0 := 1) rfl (by decide +kernel) rfl ⟨Nat.le_of_ble_eq_true rfl, Nat.le_of_ble_eq_true rfl⟩ hK hW hB hS hl.1 rfl (lv_room (Nat.le_of_ble_eq_true rfl)) ⟨Nat.zero_le _, Nat.zero_le _⟩ dX0_mostLeft_37) hS (fun r_8 d_7 q_9 H locs hW hS => ?_)
        obtain ⟨rfl, rfl⟩ := q_9
        have b_10 := popN_le (sLeft S pp x dd er (rep i))
        refine va_mmax hx hb (hml.trans hl.1.symm) hown (hu _ uM_X0_45) (hu _ uT_J9_max_7cf53) (hu _ uI_J9) (hu _ uC_J9_max_7cf53) (Nat.le_of_ble_eq_true rfl) (Nat.le_of_ble_eq_true rfl) (Nat.le_of_ble_eq_true rfl) (Nat.le_of_ble_eq_true rfl) dX0_mostLeft_40 ?_
        refine n_topi (y := nI (max w (popN (sLeft S pp x dd er (rep i))))) (n_max (by omega) (by omega)) ?_
        have hub : popN (sLeft S pp x dd er (rep i)) ≤ sWorst S pp x dd er := wvL_ub (f := popN) (hrep i (by omega)).2.1 64 (hrep i (by omega)).1
        refine lv_istore (lv' := [(4, .int (nI (max w (popN (sLeft S pp x dd er (rep i)))))), (0, .ref (ad.1 16 0)), (1, .ref (ad.1 6 pp)), (2, .int (nI dd)), (3, .int (nI er)), (5, .int (nI i))]) hx hb dX0_mostLeft_43 hl (by decide) rfl (fun ls hl => ?_)
        refine n_iinc (q := 1) (lv' := [(5, .int (nI (i + 1))), (4, .int (nI (max w (popN (sLeft S pp x dd er (rep i)))))), (0, .ref (ad.1 16 0)), (1, .ref (ad.1 6 pp)), (2, .int (nI dd)), (3, .int (nI er))]) hx hb dX0_mostLeft_45 hl (k := 5) rfl (by decide) (by decide) rfl (fun ls hl => ?_)
        refine lv_goto (tgt := 17) hx hb dX0_mostLeft_48 (by decide) ?_
        exact ih_lp17 (max w (popN (sLeft S pp x dd er (rep i)))) (i + 1) _ _ ls (by omega) (by omega) (lt_ext hw1) (by omega) hW hS (lv_sub hl [2, 3, 4, 5, 1, 0] rfl)
  exact lp17 (cn + 1) 0 0 _ _ ls (by omega) (by omega) (fun _ h => absurd h (Nat.not_lt_zero _)) (Nat.zero_le _) hW hS (lv_sub hl [2, 3, 4, 5, 1, 0] rfl)
