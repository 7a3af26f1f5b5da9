set_option maxHeartbeats 400000 in
set_option maxRecDepth 100000 in
theorem c_X10_goDays (l : Launch) (D : va_G) (cA : Nat → ClassId) (B0 : Nat) (ad : kA) (hal : mAl ad) (S : sS) (d0 : kD) (hM : InvM S d0) (bb aa zz sh : Nat) (hb0 : bb < S 25 0) (haz : aa ≤ zz) (hz : zz < 400) (hsh : sh ≤ 1000) : oM l yX10_goDays wX10_goDays 10 0 0 D cA B0 ad d0 ([.ref (ad.1 40 0), .int (nI bb), .int (nI aa), .int (nI zz), .int (nI sh)] : List Value) (oQv D cA B0 ad (fun d1 => GD S d0 d1 (gdL S bb sh aa (zz + 1 - aa)))) := by
  refine o_ofW (cc := cX10_goDays) (maxL := 8) (ret := none) (by decide) rfl (Nat.le_of_ble_eq_true rfl) ?_
  intro p e s m below meth c hx hb hr hml hts hown hlocks hnm hK hW hB hS ls hl
  have hu : ∀ w ∈ UW, w.before _ s = true := fun w h => hts w (uw_c w h)
  have hl : lv_has ls 8 [(0, .ref (ad.1 40 0)), (1, .int (nI bb)), (2, .int (nI aa)), (3, .int (nI zz)), (4, .int (nI sh))] := hl
  have hG : sG S := hM.2.1
  have hb7 : S 7 0 ≤ 8 := hG.f 7 (mx := 8) (by decide)
  have hb25 : S 25 0 ≤ 4 := hG.f 25 (mx := 4) (by decide)
  refine lv_aload_n hx hb dX10_goDays_0 rfl (lv_at hl 0 rfl) ?_
  refine n_iconst (v := 0) hx hb dX10_goDays_1 (by decide) ?_
  refine mo_pi hx hb hu hown hK hal hW hS 43 (by decide +kernel) uF_X10_287 dX10_goDays_2 (fun H locs hW hS => ?_)
  refine lv_aload_n hx hb dX10_goDays_5 rfl (lv_at hl 0 rfl) ?_
  refine n_iconst (v := 0) hx hb dX10_goDays_6 (by decide) ?_
  refine mo_pi hx hb hu hown hK hal hW hS 44 (by decide +kernel) uF_X10_290 dX10_goDays_7 (fun H locs hW hS => ?_)
  refine lv_aload_n hx hb dX10_goDays_10 rfl (lv_at hl 0 rfl) ?_
  refine n_iconst (v := 0) hx hb dX10_goDays_11 (by decide) ?_
  refine mo_pi hx hb hu hown hK hal hW hS 45 (by decide +kernel) uF_X10_293 dX10_goDays_12 (fun H locs hW hS => ?_)
  refine lv_iload_n hx hb dX10_goDays_15 rfl (lv_at hl 2 rfl) ?_
  refine lv_istore (lv' := [(5, .int (nI aa)), (0, .ref (ad.1 40 0)), (1, .int (nI bb)), (2, .int (nI aa)), (3, .int (nI zz)), (4, .int (nI sh))]) hx hb dX10_goDays_16 hl (by decide) rfl (fun ls hl => ?_)
  have lp18 : ∀ (n : Nat) (dy : Nat)  (d : kD) (H : Heap) (locs : List Loc) (ls : Array Slot), zz + 1 - dy < n → (aa ≤ dy) → (dy ≤ zz + 1) → (GD S d0 d (gdL S bb sh aa (dy - aa))) → oW D cA B0 ad d H → va_S (oA B0) s.heap H locs → lv_has ls 8 [(0, .ref (ad.1 40 0)), (1, .int (nI bb)), (2, .int (nI aa)), (3, .int (nI zz)), (4, .int (nI sh)), (5, .int (nI dy))] → W p l e (oR 10 0 0) s m ([.ref (ad.1 40 0), .int (nI bb), .int (nI aa), .int (nI zz), .int (nI sh)] : List Value).toArray below meth c H locs 0 0 (MQ below (oQv D cA B0 ad (fun d1 => GD S d0 d1 (gdL S bb sh aa (zz + 1 - aa)))) ([.ref (ad.1 40 0), .int (nI bb), .int (nI aa), .int (nI zz), .int (nI sh)] : List Value).toArray s 0 0 (oA B0)) (F0 m 18 ls []) := by
    intro n
    induction n with
    | zero => intro dy  d H locs ls hmu; exact absurd hmu (Nat.not_lt_zero _)
    | succ n ih_lp18 =>
      intro dy  d H locs ls hmu hd1 hd2 hGD hW hS hl
      have hgl := gdL_le S bb sh aa (dy - aa)
      refine lv_iload hx hb dX10_goDays_18 (lv_at hl 5 rfl) ?_
      refine lv_iload_n hx hb dX10_goDays_20 rfl (lv_at hl 3 rfl) ?_
      refine n_icmp_gt (tgt := 144) hx hb (by omega) (by omega) dX10_goDays_21 (by decide) (fun c_1 => ?_) (fun c_1 => ?_)
      · exact o_vret hx hb hr hlocks hW hS ((show dy = zz + 1 by omega) ▸ hGD) dX10_goDays_144
      · refine n_iconst (v := 0) hx hb dX10_goDays_24 (by decide) ?_
        refine lv_istore (lv' := [(6, .int (nI 0)), (0, .ref (ad.1 40 0)), (1, .int (nI bb)), (2, .int (nI aa)), (3, .int (nI zz)), (4, .int (nI sh)), (5, .int (nI dy))]) hx hb dX10_goDays_25 hl (by decide) rfl (fun ls hl => ?_)
        refine n_iconst (v := 0) hx hb dX10_goDays_27 (by decide) ?_
        refine lv_istore (lv' := [(7, .int (nI 0)), (6, .int (nI 0)), (0, .ref (ad.1 40 0)), (1, .int (nI bb)), (2, .int (nI aa)), (3, .int (nI zz)), (4, .int (nI sh)), (5, .int (nI dy))]) hx hb dX10_goDays_28 hl (by decide) rfl (fun ls hl => ?_)
        have lp30 : ∀ (n : Nat) (w : Nat) (k : Nat)  (d : kD) (H : Heap) (locs : List Loc) (ls : Array Slot), S 7 0 - k < n → (k ≤ S 7 0) → (w = twL S bb dy k) → (GD S d0 d (gdL S bb sh aa (dy - aa))) → oW D cA B0 ad d H → va_S (oA B0) s.heap H locs → lv_has ls 8 [(0, .ref (ad.1 40 0)), (1, .int (nI bb)), (2, .int (nI aa)), (3, .int (nI zz)), (4, .int (nI sh)), (5, .int (nI dy)), (6, .int (nI w)), (7, .int (nI k))] → W p l e (oR 10 0 0) s m ([.ref (ad.1 40 0), .int (nI bb), .int (nI aa), .int (nI zz), .int (nI sh)] : List Value).toArray below meth c H locs 0 0 (MQ below (oQv D cA B0 ad (fun d1 => GD S d0 d1 (gdL S bb sh aa (zz + 1 - aa)))) ([.ref (ad.1 40 0), .int (nI bb), .int (nI aa), .int (nI zz), .int (nI sh)] : List Value).toArray s 0 0 (oA B0)) (F0 m 30 ls []) := by
          intro n
          induction n with
          | zero => intro w k  d H locs ls hmu; exact absurd hmu (Nat.not_lt_zero _)
          | succ n ih_lp30 =>
            intro w k  d H locs ls hmu hk hw hGD hW hS hl
            have hw3 := twL_le S bb dy k
            refine lv_iload hx hb dX10_goDays_30 (lv_at hl 7 rfl) ?_
            refine lv_aload_n hx hb dX10_goDays_32 rfl (lv_at hl 0 rfl) ?_
            refine mo_gi hx hb hu hown hK hal hW hGD.1.1 7 (by decide) uF_X10_116 dX10_goDays_33 ?_
            have b_2 : S 7 0 ≤ 8 := hG.f 7 (mx := 8) (by decide)
            refine n_icmp_ge (tgt := 82) hx hb (by omega) (by omega) dX10_goDays_36 (by decide) (fun c_3 => ?_) (fun c_3 => ?_)
            · refine lv_aload_n hx hb dX10_goDays_82 rfl (lv_at hl 0 rfl) ?_
              refine lv_iload_n hx hb dX10_goDays_83 rfl (lv_at hl 1 rfl) ?_
              refine lv_iload hx hb dX10_goDays_84 (lv_at hl 5 rfl) ?_
              refine lv_iload hx hb dX10_goDays_86 (lv_at hl 4 rfl) ?_
              have hI : MI S d d := MI.start hGD.1
              have hw2 : w = twL S bb dy (S 7 0) := by rw [hw, show k = S 7 0 by omega]
              refine o_calli (o_runV (As := [.int (nI bb), .int (nI dy), .int (nI sh)]) (rest := []) ⟨hx, hb, hml, hown, hu⟩ (c_X10_isShut l D cA B0 ad hal S d hI.1 bb dy sh (by omega) (by omega) (by omega)) (gV_X10_284 (fun _ h => h)) (n0 := 3) rfl (by decide +kernel) rfl ⟨Nat.le_of_ble_eq_true rfl, Nat.le_of_ble_eq_true rfl⟩ (o_recv hK hW hal.1 (kC_M _ _ _) rfl) hK hW hB hS hl.1 rfl (lv_room (Nat.le_of_ble_eq_true rfl)) ⟨Nat.zero_le _, Nat.zero_le _⟩ dX10_goDays_88) hS (fun r_5 d_4 q_6 H locs hW hS => ?_)
              obtain ⟨rfl, hq⟩ := q_6
              have hI := hI.trans hq
              have hGD := hGD.mi hI
              refine lv_if_eq (tgt := 122) hx hb dX10_goDays_91 (by decide) (fun c_s => ?_) (fun c_s => ?_)
              · refine lv_iload hx hb dX10_goDays_122 (lv_at hl 6 rfl) ?_
                refine n_iconst (v := 2) hx hb dX10_goDays_124 (by decide) ?_
                refine n_icmp_ne (tgt := 138) hx hb (by omega) (by omega) dX10_goDays_125 (by decide) (fun c_v => ?_) (fun c_v => ?_)
                · have hst : gdL S bb sh aa (dy + 1 - aa) = (gdL S bb sh aa (dy - aa)) := by rw [show dy + 1 - aa = (dy - aa) + 1 by omega, gdL, show aa + (dy - aa) = dy by omega, if_neg (by rw [bI_z c_s]; decide), if_neg (by rw [← hw2]; exact c_v)]
                  refine n_iinc (q := 1) (lv' := [(5, .int (nI (dy + 1))), (0, .ref (ad.1 40 0)), (1, .int (nI bb)), (2, .int (nI aa)), (3, .int (nI zz)), (4, .int (nI sh)), (6, .int (nI w)), (7, .int (nI k))]) hx hb dX10_goDays_138 hl (k := 5) rfl (by decide) (by decide) rfl (fun ls hl => ?_)
                  refine lv_goto (tgt := 18) hx hb dX10_goDays_141 (by decide) ?_
                  exact ih_lp18 (dy + 1) d_4 _ _ ls (by omega) (by omega) (by omega) (by rw [hst]; exact hGD) hW hS (lv_sub hl [1, 2, 3, 4, 5, 0] rfl)
                · have hst : gdL S bb sh aa (dy + 1 - aa) = ((gdL S bb sh aa (dy - aa)).1, (gdL S bb sh aa (dy - aa)).2.1 + 1, (gdL S bb sh aa (dy - aa)).2.2) := by rw [show dy + 1 - aa = (dy - aa) + 1 by omega, gdL, show aa + (dy - aa) = dy by omega, if_neg (by rw [bI_z c_s]; decide), if_pos (by rw [← hw2]; exact c_v)]
                  refine lv_aload_n hx hb dX10_goDays_128 rfl (lv_at hl 0 rfl) ?_
                  refine lv_dup hx hb dX10_goDays_129 rfl ?_
                  refine mo_gr hx hb hu hown hK hal hW 44 (by decide) uF_X10_290 dX10_goDays_130 ?_
                  refine n_topi (y := nI ((gdL S bb sh aa (dy - aa)).2.1)) (hGD.2.2.2.2.1) ?_
                  refine n_iconst (v := 1) hx hb dX10_goDays_133 (by decide) ?_
                  refine n_iadd hx hb dX10_goDays_134 ?_
                  refine mo_pi hx hb hu hown hK hal hW hS 44 (by decide +kernel) uF_X10_290 dX10_goDays_135 (fun H locs hW hS => ?_)
                  have hGD := hGD.p4
                  refine n_iinc (q := 1) (lv' := [(5, .int (nI (dy + 1))), (0, .ref (ad.1 40 0)), (1, .int (nI bb)), (2, .int (nI aa)), (3, .int (nI zz)), (4, .int (nI sh)), (6, .int (nI w)), (7, .int (nI k))]) hx hb dX10_goDays_138 hl (k := 5) rfl (by decide) (by decide) rfl (fun ls hl => ?_)
                  refine lv_goto (tgt := 18) hx hb dX10_goDays_141 (by decide) ?_
                  exact ih_lp18 (dy + 1) (uI d_4 40 0 44 (nI (((gdL S bb sh aa (dy - aa)).2.1) + 1))) _ _ ls (by omega) (by omega) (by omega) (by rw [hst]; exact hGD) hW hS (lv_sub hl [1, 2, 3, 4, 5, 0] rfl)
              · refine lv_aload_n hx hb dX10_goDays_94 rfl (lv_at hl 0 rfl) ?_
                refine lv_dup hx hb dX10_goDays_95 rfl ?_
                refine mo_gr hx hb hu hown hK hal hW 43 (by decide) uF_X10_287 dX10_goDays_96 ?_
                refine n_topi (y := nI ((gdL S bb sh aa (dy - aa)).1)) (hGD.2.2.2.1) ?_
                refine n_iconst (v := 1) hx hb dX10_goDays_99 (by decide) ?_
                refine n_iadd hx hb dX10_goDays_100 ?_
                refine mo_pi hx hb hu hown hK hal hW hS 43 (by decide +kernel) uF_X10_287 dX10_goDays_101 (fun H locs hW hS => ?_)
                have hGD := hGD.p3
                refine lv_iload hx hb dX10_goDays_104 (lv_at hl 6 rfl) ?_
                refine n_if_ne (tgt := 138) hx hb (by omega) dX10_goDays_106 (by decide) (fun c_w => ?_) (fun c_w => ?_)
                · have hst : gdL S bb sh aa (dy + 1 - aa) = ((gdL S bb sh aa (dy - aa)).1 + 1, (gdL S bb sh aa (dy - aa)).2.1, (gdL S bb sh aa (dy - aa)).2.2) := by rw [show dy + 1 - aa = (dy - aa) + 1 by omega, gdL, show aa + (dy - aa) = dy by omega, if_pos (bI_n c_s), if_neg (by rw [← hw2]; exact c_w)]
                  refine n_iinc (q := 1) (lv' := [(5, .int (nI (dy + 1))), (0, .ref (ad.1 40 0)), (1, .int (nI bb)), (2, .int (nI aa)), (3, .int (nI zz)), (4, .int (nI sh)), (6, .int (nI w)), (7, .int (nI k))]) hx hb dX10_goDays_138 hl (k := 5) rfl (by decide) (by decide) rfl (fun ls hl => ?_)
                  refine lv_goto (tgt := 18) hx hb dX10_goDays_141 (by decide) ?_
                  exact ih_lp18 (dy + 1) (uI d_4 40 0 43 (nI (((gdL S bb sh aa (dy - aa)).1) + 1))) _ _ ls (by omega) (by omega) (by omega) (by rw [hst]; exact hGD) hW hS (lv_sub hl [1, 2, 3, 4, 5, 0] rfl)
                · have hst : gdL S bb sh aa (dy + 1 - aa) = ((gdL S bb sh aa (dy - aa)).1 + 1, (gdL S bb sh aa (dy - aa)).2.1, (gdL S bb sh aa (dy - aa)).2.2 + 1) := by rw [show dy + 1 - aa = (dy - aa) + 1 by omega, gdL, show aa + (dy - aa) = dy by omega, if_pos (bI_n c_s), if_pos (by rw [← hw2]; exact c_w)]
                  refine lv_aload_n hx hb dX10_goDays_109 rfl (lv_at hl 0 rfl) ?_
                  refine lv_dup hx hb dX10_goDays_110 rfl ?_
                  refine mo_gr hx hb hu hown hK hal hW 45 (by decide) uF_X10_293 dX10_goDays_111 ?_
                  refine n_topi (y := nI ((gdL S bb sh aa (dy - aa)).2.2)) (hGD.2.2.2.2.2) ?_
                  refine n_iconst (v := 1) hx hb dX10_goDays_114 (by decide) ?_
                  refine n_iadd hx hb dX10_goDays_115 ?_
                  refine mo_pi hx hb hu hown hK hal hW hS 45 (by decide +kernel) uF_X10_293 dX10_goDays_116 (fun H locs hW hS => ?_)
                  have hGD := hGD.p5
                  refine lv_goto (tgt := 138) hx hb dX10_goDays_119 (by decide) ?_
                  refine n_iinc (q := 1) (lv' := [(5, .int (nI (dy + 1))), (0, .ref (ad.1 40 0)), (1, .int (nI bb)), (2, .int (nI aa)), (3, .int (nI zz)), (4, .int (nI sh)), (6, .int (nI w)), (7, .int (nI k))]) hx hb dX10_goDays_138 hl (k := 5) rfl (by decide) (by decide) rfl (fun ls hl => ?_)
                  refine lv_goto (tgt := 18) hx hb dX10_goDays_141 (by decide) ?_
                  exact ih_lp18 (dy + 1) (uI (uI d_4 40 0 43 (nI (((gdL S bb sh aa (dy - aa)).1) + 1))) 40 0 45 (nI (((gdL S bb sh aa (dy - aa)).2.2) + 1))) _ _ ls (by omega) (by omega) (by omega) (by rw [hst]; exact hGD) hW hS (lv_sub hl [1, 2, 3, 4, 5, 0] rfl)
            · refine lv_aload_n hx hb dX10_goDays_39 rfl (lv_at hl 0 rfl) ?_
              refine mo_ga hx hb hu hown hK hal hW 23 (by decide) uF_X10_65 dX10_goDays_40 ?_
              refine lv_iload_n hx hb dX10_goDays_43 rfl (lv_at hl 1 rfl) ?_
              refine mo_ld hx hb hK hal hW hGD.1.1 23 (n := 4) (by decide) (by omega) dX10_goDays_44 ?_
              have b_7 : S 23 bb ≤ 255 := hG.a 23 bb (n := 4) (mx := 255) (by decide) (by omega)
              refine lv_iload hx hb dX10_goDays_45 (lv_at hl 7 rfl) ?_
              refine lv_ishr hx hb dX10_goDays_47 ?_
              refine n_iconst (v := 1) hx hb dX10_goDays_48 (by decide) ?_
              refine lv_iand hx hb dX10_goDays_49 ?_
              refine n_iconst (v := 1) hx hb dX10_goDays_50 (by decide) ?_
              refine lv_icmp_ne (tgt := 76) hx hb dX10_goDays_51 (by decide) (fun c_b => ?_) (fun c_b => ?_)
              · have hst2 : twL S bb dy (k + 1) = twL S bb dy k := by rw [twL, if_neg c_b]
                refine n_iinc (q := 1) (lv' := [(7, .int (nI (k + 1))), (0, .ref (ad.1 40 0)), (1, .int (nI bb)), (2, .int (nI aa)), (3, .int (nI zz)), (4, .int (nI sh)), (5, .int (nI dy)), (6, .int (nI w))]) hx hb dX10_goDays_76 hl (k := 7) rfl (by decide) (by decide) rfl (fun ls hl => ?_)
                refine lv_goto (tgt := 30) hx hb dX10_goDays_79 (by decide) ?_
                exact ih_lp30 w (k + 1) d _ _ ls (by omega) (by omega) (by rw [hst2, ← hw]) hGD hW hS (lv_sub hl [1, 2, 3, 4, 5, 6, 7, 0] rfl)
              · have hst2 : twL S bb dy (k + 1) = max (twL S bb dy k) (sState S k (S 26 k) dy) := by rw [twL, if_pos c_b]
                refine lv_iload hx hb dX10_goDays_54 (lv_at hl 6 rfl) ?_
                refine lv_aload_n hx hb dX10_goDays_56 rfl (lv_at hl 0 rfl) ?_
                refine lv_iload hx hb dX10_goDays_57 (lv_at hl 7 rfl) ?_
                refine lv_aload_n hx hb dX10_goDays_59 rfl (lv_at hl 0 rfl) ?_
                refine mo_ga hx hb hu hown hK hal hW 26 (by decide) uF_X10_71 dX10_goDays_60 ?_
                refine lv_iload hx hb dX10_goDays_63 (lv_at hl 7 rfl) ?_
                refine mo_ld hx hb hK hal hW hGD.1.1 26 (n := 8) (by decide) (by omega) dX10_goDays_65 ?_
                have b_8 : S 26 k ≤ 63 := hG.a 26 k (n := 8) (mx := 63) (by decide) (by omega)
                refine lv_iload hx hb dX10_goDays_66 (lv_at hl 5 rfl) ?_
                have hI : MI S d d := MI.start hGD.1
                refine o_calli (o_runV (As := [.int (nI k), .int (nI (S 26 k)), .int (nI dy)]) (rest := [.int (nI w)]) ⟨hx, hb, hml, hown, hu⟩ (c_X10_stateOf l D cA B0 ad hal S d hI.1 k (S 26 k) dy (by omega) (by omega) (by omega)) (gV_X10_168 (fun _ h => h)) (n0 := 3) rfl (by decide +kernel) rfl ⟨Nat.le_of_ble_eq_true rfl, Nat.le_of_ble_eq_true rfl⟩ (o_recv hK hW hal.1 (kC_M _ _ _) rfl) hK hW hB hS hl.1 rfl (lv_room (Nat.le_of_ble_eq_true rfl)) ⟨Nat.zero_le _, Nat.zero_le _⟩ dX10_goDays_68) hS (fun r_10 d_9 q_11 H locs hW hS => ?_)
                obtain ⟨rfl, hq⟩ := q_11
                have hI := hI.trans hq
                have hGD := hGD.mi hI
                have hs2 := sState_le S k (S 26 k) dy
                refine va_mmax hx hb (hml.trans hl.1.symm) hown (hu _ uM_X10_139) (hu _ uT_J9_max_7cf53) (hu _ uI_J9) (hu _ uC_J9_max_7cf53) (Nat.le_of_ble_eq_true rfl) (Nat.le_of_ble_eq_true rfl) (Nat.le_of_ble_eq_true rfl) (Nat.le_of_ble_eq_true rfl) dX10_goDays_71 ?_
                refine n_topi (y := nI (max w (sState S k (S 26 k) dy))) (n_max (by omega) (by omega)) ?_
                refine lv_istore (lv' := [(6, .int (nI (max w (sState S k (S 26 k) dy)))), (0, .ref (ad.1 40 0)), (1, .int (nI bb)), (2, .int (nI aa)), (3, .int (nI zz)), (4, .int (nI sh)), (5, .int (nI dy)), (7, .int (nI k))]) hx hb dX10_goDays_74 hl (by decide) rfl (fun ls hl => ?_)
                refine n_iinc (q := 1) (lv' := [(7, .int (nI (k + 1))), (6, .int (nI (max w (sState S k (S 26 k) dy)))), (0, .ref (ad.1 40 0)), (1, .int (nI bb)), (2, .int (nI aa)), (3, .int (nI zz)), (4, .int (nI sh)), (5, .int (nI dy))]) hx hb dX10_goDays_76 hl (k := 7) rfl (by decide) (by decide) rfl (fun ls hl => ?_)
                refine lv_goto (tgt := 30) hx hb dX10_goDays_79 (by decide) ?_
                exact ih_lp30 (max w (sState S k (S 26 k) dy)) (k + 1) d_9 _ _ ls (by omega) (by omega) (by rw [hst2, ← hw]) hGD hW hS (lv_sub hl [2, 3, 4, 5, 6, 7, 1, 0] rfl)
        exact lp30 (S 7 0 + 1) 0 0 d _ _ ls (by omega) (by omega) rfl hGD hW hS (lv_sub hl [2, 3, 4, 5, 6, 7, 1, 0] rfl)
  exact lp18 (zz + 2) aa (uI (uI (uI d0 40 0 43 (nI 0)) 40 0 44 (nI 0)) 40 0 45 (nI 0)) _ _ ls (by omega) (by omega) (by omega) (by rw [Nat.sub_self]; exact GD.start hM) hW hS (lv_sub hl [1, 2, 3, 4, 5, 0] rfl)
