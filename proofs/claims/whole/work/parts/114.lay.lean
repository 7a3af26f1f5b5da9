set_option maxHeartbeats 400000 in
set_option maxRecDepth 100000 in
theorem c_X10_lay (l : Launch) (D : va_G) (cA : Nat → ClassId) (B0 : Nat) (ad : kA) (hal : mAl ad) (S : sS) (sr : Nat → Int32) (d0 : kD) (hM : InvM S d0) (hR : RowM S sr d0) (pi : Int32) : oM l yX10_lay wX10_lay 8 0 0 D cA B0 ad d0 ([.ref (ad.1 40 0), .int pi] : List Value) (oQi D cA B0 ad (fun r d1 => r = aLay S pi ∧ PI (nLay S pi) sr d0 d1)) := by
  refine o_ofW (cc := cX10_lay) (maxL := 6) (ret := some .int) (by decide) rfl (Nat.le_of_ble_eq_true rfl) ?_
  intro p e s m below meth c hx hb hr hml hts hown hlocks hnm hK hW hB hS ls hl
  have hu : ∀ w ∈ UW, w.before _ s = true := fun w h => hts w (uw_c w h)
  have hl : lv_has ls 6 [(0, .ref (ad.1 40 0)), (1, .int pi)] := hl
  refine lv_aload_n hx hb dX10_lay_0 rfl (lv_at hl 0 rfl) ?_
  refine n_iconst (v := 0) hx hb dX10_lay_1 (by decide) ?_
  refine mo_pi hx hb hu hown hK hal hW hS 33 (by decide +kernel) uF_X10_113 dX10_lay_2 (fun H locs hW hS => ?_)
  have hI : MI S (uI d0 40 0 33 (nI 0)) (uI d0 40 0 33 (nI 0)) := MI.start (hM.thr 33 _ rfl)
  have hG : sG S := hM.2.1
  have hb1 : S 1 0 ≤ 4 := hG.f 1 (mx := 4) (by decide)
  have hb7 : S 7 0 ≤ 8 := hG.f 7 (mx := 8) (by decide)
  have hb11 : S 11 0 ≤ 20 := hG.f 11 (mx := 20) (by decide)
  have hb18 : S 18 0 ≤ 40 := hG.f 18 (mx := 40) (by decide)
  have hb19 : S 19 0 ≤ 399 := hG.f 19 (mx := 399) (by decide)
  have hb22 : S 22 0 ≤ 64 := hG.f 22 (mx := 64) (by decide)
  have hb25 : S 25 0 ≤ 4 := hG.f 25 (mx := 4) (by decide)
  have hb30 : S 30 0 ≤ 10 := hG.f 30 (mx := 10) (by decide)
  have hb32 : S 32 0 ≤ 64 := hG.f 32 (mx := 64) (by decide)
  refine lv_aload_n hx hb dX10_lay_5 rfl (lv_at hl 0 rfl) ?_
  refine lv_iload_n hx hb dX10_lay_6 rfl (lv_at hl 1 rfl) ?_
  refine o_calli (o_runV (As := [.int pi]) (rest := []) ⟨hx, hb, hml, hown, hu⟩ (c_X10_isPier l D cA B0 ad hal S (uI d0 40 0 33 (nI 0)) hI.dS hG pi ) (gV_X10_145 (fun _ h => h)) (n0 := 1) rfl (by decide +kernel) rfl ⟨Nat.le_of_ble_eq_true rfl, Nat.le_of_ble_eq_true rfl⟩ (o_recv hK hW hal.1 (kC_M _ _ _) rfl) hK hW hB hS hl.1 rfl (lv_room (Nat.le_of_ble_eq_true rfl)) ⟨Nat.zero_le _, Nat.zero_le _⟩ dX10_lay_7) hS (fun r_2 d_1 q_3 H locs hW hS => ?_)
  obtain ⟨rfl, rfl⟩ := q_3
  refine lv_if_ne (tgt := 15) hx hb dX10_lay_10 (by decide) (fun c_4 => ?_) (fun c_4 => ?_)
  · obtain ⟨pin, hpin, rfl⟩ := ix_t (bI_n c_4) (by omega)
    refine lv_aload_n hx hb dX10_lay_15 rfl (lv_at hl 0 rfl) ?_
    refine lv_iload_n hx hb dX10_lay_16 rfl (lv_at hl 1 rfl) ?_
    refine lv_aload_n hx hb dX10_lay_17 rfl (lv_at hl 0 rfl) ?_
    refine mo_gi hx hb hu hown hK hal hW hI.dS 19 (by decide) uF_X10_55 dX10_lay_18 ?_
    have b_5 : S 19 0 ≤ 399 := hG.f 19 (mx := 399) (by decide)
    refine lv_iconst (v := -1) hx hb dX10_lay_21 (by decide) ?_
    refine o_calll (o_runV (As := [.int (nI pin), .int (nI (S 19 0)), .int (-1)]) (rest := []) ⟨hx, hb, hml, hown, hu⟩ (c_X10_free l D cA B0 ad hal S (uI d0 40 0 33 (nI 0)) hI.1 pin (S 19 0) (-1) (by omega) (by omega)) (gV_X10_192 (fun _ h => h)) (n0 := 3) rfl (by decide +kernel) rfl ⟨Nat.le_of_ble_eq_true rfl, Nat.le_of_ble_eq_true rfl⟩ (o_recv hK hW hal.1 (kC_M _ _ _) rfl) hK hW hB hS hl.1 rfl (lv_room (Nat.le_of_ble_eq_true rfl)) ⟨Nat.zero_le _, Nat.zero_le _⟩ dX10_lay_22) hS (fun r_7 d_6 q_8 H locs hW hS => ?_)
    obtain ⟨rfl, hq⟩ := q_8
    have hI := hI.trans hq
    refine lv_lstore_n (lv' := [(2, .long (sFree S pin (S 19 0) (-1))), (0, .ref (ad.1 40 0)), (1, .int (nI pin))]) hx hb dX10_lay_25 rfl hl (by decide) rfl (fun ls hl => ?_)
    refine lv_aload_n hx hb dX10_lay_26 rfl (lv_at hl 1 rfl) ?_
    refine n_iconst (v := 0) hx hb dX10_lay_27 (by decide) ?_
    refine mo_pi hx hb hu hown hK hal hW hS 22 (by decide +kernel) uF_X10_272 dX10_lay_28 (fun H locs hW hS => ?_)
    have hP := (hI.pub hR).lay0
    refine n_iconst (v := 0) hx hb dX10_lay_31 (by decide) ?_
    refine lv_istore (lv' := [(4, .int (nI 0)), (2, .long (sFree S pin (S 19 0) (-1))), (0, .ref (ad.1 40 0)), (1, .int (nI pin))]) hx hb dX10_lay_32 hl (by decide) rfl (fun ls hl => ?_)
    have lp34 : ∀ (n : Nat) (m1 : Nat)  (d : kD) (H : Heap) (locs : List Loc) (ls : Array Slot), 64 - m1 < n → (m1 ≤ 64) → (PI (lyS S pin (sFree S pin (S 19 0) (-1)) m1) sr d0 d) → oW D cA B0 ad d H → va_S (oA B0) s.heap H locs → lv_has ls 6 [(0, .ref (ad.1 40 0)), (1, .int (nI pin)), (2, .long (sFree S pin (S 19 0) (-1))), (4, .int (nI m1))] → W p l e (oR 8 0 0) s m ([.ref (ad.1 40 0), .int (nI pin)] : List Value).toArray below meth c H locs 0 0 (MQ below (oQi D cA B0 ad (fun r d1 => r = aLay S (nI pin) ∧ PI (nLay S (nI pin)) sr d0 d1)) ([.ref (ad.1 40 0), .int (nI pin)] : List Value).toArray s 0 0 (oA B0)) (F0 m 34 ls []) := by
      intro n
      induction n with
      | zero => intro m1  d H locs ls hmu; exact absurd hmu (Nat.not_lt_zero _)
      | succ n ih_lp34 =>
        intro m1  d H locs ls hmu hm1 hP hW hS hl
        refine lv_iload hx hb dX10_lay_34 (lv_at hl 3 rfl) ?_
        refine n_bipush (v := 64) hx hb dX10_lay_36 (by decide) ?_
        refine n_icmp_ge (tgt := 135) hx hb (by omega) (by omega) dX10_lay_38 (by decide) (fun c_9 => ?_) (fun c_9 => ?_)
        · refine lv_aload_n hx hb dX10_lay_135 rfl (lv_at hl 0 rfl) ?_
          have hm64 : m1 = 64 := by omega
          refine mo_gr hx hb hu hown hK hal hW 22 (by decide) uF_X10_272 dX10_lay_136 ?_
          refine n_topi (y := nI (lyC (sFree S pin (S 19 0) (-1)) m1)) (by have z := hP.1.1.2 22 rfl; rw [lyS_c] at z; exact z) ?_
          exact o_iret hx hb hr hlocks hW hS (⟨by simp only [aLay, ix_nI hpin (by omega), nx_nI (j := pin) (by omega), eq_self, ↓reduceIte, Bool.false_eq_true]; rw [hm64], by simp only [nLay, ix_nI hpin (by omega), nx_nI (j := pin) (by omega), eq_self, ↓reduceIte, Bool.false_eq_true]; unfold lyA; rw [← hm64]; exact hP⟩) dX10_lay_139
        · refine lv_lload_n hx hb dX10_lay_41 rfl (lv_at hl 2 rfl) ?_
          refine lv_iload hx hb dX10_lay_42 (lv_at hl 3 rfl) ?_
          refine o_calli (o_runS (As := [.long (sFree S pin (S 19 0) (-1)), .int (nI m1)]) (rest := []) ⟨hx, hb, hml, hown, hu⟩ (c_X10_has l D cA B0 ad hal d (sFree S pin (S 19 0) (-1)) m1 ) (gS_X10_179 (fun _ h => h)) (n0 := 2) rfl (by decide +kernel) rfl ⟨Nat.le_of_ble_eq_true rfl, Nat.le_of_ble_eq_true rfl⟩ hK hW hB hS hl.1 rfl (lv_room (Nat.le_of_ble_eq_true rfl)) ⟨Nat.zero_le _, Nat.zero_le _⟩ dX10_lay_44) hS (fun r_11 d_10 q_12 H locs hW hS => ?_)
          obtain ⟨rfl, rfl⟩ := q_12
          refine lv_if_eq (tgt := 53) hx hb dX10_lay_47 (by decide) (fun c_h => ?_) (fun c_h => ?_)
          · have hFok := lyF_ok (S := S) (p := pin) (m := m1) (by omega) (bI_z c_h)
            have hnb : ¬ hasB (sFree S pin (S 19 0) (-1)) m1 = true := by rw [bI_z c_h]; decide
            refine n_iconst (v := 0) hx hb dX10_lay_53 (by decide) ?_
            refine lv_istore (lv' := [(5, .int (nI 0)), (0, .ref (ad.1 40 0)), (1, .int (nI pin)), (2, .long (sFree S pin (S 19 0) (-1))), (4, .int (nI m1))]) hx hb dX10_lay_54 hl (by decide) rfl (fun ls hl => ?_)
            have lp56 : ∀ (n : Nat) (l1 : Nat)  (d : kD) (H : Heap) (locs : List Loc) (ls : Array Slot), lyF S pin m1 - l1 < n → (l1 ≤ lyF S pin m1) → (PI (lyS S pin (sFree S pin (S 19 0) (-1)) m1) sr d0 d) → oW D cA B0 ad d H → va_S (oA B0) s.heap H locs → lv_has ls 6 [(0, .ref (ad.1 40 0)), (1, .int (nI pin)), (2, .long (sFree S pin (S 19 0) (-1))), (4, .int (nI m1)), (5, .int (nI l1))] → W p l e (oR 8 0 0) s m ([.ref (ad.1 40 0), .int (nI pin)] : List Value).toArray below meth c H locs 0 0 (MQ below (oQi D cA B0 ad (fun r d1 => r = aLay S (nI pin) ∧ PI (nLay S (nI pin)) sr d0 d1)) ([.ref (ad.1 40 0), .int (nI pin)] : List Value).toArray s 0 0 (oA B0)) (F0 m 56 ls []) := by
              intro n
              induction n with
              | zero => intro l1  d H locs ls hmu; exact absurd hmu (Nat.not_lt_zero _)
              | succ n ih_lp56 =>
                intro l1  d H locs ls hmu hl1 hP hW hS hl
                refine lv_aload_n hx hb dX10_lay_56 rfl (lv_at hl 0 rfl) ?_
                refine mo_ga hx hb hu hown hK hal hW 12 (by decide) uF_X10_37 dX10_lay_57 ?_
                refine lv_iload hx hb dX10_lay_60 (lv_at hl 4 rfl) ?_
                refine mo_ld hx hb hK hal hW hP.1.1 12 (n := 40) (by decide) (by omega) dX10_lay_62 ?_
                refine n_top (b := S 12 l1) (by rw [lyS_n S pin _ (by decide) (by decide) (by decide)]) ?_
                have b_13 : S 12 l1 ≤ 7 := hG.a 12 l1 (n := 40) (mx := 7) (by decide) (by omega)
                refine lv_iload_n hx hb dX10_lay_63 rfl (lv_at hl 1 rfl) ?_
                refine n_icmp_ne (tgt := 91) hx hb (by omega) (by omega) dX10_lay_64 (by decide) (fun c_a => ?_) (fun c_a => ?_)
                · have hnp : lyP S pin m1 l1 = false := decide_eq_false (fun q => c_a q.1)
                  have hlt := lyF_lt hl1 hnp hFok.2
                  refine n_iinc (q := 1) (lv' := [(5, .int (nI (l1 + 1))), (0, .ref (ad.1 40 0)), (1, .int (nI pin)), (2, .long (sFree S pin (S 19 0) (-1))), (4, .int (nI m1))]) hx hb dX10_lay_91 hl (k := 4) rfl (by decide) (by decide) rfl (fun ls hl => ?_)
                  refine lv_goto (tgt := 56) hx hb dX10_lay_94 (by decide) ?_
                  exact ih_lp56 (l1 + 1) d _ _ ls (by omega) (by omega) hP hW hS (lv_sub hl [1, 2, 3, 4, 0] rfl)
                · refine lv_aload_n hx hb dX10_lay_67 rfl (lv_at hl 0 rfl) ?_
                  refine lv_iload hx hb dX10_lay_68 (lv_at hl 4 rfl) ?_
                  refine lv_aload_n hx hb dX10_lay_70 rfl (lv_at hl 0 rfl) ?_
                  refine mo_gi hx hb hu hown hK hal hW hP.1.1 19 (by decide) uF_X10_55 dX10_lay_71 ?_
                  refine n_top (b := S 19 0) (by rw [lyS_n S pin _ (by decide) (by decide) (by decide)]) ?_
                  have b_14 : S 19 0 ≤ 399 := hG.f 19 (mx := 399) (by decide)
                  refine o_calli (o_runV (As := [.int (nI l1), .int (nI (S 19 0))]) (rest := []) ⟨hx, hb, hml, hown, hu⟩ (c_X10_isKnown l D cA B0 ad hal (lyS S pin (sFree S pin (S 19 0) (-1)) m1) d hP.1.1 hP.1.2.1 l1 (S 19 0) (by omega) (by omega)) (gV_X10_188 (fun _ h => h)) (n0 := 2) rfl (by decide +kernel) rfl ⟨Nat.le_of_ble_eq_true rfl, Nat.le_of_ble_eq_true rfl⟩ (o_recv hK hW hal.1 (kC_M _ _ _) rfl) hK hW hB hS hl.1 rfl (lv_room (Nat.le_of_ble_eq_true rfl)) ⟨Nat.zero_le _, Nat.zero_le _⟩ dX10_lay_74) hS (fun r_16 d_15 q_17 H locs hW hS => ?_)
                  obtain ⟨rfl, rfl⟩ := q_17
                  refine lv_if_eq (tgt := 91) hx hb dX10_lay_77 (by decide) (fun c_b => ?_) (fun c_b => ?_)
                  · have hnp : lyP S pin m1 l1 = false := decide_eq_false (fun q => by have z := bI_z c_b; rw [(lyS_same S pin _ m1).kn, q.2.1] at z; cases z)
                    have hlt := lyF_lt hl1 hnp hFok.2
                    refine n_iinc (q := 1) (lv' := [(5, .int (nI (l1 + 1))), (0, .ref (ad.1 40 0)), (1, .int (nI pin)), (2, .long (sFree S pin (S 19 0) (-1))), (4, .int (nI m1))]) hx hb dX10_lay_91 hl (k := 4) rfl (by decide) (by decide) rfl (fun ls hl => ?_)
                    refine lv_goto (tgt := 56) hx hb dX10_lay_94 (by decide) ?_
                    exact ih_lp56 (l1 + 1) d _ _ ls (by omega) (by omega) hP hW hS (lv_sub hl [1, 2, 3, 4, 0] rfl)
                  · refine lv_aload_n hx hb dX10_lay_80 rfl (lv_at hl 0 rfl) ?_
                    refine lv_iload hx hb dX10_lay_81 (lv_at hl 4 rfl) ?_
                    refine lv_iload hx hb dX10_lay_83 (lv_at hl 3 rfl) ?_
                    refine o_calli (o_runV (As := [.int (nI l1), .int (nI m1)]) (rest := []) ⟨hx, hb, hml, hown, hu⟩ (c_X10_bars l D cA B0 ad hal (lyS S pin (sFree S pin (S 19 0) (-1)) m1) d hP.1 l1 m1 (by rw [lyS_n S pin _ (by decide) (by decide) (by decide)]; omega)) (gV_X10_220 (fun _ h => h)) (n0 := 2) rfl (by decide +kernel) rfl ⟨Nat.le_of_ble_eq_true rfl, Nat.le_of_ble_eq_true rfl⟩ (o_recv hK hW hal.1 (kC_M _ _ _) rfl) hK hW hB hS hl.1 rfl (lv_room (Nat.le_of_ble_eq_true rfl)) ⟨Nat.zero_le _, Nat.zero_le _⟩ dX10_lay_85) hS (fun r_19 d_18 q_20 H locs hW hS => ?_)
                    obtain ⟨rfl, hq⟩ := q_20
                    have hP := hP.mi hq
                    refine lv_if_ne (tgt := 97) hx hb dX10_lay_88 (by decide) (fun c_c => ?_) (fun c_c => ?_)
                    · have hle := lyF_eq hl1 (decide_eq_true ⟨c_a, by rw [← (lyS_same S pin _ m1).kn]; exact bI_n c_b, by rw [← (lyS_same S pin _ m1).bars]; exact bI_n c_c⟩)
                      have hst : lyS S pin (sFree S pin (S 19 0) (-1)) (m1 + 1) = upS (upS (upS (lyS S pin (sFree S pin (S 19 0) (-1)) m1) 20 (lyC (sFree S pin (S 19 0) (-1)) m1) m1) 21 (lyC (sFree S pin (S 19 0) (-1)) m1) l1) 22 0 (lyC (sFree S pin (S 19 0) (-1)) m1 + 1) := by rw [lyS, if_neg hnb, hle]
                      have hlc := lyC_le (sFree S pin (S 19 0) (-1)) m1
                      refine lv_aload_n hx hb dX10_lay_97 rfl (lv_at hl 0 rfl) ?_
                      refine mo_ga hx hb hu hown hK hal hW 20 (by decide) uF_X10_59 dX10_lay_98 ?_
                      refine lv_aload_n hx hb dX10_lay_101 rfl (lv_at hl 0 rfl) ?_
                      refine mo_gr hx hb hu hown hK hal hW 22 (by decide) uF_X10_272 dX10_lay_102 ?_
                      refine n_topi (y := nI (lyC (sFree S pin (S 19 0) (-1)) m1)) (by have z := hP.1.1.2 22 rfl; rw [lyS_c] at z; exact z) ?_
                      refine lv_iload hx hb dX10_lay_105 (lv_at hl 3 rfl) ?_
                      refine mo_st hx hb hK hal hW hS 20 (n := 64) (by decide) (by omega) dX10_lay_107 (fun H locs hW hS => ?_)
                      refine lv_aload_n hx hb dX10_lay_108 rfl (lv_at hl 0 rfl) ?_
                      refine mo_ga hx hb hu hown hK hal hW 21 (by decide) uF_X10_62 dX10_lay_109 ?_
                      refine lv_aload_n hx hb dX10_lay_112 rfl (lv_at hl 0 rfl) ?_
                      refine mo_gr hx hb hu hown hK hal hW 22 (by decide) uF_X10_272 dX10_lay_113 ?_
                      refine n_topi (y := nI (lyC (sFree S pin (S 19 0) (-1)) m1)) (by have z := hP.1.1.2 22 rfl; rw [lyS_c] at z; exact z) ?_
                      refine lv_iload hx hb dX10_lay_116 (lv_at hl 4 rfl) ?_
                      refine mo_st hx hb hK hal hW hS 21 (n := 64) (by decide) (by omega) dX10_lay_118 (fun H locs hW hS => ?_)
                      refine lv_aload_n hx hb dX10_lay_119 rfl (lv_at hl 0 rfl) ?_
                      refine lv_dup hx hb dX10_lay_120 rfl ?_
                      refine mo_gr hx hb hu hown hK hal hW 22 (by decide) uF_X10_272 dX10_lay_121 ?_
                      refine n_topi (y := nI (lyC (sFree S pin (S 19 0) (-1)) m1)) (by have z := hP.1.1.2 22 rfl; rw [lyS_c] at z; exact z) ?_
                      refine n_iconst (v := 1) hx hb dX10_lay_124 (by decide) ?_
                      refine n_iadd hx hb dX10_lay_125 ?_
                      refine mo_pi hx hb hu hown hK hal hW hS 22 (by decide +kernel) uF_X10_272 dX10_lay_126 (fun H locs hW hS => ?_)
                      have hP := lay_step hP (by rw [← hst]; exact lyS_g hG rfl (m1 + 1) (by omega)) (by omega)
                      refine n_iinc (q := 1) (lv' := [(4, .int (nI (m1 + 1))), (0, .ref (ad.1 40 0)), (1, .int (nI pin)), (2, .long (sFree S pin (S 19 0) (-1))), (5, .int (nI l1))]) hx hb dX10_lay_129 hl (k := 3) rfl (by decide) (by decide) rfl (fun ls hl => ?_)
                      refine lv_goto (tgt := 34) hx hb dX10_lay_132 (by decide) ?_
                      exact ih_lp34 (m1 + 1) (uI (uI (uI d_18 (50 + 20) 0 (lyC (sFree S pin (S 19 0) (-1)) m1) (nI m1)) (50 + 21) 0 (lyC (sFree S pin (S 19 0) (-1)) m1) (nI l1)) 40 0 22 (nI ((lyC (sFree S pin (S 19 0) (-1)) m1) + 1))) _ _ ls (by omega) (by omega) (by rw [hst]; exact hP) hW hS (lv_sub hl [1, 2, 3, 0] rfl)
                    · have hnp : lyP S pin m1 l1 = false := decide_eq_false (fun q => by have z := bI_z c_c; rw [(lyS_same S pin _ m1).bars, q.2.2] at z; cases z)
                      have hlt := lyF_lt hl1 hnp hFok.2
                      refine n_iinc (q := 1) (lv' := [(5, .int (nI (l1 + 1))), (0, .ref (ad.1 40 0)), (1, .int (nI pin)), (2, .long (sFree S pin (S 19 0) (-1))), (4, .int (nI m1))]) hx hb dX10_lay_91 hl (k := 4) rfl (by decide) (by decide) rfl (fun ls hl => ?_)
                      refine lv_goto (tgt := 56) hx hb dX10_lay_94 (by decide) ?_
                      exact ih_lp56 (l1 + 1) d_18 _ _ ls (by omega) (by omega) hP hW hS (lv_sub hl [1, 2, 3, 4, 0] rfl)
            exact lp56 (lyF S pin m1 + 1) 0 d _ _ ls (by omega) (by omega) hP hW hS (lv_sub hl [1, 2, 3, 4, 0] rfl)
          · have hst : lyS S pin (sFree S pin (S 19 0) (-1)) (m1 + 1) = (lyS S pin (sFree S pin (S 19 0) (-1)) m1) := by rw [lyS, if_pos (bI_n c_h)]
            refine lv_goto (tgt := 129) hx hb dX10_lay_50 (by decide) ?_
            refine n_iinc (q := 1) (lv' := [(4, .int (nI (m1 + 1))), (0, .ref (ad.1 40 0)), (1, .int (nI pin)), (2, .long (sFree S pin (S 19 0) (-1)))]) hx hb dX10_lay_129 hl (k := 3) rfl (by decide) (by decide) rfl (fun ls hl => ?_)
            refine lv_goto (tgt := 34) hx hb dX10_lay_132 (by decide) ?_
            exact ih_lp34 (m1 + 1) d _ _ ls (by omega) (by omega) (by rw [hst]; exact hP) hW hS (lv_sub hl [1, 2, 3, 0] rfl)
    exact lp34 (65) 0 (uI d_6 40 0 22 (nI 0)) _ _ ls (by omega) (by omega) hP hW hS (lv_sub hl [2, 3, 1, 0] rfl)
  · refine lv_iconst (v := -1) hx hb dX10_lay_13 (by decide) ?_
    exact o_iret hx hb hr hlocks hW hS (⟨by simp only [aLay, bI_z c_4, eq_self, ↓reduceIte, Bool.false_eq_true], by simp only [nLay, bI_z c_4, eq_self, ↓reduceIte, Bool.false_eq_true]; exact hI.pub hR⟩) dX10_lay_14
