set_option maxHeartbeats 400000 in
set_option maxRecDepth 100000 in
theorem c_X10_blame (l : Launch) (D : va_G) (cA : Nat → ClassId) (B0 : Nat) (ad : kA) (hal : mAl ad) (S : sS) (sr : Nat → Int32) (d0 : kD) (hM : InvM S d0) (hR : RowM S sr d0) (pi : Int32) : oM l yX10_blame wX10_blame 9 0 0 D cA B0 ad d0 ([.ref (ad.1 40 0), .int pi] : List Value) (oQi D cA B0 ad (fun r d1 => r = aBlame S pi ∧ PI (nBlame S pi) (rBlame S sr pi) d0 d1)) := by
  refine o_ofW (cc := cX10_blame) (maxL := 4) (ret := some .int) (by decide) rfl (Nat.le_of_ble_eq_true rfl) ?_
  intro p e s m below meth c hx hb hr hml hts hown hlocks hnm hK hW hB hS ls hl
  have hu : ∀ w ∈ UW, w.before _ s = true := fun w h => hts w (uw_c w h)
  have hl : lv_has ls 4 [(0, .ref (ad.1 40 0)), (1, .int pi)] := hl
  refine lv_aload_n hx hb dX10_blame_0 rfl (lv_at hl 0 rfl) ?_
  refine n_iconst (v := 0) hx hb dX10_blame_1 (by decide) ?_
  refine mo_pi hx hb hu hown hK hal hW hS 33 (by decide +kernel) uF_X10_113 dX10_blame_2 (fun H locs hW hS => ?_)
  have hI : MI S (uI d0 40 0 33 (nI 0)) (uI d0 40 0 33 (nI 0)) := MI.start (hM.thr 33 _ rfl)
  have hG : sG S := hM.2.1
  have hb1 : S 1 0 ≤ 4 := hG.f 1 (mx := 4) (by decide)
  have hb7 : S 7 0 ≤ 8 := hG.f 7 (mx := 8) (by decide)
  have hb11 : S 11 0 ≤ 20 := hG.f 11 (mx := 20) (by decide)
  have hb18 : S 18 0 ≤ 40 := hG.f 18 (mx := 40) (by decide)
  have hb19 : S 19 0 ≤ 399 := hG.f 19 (mx := 399) (by decide)
  have hb22 : S 22 0 ≤ 64 := hG.f 22 (mx := 64) (by decide)
  have hb25 : S 25 0 ≤ 4 := hG.f 25 (mx := 4) (by decide)
  have hb30 : S 30 0 ≤ 10 := hG.f 30 (mx := 10) (by decide)
  have hb32 : S 32 0 ≤ 64 := hG.f 32 (mx := 64) (by decide)
  refine lv_aload_n hx hb dX10_blame_5 rfl (lv_at hl 0 rfl) ?_
  refine lv_iload_n hx hb dX10_blame_6 rfl (lv_at hl 1 rfl) ?_
  refine o_calli (o_runV (As := [.int pi]) (rest := []) ⟨hx, hb, hml, hown, hu⟩ (c_X10_isPier l D cA B0 ad hal S (uI d0 40 0 33 (nI 0)) hI.dS hG pi ) (gV_X10_145 (fun _ h => h)) (n0 := 1) rfl (by decide +kernel) rfl ⟨Nat.le_of_ble_eq_true rfl, Nat.le_of_ble_eq_true rfl⟩ (o_recv hK hW hal.1 (kC_M _ _ _) rfl) hK hW hB hS hl.1 rfl (lv_room (Nat.le_of_ble_eq_true rfl)) ⟨Nat.zero_le _, Nat.zero_le _⟩ dX10_blame_7) hS (fun r_2 d_1 q_3 H locs hW hS => ?_)
  obtain ⟨rfl, rfl⟩ := q_3
  refine lv_if_ne (tgt := 15) hx hb dX10_blame_10 (by decide) (fun c_4 => ?_) (fun c_4 => ?_)
  · obtain ⟨pin, hpin, rfl⟩ := ix_t (bI_n c_4) (by omega)
    refine n_iconst (v := 0) hx hb dX10_blame_15 (by decide) ?_
    refine lv_istore_n (lv' := [(2, .int (nI 0)), (0, .ref (ad.1 40 0)), (1, .int (nI pin))]) hx hb dX10_blame_16 rfl hl (by decide) rfl (fun ls hl => ?_)
    refine n_iconst (v := 1) hx hb dX10_blame_17 (by decide) ?_
    refine lv_istore_n (lv' := [(3, .int (nI 1)), (2, .int (nI 0)), (0, .ref (ad.1 40 0)), (1, .int (nI pin))]) hx hb dX10_blame_18 rfl hl (by decide) rfl (fun ls hl => ?_)
    have lp19 : ∀ (n : Nat) (be : Nat) (m1 : Nat)  (d : kD) (H : Heap) (locs : List Loc) (ls : Array Slot), 64 - m1 < n → (m1 ≤ 64) → (MI S (uI d0 40 0 33 (nI 0)) d) → (be = blB S pin m1) → oW D cA B0 ad d H → va_S (oA B0) s.heap H locs → lv_has ls 4 [(0, .ref (ad.1 40 0)), (1, .int (nI pin)), (2, .int (nI be)), (3, .int (nI m1))] → W p l e (oR 9 0 0) s m ([.ref (ad.1 40 0), .int (nI pin)] : List Value).toArray below meth c H locs 0 0 (MQ below (oQi D cA B0 ad (fun r d1 => r = aBlame S (nI pin) ∧ PI (nBlame S (nI pin)) (rBlame S sr (nI pin)) d0 d1)) ([.ref (ad.1 40 0), .int (nI pin)] : List Value).toArray s 0 0 (oA B0)) (F0 m 19 ls []) := by
      intro n
      induction n with
      | zero => intro be m1  d H locs ls hmu; exact absurd hmu (Nat.not_lt_zero _)
      | succ n ih_lp19 =>
        intro be m1  d H locs ls hmu hm1 hI hbe hW hS hl
        have hbl := blB_lt S pin m1
        refine lv_iload_n hx hb dX10_blame_19 rfl (lv_at hl 3 rfl) ?_
        refine n_bipush (v := 64) hx hb dX10_blame_20 (by decide) ?_
        refine n_icmp_ge (tgt := 48) hx hb (by omega) (by omega) dX10_blame_22 (by decide) (fun c_5 => ?_) (fun c_5 => ?_)
        · have hm64 : m1 = 64 := by omega
          subst hm64
          have hP := hI.pub hR
          refine lv_aload_n hx hb dX10_blame_48 rfl (lv_at hl 0 rfl) ?_
          refine n_iconst (v := 0) hx hb dX10_blame_49 (by decide) ?_
          refine mo_pi hx hb hu hown hK hal hW hS 32 (by decide +kernel) uF_X10_123 dX10_blame_50 (fun H locs hW hS => ?_)
          have hP := hP.row0 (fun _ => 0)
          refine lv_aload_n hx hb dX10_blame_53 rfl (lv_at hl 0 rfl) ?_
          refine lv_iload_n hx hb dX10_blame_54 rfl (lv_at hl 2 rfl) ?_
          refine o_callv (o_runV (As := [.int (nI be)]) (rest := []) ⟨hx, hb, hml, hown, hu⟩ (c_X10_tell l D cA B0 ad hal (upS S 32 0 0) (uI d 40 0 32 (nI 0)) hP.1.1 hP.1.2.1 (nI be) (show 0 < 64 from by omega)) (gV_X10_211 (fun _ h => h)) (n0 := 1) rfl (by decide +kernel) rfl ⟨Nat.le_of_ble_eq_true rfl, Nat.le_of_ble_eq_true rfl⟩ (o_recv hK hW hal.1 (kC_M _ _ _) rfl) hK hW hB hS hl.1 rfl (lv_room (Nat.le_of_ble_eq_true rfl)) ⟨Nat.zero_le _, Nat.zero_le _⟩ dX10_blame_55) hS (fun d_6 q_8 H locs hW hS => ?_)
          subst q_8
          have hP := hP.tell (show 0 < 64 from by omega) (nI be)
          refine n_iconst (v := 0) hx hb dX10_blame_58 (by decide) ?_
          refine lv_istore_n (lv' := [(3, .int (nI 0)), (0, .ref (ad.1 40 0)), (1, .int (nI pin)), (2, .int (nI be))]) hx hb dX10_blame_59 rfl hl (by decide) rfl (fun ls hl => ?_)
          have lp60 : ∀ (n : Nat) (k : Nat)  (d : kD) (H : Heap) (locs : List Loc) (ls : Array Slot), S 18 0 - k < n → (k ≤ S 18 0) → (PI (upS S 32 0 (bmR S pin be k).1) (bmR S pin be k).2 d0 d) → oW D cA B0 ad d H → va_S (oA B0) s.heap H locs → lv_has ls 4 [(0, .ref (ad.1 40 0)), (1, .int (nI pin)), (2, .int (nI be)), (3, .int (nI k))] → W p l e (oR 9 0 0) s m ([.ref (ad.1 40 0), .int (nI pin)] : List Value).toArray below meth c H locs 0 0 (MQ below (oQi D cA B0 ad (fun r d1 => r = aBlame S (nI pin) ∧ PI (nBlame S (nI pin)) (rBlame S sr (nI pin)) d0 d1)) ([.ref (ad.1 40 0), .int (nI pin)] : List Value).toArray s 0 0 (oA B0)) (F0 m 60 ls []) := by
            intro n
            induction n with
            | zero => intro k  d H locs ls hmu; exact absurd hmu (Nat.not_lt_zero _)
            | succ n ih_lp60 =>
              intro k  d H locs ls hmu hk hP hW hS hl
              have hbm := bmR_le S pin be k
              refine lv_iload_n hx hb dX10_blame_60 rfl (lv_at hl 3 rfl) ?_
              refine lv_aload_n hx hb dX10_blame_61 rfl (lv_at hl 0 rfl) ?_
              refine mo_gi hx hb hu hown hK hal hW hP.1.1 18 (by decide) uF_X10_185 dX10_blame_62 ?_
              refine n_top (b := S 18 0) rfl ?_
              have b_9 : S 18 0 ≤ 40 := hG.f 18 (mx := 40) (by decide)
              refine n_icmp_ge (tgt := 110) hx hb (by omega) (by omega) dX10_blame_65 (by decide) (fun c_10 => ?_) (fun c_10 => ?_)
              · refine lv_aload_n hx hb dX10_blame_110 rfl (lv_at hl 0 rfl) ?_
                have hk18 : k = S 18 0 := by omega
                refine mo_gr hx hb hu hown hK hal hW 32 (by decide) uF_X10_123 dX10_blame_111 ?_
                refine n_topi (y := nI ((bmA S pin).1)) (by have := hP.1.1.2 32 rfl; rw [this]; unfold bmA; rw [← hk18, ← hbe]; rfl) ?_
                have hbm2 : 1 ≤ (bmA S pin).1 := (bmR_le S pin _ (S 18 0)).1
                refine n_iconst (v := 1) hx hb dX10_blame_114 (by decide) ?_
                refine n_isub hx hb (by omega) dX10_blame_115 ?_
                exact o_iret hx hb hr hlocks hW hS (⟨by simp only [aBlame, ix_nI hpin (by omega), nx_nI (j := pin) (by omega), eq_self, ↓reduceIte, Bool.false_eq_true], by simp only [nBlame, rBlame, ix_nI hpin (by omega), nx_nI (j := pin) (by omega), eq_self, ↓reduceIte, Bool.false_eq_true]; unfold bmA; rw [← hk18, ← hbe]; exact hP⟩) dX10_blame_116
              · refine lv_aload_n hx hb dX10_blame_68 rfl (lv_at hl 0 rfl) ?_
                refine mo_ga hx hb hu hown hK hal hW 12 (by decide) uF_X10_37 dX10_blame_69 ?_
                refine lv_iload_n hx hb dX10_blame_72 rfl (lv_at hl 3 rfl) ?_
                refine mo_ld hx hb hK hal hW hP.1.1 12 (n := 40) (by decide) (by omega) dX10_blame_73 ?_
                refine n_top (b := S 12 k) rfl ?_
                have b_11 : S 12 k ≤ 7 := hG.a 12 k (n := 40) (mx := 7) (by decide) (by omega)
                refine lv_iload_n hx hb dX10_blame_74 rfl (lv_at hl 1 rfl) ?_
                refine n_icmp_ne (tgt := 104) hx hb (by omega) (by omega) dX10_blame_75 (by decide) (fun c_a => ?_) (fun c_a => ?_)
                · have hst : bmR S pin be (k + 1) = bmR S pin be k := by rw [bmR, if_neg (fun q => c_a q.1)]
                  refine n_iinc (q := 1) (lv' := [(3, .int (nI (k + 1))), (0, .ref (ad.1 40 0)), (1, .int (nI pin)), (2, .int (nI be))]) hx hb dX10_blame_104 hl (k := 3) rfl (by decide) (by decide) rfl (fun ls hl => ?_)
                  refine lv_goto (tgt := 60) hx hb dX10_blame_107 (by decide) ?_
                  exact ih_lp60 (k + 1) d _ _ ls (by omega) (by omega) (by rw [hst]; exact hP) hW hS (lv_sub hl [1, 2, 3, 0] rfl)
                · refine lv_aload_n hx hb dX10_blame_78 rfl (lv_at hl 0 rfl) ?_
                  refine lv_iload_n hx hb dX10_blame_79 rfl (lv_at hl 3 rfl) ?_
                  refine lv_aload_n hx hb dX10_blame_80 rfl (lv_at hl 0 rfl) ?_
                  refine mo_gi hx hb hu hown hK hal hW hP.1.1 19 (by decide) uF_X10_55 dX10_blame_81 ?_
                  refine n_top (b := S 19 0) rfl ?_
                  have b_12 : S 19 0 ≤ 399 := hG.f 19 (mx := 399) (by decide)
                  refine o_calli (o_runV (As := [.int (nI k), .int (nI (S 19 0))]) (rest := []) ⟨hx, hb, hml, hown, hu⟩ (c_X10_isKnown l D cA B0 ad hal (upS S 32 0 (bmR S pin be k).1) d hP.1.1 hP.1.2.1 k (S 19 0) (by omega) (by omega)) (gV_X10_188 (fun _ h => h)) (n0 := 2) rfl (by decide +kernel) rfl ⟨Nat.le_of_ble_eq_true rfl, Nat.le_of_ble_eq_true rfl⟩ (o_recv hK hW hal.1 (kC_M _ _ _) rfl) hK hW hB hS hl.1 rfl (lv_room (Nat.le_of_ble_eq_true rfl)) ⟨Nat.zero_le _, Nat.zero_le _⟩ dX10_blame_84) hS (fun r_14 d_13 q_15 H locs hW hS => ?_)
                  obtain ⟨rfl, rfl⟩ := q_15
                  refine lv_if_eq (tgt := 104) hx hb dX10_blame_87 (by decide) (fun c_b => ?_) (fun c_b => ?_)
                  · have hst : bmR S pin be (k + 1) = bmR S pin be k := by rw [bmR, if_neg (fun q => by have z := (same32 S _).kn k (S 19 0) ▸ bI_z c_b; rw [q.2.1] at z; cases z)]
                    refine n_iinc (q := 1) (lv' := [(3, .int (nI (k + 1))), (0, .ref (ad.1 40 0)), (1, .int (nI pin)), (2, .int (nI be))]) hx hb dX10_blame_104 hl (k := 3) rfl (by decide) (by decide) rfl (fun ls hl => ?_)
                    refine lv_goto (tgt := 60) hx hb dX10_blame_107 (by decide) ?_
                    exact ih_lp60 (k + 1) d _ _ ls (by omega) (by omega) (by rw [hst]; exact hP) hW hS (lv_sub hl [1, 2, 3, 0] rfl)
                  · refine lv_aload_n hx hb dX10_blame_90 rfl (lv_at hl 0 rfl) ?_
                    refine lv_iload_n hx hb dX10_blame_91 rfl (lv_at hl 3 rfl) ?_
                    refine lv_iload_n hx hb dX10_blame_92 rfl (lv_at hl 2 rfl) ?_
                    refine o_calli (o_runV (As := [.int (nI k), .int (nI be)]) (rest := []) ⟨hx, hb, hml, hown, hu⟩ (c_X10_bars l D cA B0 ad hal (upS S 32 0 (bmR S pin be k).1) d hP.1 k be (show k < S 18 0 from by omega)) (gV_X10_220 (fun _ h => h)) (n0 := 2) rfl (by decide +kernel) rfl ⟨Nat.le_of_ble_eq_true rfl, Nat.le_of_ble_eq_true rfl⟩ (o_recv hK hW hal.1 (kC_M _ _ _) rfl) hK hW hB hS hl.1 rfl (lv_room (Nat.le_of_ble_eq_true rfl)) ⟨Nat.zero_le _, Nat.zero_le _⟩ dX10_blame_93) hS (fun r_17 d_16 q_18 H locs hW hS => ?_)
                    obtain ⟨rfl, hq⟩ := q_18
                    have hP := hP.mi hq
                    refine lv_if_eq (tgt := 104) hx hb dX10_blame_96 (by decide) (fun c_c => ?_) (fun c_c => ?_)
                    · have hst : bmR S pin be (k + 1) = bmR S pin be k := by rw [bmR, if_neg (fun q => by have z := bI_z c_c; rw [(same32 S _).bars] at z; rw [q.2.2] at z; cases z)]
                      refine n_iinc (q := 1) (lv' := [(3, .int (nI (k + 1))), (0, .ref (ad.1 40 0)), (1, .int (nI pin)), (2, .int (nI be))]) hx hb dX10_blame_104 hl (k := 3) rfl (by decide) (by decide) rfl (fun ls hl => ?_)
                      refine lv_goto (tgt := 60) hx hb dX10_blame_107 (by decide) ?_
                      exact ih_lp60 (k + 1) d_16 _ _ ls (by omega) (by omega) (by rw [hst]; exact hP) hW hS (lv_sub hl [1, 2, 3, 0] rfl)
                    · have hst : bmR S pin be (k + 1) = ((bmR S pin be k).1 + 1, va_up (bmR S pin be k).2 (bmR S pin be k).1 (nI k)) := by rw [bmR, if_pos ⟨c_a, by rw [← (same32 S _).kn k (S 19 0)]; exact bI_n c_b, by rw [← (same32 S _).bars]; exact bI_n c_c⟩]
                      refine lv_aload_n hx hb dX10_blame_99 rfl (lv_at hl 0 rfl) ?_
                      refine lv_iload_n hx hb dX10_blame_100 rfl (lv_at hl 3 rfl) ?_
                      refine o_callv (o_runV (As := [.int (nI k)]) (rest := []) ⟨hx, hb, hml, hown, hu⟩ (c_X10_tell l D cA B0 ad hal (upS S 32 0 ((bmR S pin be k).1)) d_16 hP.1.1 hP.1.2.1 (nI k) (show (bmR S pin be k).1 < 64 from by omega)) (gV_X10_211 (fun _ h => h)) (n0 := 1) rfl (by decide +kernel) rfl ⟨Nat.le_of_ble_eq_true rfl, Nat.le_of_ble_eq_true rfl⟩ (o_recv hK hW hal.1 (kC_M _ _ _) rfl) hK hW hB hS hl.1 rfl (lv_room (Nat.le_of_ble_eq_true rfl)) ⟨Nat.zero_le _, Nat.zero_le _⟩ dX10_blame_101) hS (fun d_19 q_21 H locs hW hS => ?_)
                      subst q_21
                      have hP := hP.tell (show (bmR S pin be k).1 < 64 from by omega) (nI k)
                      refine n_iinc (q := 1) (lv' := [(3, .int (nI (k + 1))), (0, .ref (ad.1 40 0)), (1, .int (nI pin)), (2, .int (nI be))]) hx hb dX10_blame_104 hl (k := 3) rfl (by decide) (by decide) rfl (fun ls hl => ?_)
                      refine lv_goto (tgt := 60) hx hb dX10_blame_107 (by decide) ?_
                      exact ih_lp60 (k + 1) (uI (uI d_16 81 0 ((bmR S pin be k).1) (nI k)) 40 0 32 (nI ((bmR S pin be k).1 + 1))) _ _ ls (by omega) (by omega) (by rw [hst]; exact hP) hW hS (lv_sub hl [1, 2, 3, 0] rfl)
          exact lp60 (S 18 0 + 1) 0 (uI (uI (uI d 40 0 32 (nI 0)) 81 0 0 (nI be)) 40 0 32 (nI (0 + 1))) _ _ ls (by omega) (by omega) hP hW hS (lv_sub hl [1, 2, 3, 0] rfl)
        · refine lv_aload_n hx hb dX10_blame_25 rfl (lv_at hl 0 rfl) ?_
          refine lv_iload_n hx hb dX10_blame_26 rfl (lv_at hl 1 rfl) ?_
          refine lv_iload_n hx hb dX10_blame_27 rfl (lv_at hl 3 rfl) ?_
          refine o_calli (o_runV (As := [.int (nI pin), .int (nI m1)]) (rest := []) ⟨hx, hb, hml, hown, hu⟩ (c_X10_barring l D cA B0 ad hal S d hI.1 pin m1 (by omega)) (gV_X10_223 (fun _ h => h)) (n0 := 2) rfl (by decide +kernel) rfl ⟨Nat.le_of_ble_eq_true rfl, Nat.le_of_ble_eq_true rfl⟩ (o_recv hK hW hal.1 (kC_M _ _ _) rfl) hK hW hB hS hl.1 rfl (lv_room (Nat.le_of_ble_eq_true rfl)) ⟨Nat.zero_le _, Nat.zero_le _⟩ dX10_blame_28) hS (fun r_23 d_22 q_24 H locs hW hS => ?_)
          obtain ⟨rfl, hq⟩ := q_24
          have hI := hI.trans hq
          refine lv_aload_n hx hb dX10_blame_31 rfl (lv_at hl 0 rfl) ?_
          refine lv_iload_n hx hb dX10_blame_32 rfl (lv_at hl 1 rfl) ?_
          refine lv_iload_n hx hb dX10_blame_33 rfl (lv_at hl 2 rfl) ?_
          refine o_calli (o_runV (As := [.int (nI pin), .int (nI be)]) (rest := [.int (nI (sRing S pin m1 (S 18 0)))]) ⟨hx, hb, hml, hown, hu⟩ (c_X10_barring l D cA B0 ad hal S d_22 hI.1 pin be (by omega)) (gV_X10_223 (fun _ h => h)) (n0 := 2) rfl (by decide +kernel) rfl ⟨Nat.le_of_ble_eq_true rfl, Nat.le_of_ble_eq_true rfl⟩ (o_recv hK hW hal.1 (kC_M _ _ _) rfl) hK hW hB hS hl.1 rfl (lv_room (Nat.le_of_ble_eq_true rfl)) ⟨Nat.zero_le _, Nat.zero_le _⟩ dX10_blame_34) hS (fun r_26 d_25 q_27 H locs hW hS => ?_)
          obtain ⟨rfl, hq⟩ := q_27
          have hI := hI.trans hq
          have hr1 := sRing_le S pin m1 (S 18 0)
          have hr2 := sRing_le S pin be (S 18 0)
          refine n_icmp_ge (tgt := 42) hx hb (by omega) (by omega) dX10_blame_37 (by decide) (fun c_w => ?_) (fun c_w => ?_)
          · have hst : blB S pin (m1 + 1) = blB S pin m1 := by rw [blB, if_neg (by rw [← hbe]; omega)]
            refine n_iinc (q := 1) (lv' := [(3, .int (nI (m1 + 1))), (0, .ref (ad.1 40 0)), (1, .int (nI pin)), (2, .int (nI be))]) hx hb dX10_blame_42 hl (k := 3) rfl (by decide) (by decide) rfl (fun ls hl => ?_)
            refine lv_goto (tgt := 19) hx hb dX10_blame_45 (by decide) ?_
            exact ih_lp19 be (m1 + 1) d_25 _ _ ls (by omega) (by omega) hI (by first | (rw [hst]; done) | (rw [hst]; exact hbe)) hW hS (lv_sub hl [1, 2, 3, 0] rfl)
          · have hst : blB S pin (m1 + 1) = m1 := by rw [blB, if_pos (by rw [← hbe]; omega)]
            refine lv_iload_n hx hb dX10_blame_40 rfl (lv_at hl 3 rfl) ?_
            refine lv_istore_n (lv' := [(2, .int (nI m1)), (0, .ref (ad.1 40 0)), (1, .int (nI pin)), (3, .int (nI m1))]) hx hb dX10_blame_41 rfl hl (by decide) rfl (fun ls hl => ?_)
            refine n_iinc (q := 1) (lv' := [(3, .int (nI (m1 + 1))), (2, .int (nI m1)), (0, .ref (ad.1 40 0)), (1, .int (nI pin))]) hx hb dX10_blame_42 hl (k := 3) rfl (by decide) (by decide) rfl (fun ls hl => ?_)
            refine lv_goto (tgt := 19) hx hb dX10_blame_45 (by decide) ?_
            exact ih_lp19 m1 (m1 + 1) d_25 _ _ ls (by omega) (by omega) hI (by first | (rw [hst]; done) | (rw [hst]; exact hbe)) hW hS (lv_sub hl [2, 3, 1, 0] rfl)
    exact lp19 (65) 0 1 (uI d0 40 0 33 (nI 0)) _ _ ls (by omega) (by omega) hI (by unfold blB; split <;> rfl) hW hS (lv_sub hl [2, 3, 1, 0] rfl)
  · refine lv_iconst (v := -1) hx hb dX10_blame_13 (by decide) ?_
    exact o_iret hx hb hr hlocks hW hS (⟨by simp only [aBlame, bI_z c_4, eq_self, ↓reduceIte, Bool.false_eq_true], by simp only [nBlame, rBlame, bI_z c_4, eq_self, ↓reduceIte, Bool.false_eq_true]; exact hI.pub hR⟩) dX10_blame_14
