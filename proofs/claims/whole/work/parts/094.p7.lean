set_option maxHeartbeats 400000 in
set_option maxRecDepth 100000 in
theorem c_X10_minds (l : Launch) (D : va_G) (cA : Nat → ClassId) (B0 : Nat) (ad : kA) (hal : mAl ad) (S : sS) (sr : Nat → Int32) (d0 : kD) (hM : InvM S d0) (hR : RowM S sr d0) (pi : Int32) : oM l yX10_minds wX10_minds 9 0 0 D cA B0 ad d0 ([.ref (ad.1 40 0), .int pi] : List Value) (oQi D cA B0 ad (fun r d1 => r = aMinds S pi ∧ PI (nMinds S pi) (rMinds S sr pi) d0 d1)) := by
  refine o_ofW (cc := cX10_minds) (maxL := 5) (ret := some .int) (by decide) rfl (Nat.le_of_ble_eq_true rfl) ?_
  intro p e s m below meth c hx hb hr hml hts hown hlocks hnm hK hW hB hS ls hl
  have hu : ∀ w ∈ UW, w.before _ s = true := fun w h => hts w (uw_c w h)
  have hl : lv_has ls 5 [(0, .ref (ad.1 40 0)), (1, .int pi)] := hl
  refine lv_aload_n hx hb dX10_minds_0 rfl (lv_at hl 0 rfl) ?_
  refine n_iconst (v := 0) hx hb dX10_minds_1 (by decide) ?_
  refine mo_pi hx hb hu hown hK hal hW hS 33 (by decide +kernel) uF_X10_113 dX10_minds_2 (fun H locs hW hS => ?_)
  have hI : MI S (uI d0 40 0 33 (nI 0)) (uI d0 40 0 33 (nI 0)) := MI.start (hM.thr 33 _ rfl)
  have hG : sG S := hM.2.1
  have hb1 : S 1 0 ≤ 4 := hG.f 1 (mx := 4) (by decide)
  have hb7 : S 7 0 ≤ 8 := hG.f 7 (mx := 8) (by decide)
  have hb11 : S 11 0 ≤ 20 := hG.f 11 (mx := 20) (by decide)
  have hb18 : S 18 0 ≤ 40 := hG.f 18 (mx := 40) (by decide)
  have hb19 : S 19 0 ≤ 399 := hG.f 19 (mx := 399) (by decide)
  have hb22 : S 22 0 ≤ 64 := hG.f 22 (mx := 64) (by decide)
  have hb25 : S 25 0 ≤ 4 := hG.f 25 (mx := 4) (by decide)
  have hb30 : S 30 0 ≤ 10 := hG.f 30 (mx := 10) (by decide)
  have hb32 : S 32 0 ≤ 64 := hG.f 32 (mx := 64) (by decide)
  refine lv_aload_n hx hb dX10_minds_5 rfl (lv_at hl 0 rfl) ?_
  refine lv_iload_n hx hb dX10_minds_6 rfl (lv_at hl 1 rfl) ?_
  refine o_calli (o_runV (As := [.int pi]) (rest := []) ⟨hx, hb, hml, hown, hu⟩ (c_X10_isPier l D cA B0 ad hal S (uI d0 40 0 33 (nI 0)) hI.dS hG pi ) (gV_X10_145 (fun _ h => h)) (n0 := 1) rfl (by decide +kernel) rfl ⟨Nat.le_of_ble_eq_true rfl, Nat.le_of_ble_eq_true rfl⟩ (o_recv hK hW hal.1 (kC_M _ _ _) rfl) hK hW hB hS hl.1 rfl (lv_room (Nat.le_of_ble_eq_true rfl)) ⟨Nat.zero_le _, Nat.zero_le _⟩ dX10_minds_7) hS (fun r_2 d_1 q_3 H locs hW hS => ?_)
  obtain ⟨rfl, rfl⟩ := q_3
  refine lv_if_ne (tgt := 15) hx hb dX10_minds_10 (by decide) (fun c_4 => ?_) (fun c_4 => ?_)
  · obtain ⟨pin, hpin, rfl⟩ := ix_t (bI_n c_4) (by omega)
    refine lv_aload_n hx hb dX10_minds_15 rfl (lv_at hl 0 rfl) ?_
    refine lv_iload_n hx hb dX10_minds_16 rfl (lv_at hl 1 rfl) ?_
    refine lv_aload_n hx hb dX10_minds_17 rfl (lv_at hl 0 rfl) ?_
    refine mo_gi hx hb hu hown hK hal hW hI.dS 19 (by decide) uF_X10_55 dX10_minds_18 ?_
    have b_5 : S 19 0 ≤ 399 := hG.f 19 (mx := 399) (by decide)
    refine o_calll (o_runV (As := [.int (nI pin), .int (nI (S 19 0))]) (rest := []) ⟨hx, hb, hml, hown, hu⟩ (c_X10_keptOn l D cA B0 ad hal S (uI d0 40 0 33 (nI 0)) hI.1 pin (S 19 0) (by omega) (by omega)) (gV_X10_207 (fun _ h => h)) (n0 := 2) rfl (by decide +kernel) rfl ⟨Nat.le_of_ble_eq_true rfl, Nat.le_of_ble_eq_true rfl⟩ (o_recv hK hW hal.1 (kC_M _ _ _) rfl) hK hW hB hS hl.1 rfl (lv_room (Nat.le_of_ble_eq_true rfl)) ⟨Nat.zero_le _, Nat.zero_le _⟩ dX10_minds_21) hS (fun r_7 d_6 q_8 H locs hW hS => ?_)
    obtain ⟨rfl, hq⟩ := q_8
    have hI := hI.trans hq
    refine lv_lstore_n (lv' := [(2, .long (sKept S pin (S 19 0))), (0, .ref (ad.1 40 0)), (1, .int (nI pin))]) hx hb dX10_minds_24 rfl hl (by decide) rfl (fun ls hl => ?_)
    refine lv_aload_n hx hb dX10_minds_25 rfl (lv_at hl 1 rfl) ?_
    refine n_iconst (v := 0) hx hb dX10_minds_26 (by decide) ?_
    refine mo_pi hx hb hu hown hK hal hW hS 32 (by decide +kernel) uF_X10_123 dX10_minds_27 (fun H locs hW hS => ?_)
    have hP := (hI.pub hR).row0 (fun _ => 0)
    refine n_iconst (v := 0) hx hb dX10_minds_30 (by decide) ?_
    refine lv_istore (lv' := [(4, .int (nI 0)), (2, .long (sKept S pin (S 19 0))), (0, .ref (ad.1 40 0)), (1, .int (nI pin))]) hx hb dX10_minds_31 hl (by decide) rfl (fun ls hl => ?_)
    have lp33 : ∀ (n : Nat) (k : Nat)  (d : kD) (H : Heap) (locs : List Loc) (ls : Array Slot), 64 - k < n → (k ≤ 64) → (PI (upS S 32 0 (mdR (sKept S pin (S 19 0)) (fun _ => 0) k).1) (mdR (sKept S pin (S 19 0)) (fun _ => 0) k).2 d0 d) → oW D cA B0 ad d H → va_S (oA B0) s.heap H locs → lv_has ls 5 [(0, .ref (ad.1 40 0)), (1, .int (nI pin)), (2, .long (sKept S pin (S 19 0))), (4, .int (nI k))] → W p l e (oR 9 0 0) s m ([.ref (ad.1 40 0), .int (nI pin)] : List Value).toArray below meth c H locs 0 0 (MQ below (oQi D cA B0 ad (fun r d1 => r = aMinds S (nI pin) ∧ PI (nMinds S (nI pin)) (rMinds S sr (nI pin)) d0 d1)) ([.ref (ad.1 40 0), .int (nI pin)] : List Value).toArray s 0 0 (oA B0)) (F0 m 33 ls []) := by
      intro n
      induction n with
      | zero => intro k  d H locs ls hmu; exact absurd hmu (Nat.not_lt_zero _)
      | succ n ih_lp33 =>
        intro k  d H locs ls hmu hk hP hW hS hl
        have hmd := mdR_le (sKept S pin (S 19 0)) (fun _ => 0) k
        refine lv_iload hx hb dX10_minds_33 (lv_at hl 3 rfl) ?_
        refine n_bipush (v := 64) hx hb dX10_minds_35 (by decide) ?_
        refine n_icmp_ge (tgt := 61) hx hb (by omega) (by omega) dX10_minds_37 (by decide) (fun c_9 => ?_) (fun c_9 => ?_)
        · refine lv_aload_n hx hb dX10_minds_61 rfl (lv_at hl 0 rfl) ?_
          have hk64 : k = 64 := by omega
          refine mo_gr hx hb hu hown hK hal hW 32 (by decide) uF_X10_123 dX10_minds_62 ?_
          refine n_topi (y := nI ((mdR (sKept S pin (S 19 0)) (fun _ => 0) 64).1)) (by have := hP.1.1.2 32 rfl; rw [this, hk64]; rfl) ?_
          exact o_iret hx hb hr hlocks hW hS (⟨by simp only [aMinds, ix_nI hpin (by omega), nx_nI (j := pin) (by omega), eq_self, ↓reduceIte, Bool.false_eq_true], by simp only [nMinds, rMinds, ix_nI hpin (by omega), nx_nI (j := pin) (by omega), eq_self, ↓reduceIte, Bool.false_eq_true]; rw [← hk64]; exact hP⟩) dX10_minds_65
        · refine lv_lload_n hx hb dX10_minds_40 rfl (lv_at hl 2 rfl) ?_
          refine lv_iload hx hb dX10_minds_41 (lv_at hl 3 rfl) ?_
          refine o_calli (o_runS (As := [.long (sKept S pin (S 19 0)), .int (nI k)]) (rest := []) ⟨hx, hb, hml, hown, hu⟩ (c_X10_has l D cA B0 ad hal d (sKept S pin (S 19 0)) k ) (gS_X10_179 (fun _ h => h)) (n0 := 2) rfl (by decide +kernel) rfl ⟨Nat.le_of_ble_eq_true rfl, Nat.le_of_ble_eq_true rfl⟩ hK hW hB hS hl.1 rfl (lv_room (Nat.le_of_ble_eq_true rfl)) ⟨Nat.zero_le _, Nat.zero_le _⟩ dX10_minds_43) hS (fun r_11 d_10 q_12 H locs hW hS => ?_)
          obtain ⟨rfl, rfl⟩ := q_12
          refine lv_if_eq (tgt := 55) hx hb dX10_minds_46 (by decide) (fun c_h => ?_) (fun c_h => ?_)
          · have hst : mdR (sKept S pin (S 19 0)) (fun _ => 0) (k + 1) = mdR (sKept S pin (S 19 0)) (fun _ => 0) k := by rw [mdR, if_neg (by rw [bI_z c_h]; decide)]
            refine n_iinc (q := 1) (lv' := [(4, .int (nI (k + 1))), (0, .ref (ad.1 40 0)), (1, .int (nI pin)), (2, .long (sKept S pin (S 19 0)))]) hx hb dX10_minds_55 hl (k := 3) rfl (by decide) (by decide) rfl (fun ls hl => ?_)
            refine lv_goto (tgt := 33) hx hb dX10_minds_58 (by decide) ?_
            exact ih_lp33 (k + 1) d _ _ ls (by omega) (by omega) (by rw [hst]; exact hP) hW hS (lv_sub hl [1, 2, 3, 0] rfl)
          · have hst : mdR (sKept S pin (S 19 0)) (fun _ => 0) (k + 1) = ((mdR (sKept S pin (S 19 0)) (fun _ => 0) k).1 + 1, va_up (mdR (sKept S pin (S 19 0)) (fun _ => 0) k).2 (mdR (sKept S pin (S 19 0)) (fun _ => 0) k).1 (nI k)) := by rw [mdR, if_pos (bI_n c_h)]
            refine lv_aload_n hx hb dX10_minds_49 rfl (lv_at hl 0 rfl) ?_
            refine lv_iload hx hb dX10_minds_50 (lv_at hl 3 rfl) ?_
            refine o_callv (o_runV (As := [.int (nI k)]) (rest := []) ⟨hx, hb, hml, hown, hu⟩ (c_X10_tell l D cA B0 ad hal (upS S 32 0 ((mdR (sKept S pin (S 19 0)) (fun _ => 0) k).1)) d hP.1.1 hP.1.2.1 (nI k) (show (mdR (sKept S pin (S 19 0)) (fun _ => 0) k).1 < 64 from by omega)) (gV_X10_211 (fun _ h => h)) (n0 := 1) rfl (by decide +kernel) rfl ⟨Nat.le_of_ble_eq_true rfl, Nat.le_of_ble_eq_true rfl⟩ (o_recv hK hW hal.1 (kC_M _ _ _) rfl) hK hW hB hS hl.1 rfl (lv_room (Nat.le_of_ble_eq_true rfl)) ⟨Nat.zero_le _, Nat.zero_le _⟩ dX10_minds_52) hS (fun d_13 q_15 H locs hW hS => ?_)
            subst q_15
            have hP := hP.tell (show (mdR (sKept S pin (S 19 0)) (fun _ => 0) k).1 < 64 from by omega) (nI k)
            refine n_iinc (q := 1) (lv' := [(4, .int (nI (k + 1))), (0, .ref (ad.1 40 0)), (1, .int (nI pin)), (2, .long (sKept S pin (S 19 0)))]) hx hb dX10_minds_55 hl (k := 3) rfl (by decide) (by decide) rfl (fun ls hl => ?_)
            refine lv_goto (tgt := 33) hx hb dX10_minds_58 (by decide) ?_
            exact ih_lp33 (k + 1) (uI (uI d 81 0 ((mdR (sKept S pin (S 19 0)) (fun _ => 0) k).1) (nI k)) 40 0 32 (nI ((mdR (sKept S pin (S 19 0)) (fun _ => 0) k).1 + 1))) _ _ ls (by omega) (by omega) (by rw [hst]; exact hP) hW hS (lv_sub hl [1, 2, 3, 0] rfl)
    exact lp33 (65) 0 (uI d_6 40 0 32 (nI 0)) _ _ ls (by omega) (by omega) hP hW hS (lv_sub hl [2, 3, 1, 0] rfl)
  · refine lv_iconst (v := -1) hx hb dX10_minds_13 (by decide) ?_
    exact o_iret hx hb hr hlocks hW hS (⟨by simp only [aMinds, bI_z c_4, eq_self, ↓reduceIte, Bool.false_eq_true], by simp only [nMinds, rMinds, bI_z c_4, eq_self, ↓reduceIte, Bool.false_eq_true]; exact hI.pub hR⟩) dX10_minds_14
