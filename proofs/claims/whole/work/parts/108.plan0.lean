set_option maxHeartbeats 400000 in
set_option maxRecDepth 100000 in
theorem c_X10_isPlan (l : Launch) (D : va_G) (cA : Nat → ClassId) (B0 : Nat) (ad : kA) (hal : mAl ad) (S : sS) (d0 : kD) (hS0 : dS S d0) (hG : sG S) (pi : Int32) (ai : Int32) (bi : Int32) (ni : Int32) (ei : Int32)  : oM l yX10_isPlan wX10_isPlan 3 0 0 D cA B0 ad d0 ([.ref (ad.1 40 0), .int pi, .int ai, .int bi, .int ni, .int ei] : List Value) (oQi D cA B0 ad (fun r d1 => r = bI (isPl S pi ai bi ni ei) ∧ d0 = d1)) := by
  refine o_ofW (cc := cX10_isPlan) (maxL := 6) (ret := some .boolean) (by decide) rfl (Nat.le_of_ble_eq_true rfl) ?_
  intro p e s m below meth c hx hb hr hml hts hown hlocks hnm hK hW hB hS ls hl
  have hu : ∀ w ∈ UW, w.before _ s = true := fun w h => hts w (uw_c w h)
  have hl : lv_has ls 6 [(0, .ref (ad.1 40 0)), (1, .int pi), (2, .int ai), (3, .int bi), (4, .int ni), (5, .int ei)] := hl
  have hb7 : S 7 0 ≤ 8 := hG.f 7 (mx := 8) (by decide)
  refine lv_aload_n hx hb dX10_isPlan_0 rfl (lv_at hl 0 rfl) ?_
  refine lv_iload_n hx hb dX10_isPlan_1 rfl (lv_at hl 1 rfl) ?_
  refine o_calli (o_runV (As := [.int pi]) (rest := []) ⟨hx, hb, hml, hown, hu⟩ (c_X10_isPier l D cA B0 ad hal S d0 hS0 hG pi ) (gV_X10_145 (fun _ h => h)) (n0 := 1) rfl (by decide +kernel) rfl ⟨Nat.le_of_ble_eq_true rfl, Nat.le_of_ble_eq_true rfl⟩ (o_recv hK hW hal.1 (kC_M _ _ _) rfl) hK hW hB hS hl.1 rfl (lv_room (Nat.le_of_ble_eq_true rfl)) ⟨Nat.zero_le _, Nat.zero_le _⟩ dX10_isPlan_2) hS (fun r_2 d_1 q_3 H locs hW hS => ?_)
  obtain ⟨rfl, rfl⟩ := q_3
  refine lv_if_eq (tgt := 62) hx hb dX10_isPlan_5 (by decide) (fun c_4 => ?_) (fun c_4 => ?_)
  · refine n_iconst (v := 0) hx hb dX10_isPlan_62 (by decide) ?_
    exact o_zret hx hb hr hlocks (by first | rfl | exact z_bI _ | (split <;> first | rfl | (split <;> rfl))) hW hS (⟨by first | (simp only [isPl, bI_z c_4, eq_self, ↓reduceIte, Bool.false_eq_true, Bool.false_and, Bool.and_false, Bool.true_and]; done) | (simp only [isPl, bI_z c_4, eq_self, ↓reduceIte, Bool.false_eq_true, Bool.false_and, Bool.and_false, Bool.true_and]; rfl) | (simp only [isPl, bI_z c_4, eq_self, ↓reduceIte, Bool.false_eq_true, Bool.false_and, Bool.and_false, Bool.true_and]; rw [decide_eq_true (by unfold dyF; omega)]; rfl) | (simp only [isPl, bI_z c_4, eq_self, ↓reduceIte, Bool.false_eq_true, Bool.false_and, Bool.and_false, Bool.true_and]; rw [decide_eq_false (by unfold dyF; omega)]; rfl), rfl⟩) dX10_isPlan_63
  · obtain ⟨pin, hpin, rfl⟩ := ix_t (bI_n c_4) (by omega)
    refine lv_iload_n hx hb dX10_isPlan_8 rfl (lv_at hl 2 rfl) ?_
    refine o_calli (o_runS (As := [.int ai]) (rest := []) ⟨hx, hb, hml, hown, hu⟩ (c_X10_isDay l D cA B0 ad hal d0 ai) (gS_X10_126 (fun _ h => h)) (n0 := 1) rfl (by decide +kernel) rfl ⟨Nat.le_of_ble_eq_true rfl, Nat.le_of_ble_eq_true rfl⟩ hK hW hB hS hl.1 rfl (lv_room (Nat.le_of_ble_eq_true rfl)) ⟨Nat.zero_le _, Nat.zero_le _⟩ dX10_isPlan_9) hS (fun r_6 d_5 q_7 H locs hW hS => ?_)
    obtain ⟨rfl, rfl⟩ := q_7
    refine lv_if_eq (tgt := 62) hx hb dX10_isPlan_12 (by decide) (fun c_8 => ?_) (fun c_8 => ?_)
    · refine n_iconst (v := 0) hx hb dX10_isPlan_62 (by decide) ?_
      exact o_zret hx hb hr hlocks (by first | rfl | exact z_bI _ | (split <;> first | rfl | (split <;> rfl))) hW hS (⟨by first | (simp only [isPl, ix_nI hpin (by omega), nx_nI (j := pin) (by omega), bI_z c_8, eq_self, ↓reduceIte, Bool.false_eq_true, Bool.false_and, Bool.and_false, Bool.true_and]; done) | (simp only [isPl, ix_nI hpin (by omega), nx_nI (j := pin) (by omega), bI_z c_8, eq_self, ↓reduceIte, Bool.false_eq_true, Bool.false_and, Bool.and_false, Bool.true_and]; rfl) | (simp only [isPl, ix_nI hpin (by omega), nx_nI (j := pin) (by omega), bI_z c_8, eq_self, ↓reduceIte, Bool.false_eq_true, Bool.false_and, Bool.and_false, Bool.true_and]; rw [decide_eq_true (by unfold dyF; omega)]; rfl) | (simp only [isPl, ix_nI hpin (by omega), nx_nI (j := pin) (by omega), bI_z c_8, eq_self, ↓reduceIte, Bool.false_eq_true, Bool.false_and, Bool.and_false, Bool.true_and]; rw [decide_eq_false (by unfold dyF; omega)]; rfl), rfl⟩) dX10_isPlan_63
    · obtain ⟨ain, hain, rfl⟩ := ix_t (bI_n c_8) (by omega)
      refine lv_iload_n hx hb dX10_isPlan_15 rfl (lv_at hl 3 rfl) ?_
      refine n_iconst (v := 1) hx hb dX10_isPlan_16 (by decide) ?_
      refine n_bipush (v := 50) hx hb dX10_isPlan_17 (by decide) ?_
      refine o_calli (o_runS (As := [.int bi, .int (nI 1), .int (nI 50)]) (rest := []) ⟨hx, hb, hml, hown, hu⟩ (c_X10_in l D cA B0 ad hal d0 bi (nI 1) (nI 50)) (gS_X10_119 (fun _ h => h)) (n0 := 3) rfl (by decide +kernel) rfl ⟨Nat.le_of_ble_eq_true rfl, Nat.le_of_ble_eq_true rfl⟩ hK hW hB hS hl.1 rfl (lv_room (Nat.le_of_ble_eq_true rfl)) ⟨Nat.zero_le _, Nat.zero_le _⟩ dX10_isPlan_19) hS (fun r_10 d_9 q_11 H locs hW hS => ?_)
      obtain ⟨rfl, rfl⟩ := q_11
      refine n_topi (y := bI (rx bi 1 50)) (in_rx (by omega) (by omega)) ?_
      refine lv_if_eq (tgt := 62) hx hb dX10_isPlan_22 (by decide) (fun c_12 => ?_) (fun c_12 => ?_)
      · refine n_iconst (v := 0) hx hb dX10_isPlan_62 (by decide) ?_
        exact o_zret hx hb hr hlocks (by first | rfl | exact z_bI _ | (split <;> first | rfl | (split <;> rfl))) hW hS (⟨by first | (simp only [isPl, ix_nI hpin (by omega), nx_nI (j := pin) (by omega), ix_nI hain (by omega), nx_nI (j := ain) (by omega), bI_z c_12, eq_self, ↓reduceIte, Bool.false_eq_true, Bool.false_and, Bool.and_false, Bool.true_and]; done) | (simp only [isPl, ix_nI hpin (by omega), nx_nI (j := pin) (by omega), ix_nI hain (by omega), nx_nI (j := ain) (by omega), bI_z c_12, eq_self, ↓reduceIte, Bool.false_eq_true, Bool.false_and, Bool.and_false, Bool.true_and]; rfl) | (simp only [isPl, ix_nI hpin (by omega), nx_nI (j := pin) (by omega), ix_nI hain (by omega), nx_nI (j := ain) (by omega), bI_z c_12, eq_self, ↓reduceIte, Bool.false_eq_true, Bool.false_and, Bool.and_false, Bool.true_and]; rw [decide_eq_true (by unfold dyF; omega)]; rfl) | (simp only [isPl, ix_nI hpin (by omega), nx_nI (j := pin) (by omega), ix_nI hain (by omega), nx_nI (j := ain) (by omega), bI_z c_12, eq_self, ↓reduceIte, Bool.false_eq_true, Bool.false_and, Bool.and_false, Bool.true_and]; rw [decide_eq_false (by unfold dyF; omega)]; rfl), rfl⟩) dX10_isPlan_63
      · obtain ⟨bin, hbina, hbin, rfl⟩ := rx_t (bI_n c_12) (by omega)
        refine lv_iload hx hb dX10_isPlan_25 (lv_at hl 4 rfl) ?_
        refine n_iconst (v := 1) hx hb dX10_isPlan_27 (by decide) ?_
        refine n_bipush (v := 6) hx hb dX10_isPlan_28 (by decide) ?_
        refine o_calli (o_runS (As := [.int ni, .int (nI 1), .int (nI 6)]) (rest := []) ⟨hx, hb, hml, hown, hu⟩ (c_X10_in l D cA B0 ad hal d0 ni (nI 1) (nI 6)) (gS_X10_119 (fun _ h => h)) (n0 := 3) rfl (by decide +kernel) rfl ⟨Nat.le_of_ble_eq_true rfl, Nat.le_of_ble_eq_true rfl⟩ hK hW hB hS hl.1 rfl (lv_room (Nat.le_of_ble_eq_true rfl)) ⟨Nat.zero_le _, Nat.zero_le _⟩ dX10_isPlan_30) hS (fun r_14 d_13 q_15 H locs hW hS => ?_)
        obtain ⟨rfl, rfl⟩ := q_15
        refine n_topi (y := bI (rx ni 1 6)) (in_rx (by omega) (by omega)) ?_
        refine lv_if_eq (tgt := 62) hx hb dX10_isPlan_33 (by decide) (fun c_16 => ?_) (fun c_16 => ?_)
        · refine n_iconst (v := 0) hx hb dX10_isPlan_62 (by decide) ?_
          exact o_zret hx hb hr hlocks (by first | rfl | exact z_bI _ | (split <;> first | rfl | (split <;> rfl))) hW hS (⟨by first | (simp only [isPl, ix_nI hpin (by omega), nx_nI (j := pin) (by omega), ix_nI hain (by omega), nx_nI (j := ain) (by omega), rx_nI hbina hbin (by omega), nx_nI (j := bin) (by omega), bI_z c_16, eq_self, ↓reduceIte, Bool.false_eq_true, Bool.false_and, Bool.and_false, Bool.true_and]; done) | (simp only [isPl, ix_nI hpin (by omega), nx_nI (j := pin) (by omega), ix_nI hain (by omega), nx_nI (j := ain) (by omega), rx_nI hbina hbin (by omega), nx_nI (j := bin) (by omega), bI_z c_16, eq_self, ↓reduceIte, Bool.false_eq_true, Bool.false_and, Bool.and_false, Bool.true_and]; rfl) | (simp only [isPl, ix_nI hpin (by omega), nx_nI (j := pin) (by omega), ix_nI hain (by omega), nx_nI (j := ain) (by omega), rx_nI hbina hbin (by omega), nx_nI (j := bin) (by omega), bI_z c_16, eq_self, ↓reduceIte, Bool.false_eq_true, Bool.false_and, Bool.and_false, Bool.true_and]; rw [decide_eq_true (by unfold dyF; omega)]; rfl) | (simp only [isPl, ix_nI hpin (by omega), nx_nI (j := pin) (by omega), ix_nI hain (by omega), nx_nI (j := ain) (by omega), rx_nI hbina hbin (by omega), nx_nI (j := bin) (by omega), bI_z c_16, eq_self, ↓reduceIte, Bool.false_eq_true, Bool.false_and, Bool.and_false, Bool.true_and]; rw [decide_eq_false (by unfold dyF; omega)]; rfl), rfl⟩) dX10_isPlan_63
        · obtain ⟨nin, hnina, hnin, rfl⟩ := rx_t (bI_n c_16) (by omega)
          refine lv_iload_n hx hb dX10_isPlan_36 rfl (lv_at hl 2 rfl) ?_
          refine lv_iload_n hx hb dX10_isPlan_37 rfl (lv_at hl 3 rfl) ?_
          refine lv_iload hx hb dX10_isPlan_38 (lv_at hl 4 rfl) ?_
          refine n_iconst (v := 1) hx hb dX10_isPlan_40 (by decide) ?_
          refine n_isub hx hb (by omega) dX10_isPlan_41 ?_
          refine n_imul hx hb dX10_isPlan_42 ?_
          have hpr : bin * (nin - 1) ≤ 50 * 5 := Nat.mul_le_mul (by omega) (by omega)
          refine n_iadd hx hb dX10_isPlan_43 ?_
          refine n_sipush (v := 400) hx hb dX10_isPlan_44 (by decide) ?_
          refine n_icmp_ge (tgt := 62) hx hb (by omega) (by omega) dX10_isPlan_47 (by decide) (fun c_d => ?_) (fun c_d => ?_)
          · refine n_iconst (v := 0) hx hb dX10_isPlan_62 (by decide) ?_
            exact o_zret hx hb hr hlocks (by first | rfl | exact z_bI _ | (split <;> first | rfl | (split <;> rfl))) hW hS (⟨by first | (simp only [isPl, ix_nI hpin (by omega), nx_nI (j := pin) (by omega), ix_nI hain (by omega), nx_nI (j := ain) (by omega), rx_nI hbina hbin (by omega), nx_nI (j := bin) (by omega), rx_nI hnina hnin (by omega), nx_nI (j := nin) (by omega), eq_self, ↓reduceIte, Bool.false_eq_true, Bool.false_and, Bool.and_false, Bool.true_and]; done) | (simp only [isPl, ix_nI hpin (by omega), nx_nI (j := pin) (by omega), ix_nI hain (by omega), nx_nI (j := ain) (by omega), rx_nI hbina hbin (by omega), nx_nI (j := bin) (by omega), rx_nI hnina hnin (by omega), nx_nI (j := nin) (by omega), eq_self, ↓reduceIte, Bool.false_eq_true, Bool.false_and, Bool.and_false, Bool.true_and]; rfl) | (simp only [isPl, ix_nI hpin (by omega), nx_nI (j := pin) (by omega), ix_nI hain (by omega), nx_nI (j := ain) (by omega), rx_nI hbina hbin (by omega), nx_nI (j := bin) (by omega), rx_nI hnina hnin (by omega), nx_nI (j := nin) (by omega), eq_self, ↓reduceIte, Bool.false_eq_true, Bool.false_and, Bool.and_false, Bool.true_and]; rw [decide_eq_true (by unfold dyF; omega)]; rfl) | (simp only [isPl, ix_nI hpin (by omega), nx_nI (j := pin) (by omega), ix_nI hain (by omega), nx_nI (j := ain) (by omega), rx_nI hbina hbin (by omega), nx_nI (j := bin) (by omega), rx_nI hnina hnin (by omega), nx_nI (j := nin) (by omega), eq_self, ↓reduceIte, Bool.false_eq_true, Bool.false_and, Bool.and_false, Bool.true_and]; rw [decide_eq_false (by unfold dyF; omega)]; rfl), rfl⟩) dX10_isPlan_63
          · refine lv_iload hx hb dX10_isPlan_50 (lv_at hl 5 rfl) ?_
            refine o_calli (o_runS (As := [.int ei]) (rest := []) ⟨hx, hb, hml, hown, hu⟩ (c_X10_isErrs l D cA B0 ad hal d0 ei) (gS_X10_237 (fun _ h => h)) (n0 := 1) rfl (by decide +kernel) rfl ⟨Nat.le_of_ble_eq_true rfl, Nat.le_of_ble_eq_true rfl⟩ hK hW hB hS hl.1 rfl (lv_room (Nat.le_of_ble_eq_true rfl)) ⟨Nat.zero_le _, Nat.zero_le _⟩ dX10_isPlan_52) hS (fun r_18 d_17 q_19 H locs hW hS => ?_)
            obtain ⟨rfl, rfl⟩ := q_19
            refine lv_if_eq (tgt := 62) hx hb dX10_isPlan_55 (by decide) (fun c_20 => ?_) (fun c_20 => ?_)
            · refine n_iconst (v := 0) hx hb dX10_isPlan_62 (by decide) ?_
              exact o_zret hx hb hr hlocks (by first | rfl | exact z_bI _ | (split <;> first | rfl | (split <;> rfl))) hW hS (⟨by first | (simp only [isPl, ix_nI hpin (by omega), nx_nI (j := pin) (by omega), ix_nI hain (by omega), nx_nI (j := ain) (by omega), rx_nI hbina hbin (by omega), nx_nI (j := bin) (by omega), rx_nI hnina hnin (by omega), nx_nI (j := nin) (by omega), bI_z c_20, eq_self, ↓reduceIte, Bool.false_eq_true, Bool.false_and, Bool.and_false, Bool.true_and]; done) | (simp only [isPl, ix_nI hpin (by omega), nx_nI (j := pin) (by omega), ix_nI hain (by omega), nx_nI (j := ain) (by omega), rx_nI hbina hbin (by omega), nx_nI (j := bin) (by omega), rx_nI hnina hnin (by omega), nx_nI (j := nin) (by omega), bI_z c_20, eq_self, ↓reduceIte, Bool.false_eq_true, Bool.false_and, Bool.and_false, Bool.true_and]; rfl) | (simp only [isPl, ix_nI hpin (by omega), nx_nI (j := pin) (by omega), ix_nI hain (by omega), nx_nI (j := ain) (by omega), rx_nI hbina hbin (by omega), nx_nI (j := bin) (by omega), rx_nI hnina hnin (by omega), nx_nI (j := nin) (by omega), bI_z c_20, eq_self, ↓reduceIte, Bool.false_eq_true, Bool.false_and, Bool.and_false, Bool.true_and]; rw [decide_eq_true (by unfold dyF; omega)]; rfl) | (simp only [isPl, ix_nI hpin (by omega), nx_nI (j := pin) (by omega), ix_nI hain (by omega), nx_nI (j := ain) (by omega), rx_nI hbina hbin (by omega), nx_nI (j := bin) (by omega), rx_nI hnina hnin (by omega), nx_nI (j := nin) (by omega), bI_z c_20, eq_self, ↓reduceIte, Bool.false_eq_true, Bool.false_and, Bool.and_false, Bool.true_and]; rw [decide_eq_false (by unfold dyF; omega)]; rfl), rfl⟩) dX10_isPlan_63
            · obtain ⟨ein, hein, rfl⟩ := ix_t (bI_n c_20) (by omega)
              refine n_iconst (v := 1) hx hb dX10_isPlan_58 (by decide) ?_
              refine lv_goto (tgt := 63) hx hb dX10_isPlan_59 (by decide) ?_
              exact o_zret hx hb hr hlocks (by first | rfl | exact z_bI _ | (split <;> first | rfl | (split <;> rfl))) hW hS (⟨by first | (simp only [isPl, ix_nI hpin (by omega), nx_nI (j := pin) (by omega), ix_nI hain (by omega), nx_nI (j := ain) (by omega), rx_nI hbina hbin (by omega), nx_nI (j := bin) (by omega), rx_nI hnina hnin (by omega), nx_nI (j := nin) (by omega), ix_nI hein (by omega), nx_nI (j := ein) (by omega), eq_self, ↓reduceIte, Bool.false_eq_true, Bool.false_and, Bool.and_false, Bool.true_and]; done) | (simp only [isPl, ix_nI hpin (by omega), nx_nI (j := pin) (by omega), ix_nI hain (by omega), nx_nI (j := ain) (by omega), rx_nI hbina hbin (by omega), nx_nI (j := bin) (by omega), rx_nI hnina hnin (by omega), nx_nI (j := nin) (by omega), ix_nI hein (by omega), nx_nI (j := ein) (by omega), eq_self, ↓reduceIte, Bool.false_eq_true, Bool.false_and, Bool.and_false, Bool.true_and]; rfl) | (simp only [isPl, ix_nI hpin (by omega), nx_nI (j := pin) (by omega), ix_nI hain (by omega), nx_nI (j := ain) (by omega), rx_nI hbina hbin (by omega), nx_nI (j := bin) (by omega), rx_nI hnina hnin (by omega), nx_nI (j := nin) (by omega), ix_nI hein (by omega), nx_nI (j := ein) (by omega), eq_self, ↓reduceIte, Bool.false_eq_true, Bool.false_and, Bool.and_false, Bool.true_and]; rw [decide_eq_true (by unfold dyF; omega)]; rfl) | (simp only [isPl, ix_nI hpin (by omega), nx_nI (j := pin) (by omega), ix_nI hain (by omega), nx_nI (j := ain) (by omega), rx_nI hbina hbin (by omega), nx_nI (j := bin) (by omega), rx_nI hnina hnin (by omega), nx_nI (j := nin) (by omega), ix_nI hein (by omega), nx_nI (j := ein) (by omega), eq_self, ↓reduceIte, Bool.false_eq_true, Bool.false_and, Bool.and_false, Bool.true_and]; rw [decide_eq_false (by unfold dyF; omega)]; rfl), rfl⟩) dX10_isPlan_63

set_option maxHeartbeats 400000 in
set_option maxRecDepth 100000 in
theorem c_X10_beginPlan (l : Launch) (D : va_G) (cA : Nat → ClassId) (B0 : Nat) (ad : kA) (hal : mAl ad) (S : sS) (d0 : kD) (hM : InvM S d0) (pp aa bb nn er : Nat) (hn6 : nn ≤ 6) : oM l yX10_beginPlan wX10_beginPlan 2 0 0 D cA B0 ad d0 ([.ref (ad.1 40 0), .int (nI pp), .int (nI aa), .int (nI bb), .int (nI nn), .int (nI er)] : List Value) (oQv D cA B0 ad (fun d1 => BG S d0 d1 pp er (dyF aa bb) nn nn)) := by
  refine o_ofW (cc := cX10_beginPlan) (maxL := 7) (ret := none) (by decide) rfl (Nat.le_of_ble_eq_true rfl) ?_
  intro p e s m below meth c hx hb hr hml hts hown hlocks hnm hK hW hB hS ls hl
  have hu : ∀ w ∈ UW, w.before _ s = true := fun w h => hts w (uw_c w h)
  have hl : lv_has ls 7 [(0, .ref (ad.1 40 0)), (1, .int (nI pp)), (2, .int (nI aa)), (3, .int (nI bb)), (4, .int (nI nn)), (5, .int (nI er))] := hl
  refine lv_aload_n hx hb dX10_beginPlan_0 rfl (lv_at hl 0 rfl) ?_
  refine lv_iload_n hx hb dX10_beginPlan_1 rfl (lv_at hl 1 rfl) ?_
  refine mo_pi hx hb hu hown hK hal hW hS 42 (by decide +kernel) uF_X10_244 dX10_beginPlan_2 (fun H locs hW hS => ?_)
  refine lv_aload_n hx hb dX10_beginPlan_5 rfl (lv_at hl 0 rfl) ?_
  refine lv_iload hx hb dX10_beginPlan_6 (lv_at hl 5 rfl) ?_
  refine mo_pi hx hb hu hown hK hal hW hS 41 (by decide +kernel) uF_X10_247 dX10_beginPlan_8 (fun H locs hW hS => ?_)
  refine lv_aload_n hx hb dX10_beginPlan_11 rfl (lv_at hl 0 rfl) ?_
  refine lv_iload hx hb dX10_beginPlan_12 (lv_at hl 4 rfl) ?_
  refine mo_pi hx hb hu hown hK hal hW hS 40 (by decide +kernel) uF_X10_250 dX10_beginPlan_14 (fun H locs hW hS => ?_)
  have hBG := BG.start hM pp er (dyF aa bb) nn
  refine n_iconst (v := 0) hx hb dX10_beginPlan_17 (by decide) ?_
  refine lv_istore (lv' := [(6, .int (nI 0)), (0, .ref (ad.1 40 0)), (1, .int (nI pp)), (2, .int (nI aa)), (3, .int (nI bb)), (4, .int (nI nn)), (5, .int (nI er))]) hx hb dX10_beginPlan_18 hl (by decide) rfl (fun ls hl => ?_)
  have lp20 : ∀ (n : Nat) (k : Nat)  (d : kD) (H : Heap) (locs : List Loc) (ls : Array Slot), nn - k < n → (k ≤ nn) → (BG S d0 d pp er (dyF aa bb) nn k) → oW D cA B0 ad d H → va_S (oA B0) s.heap H locs → lv_has ls 7 [(0, .ref (ad.1 40 0)), (1, .int (nI pp)), (2, .int (nI aa)), (3, .int (nI bb)), (4, .int (nI nn)), (5, .int (nI er)), (6, .int (nI k))] → W p l e (oR 2 0 0) s m ([.ref (ad.1 40 0), .int (nI pp), .int (nI aa), .int (nI bb), .int (nI nn), .int (nI er)] : List Value).toArray below meth c H locs 0 0 (MQ below (oQv D cA B0 ad (fun d1 => BG S d0 d1 pp er (dyF aa bb) nn nn)) ([.ref (ad.1 40 0), .int (nI pp), .int (nI aa), .int (nI bb), .int (nI nn), .int (nI er)] : List Value).toArray s 0 0 (oA B0)) (F0 m 20 ls []) := by
    intro n
    induction n with
    | zero => intro k  d H locs ls hmu; exact absurd hmu (Nat.not_lt_zero _)
    | succ n ih_lp20 =>
      intro k  d H locs ls hmu hk hBG hW hS hl
      refine lv_iload hx hb dX10_beginPlan_20 (lv_at hl 6 rfl) ?_
      refine lv_iload hx hb dX10_beginPlan_22 (lv_at hl 4 rfl) ?_
      refine n_icmp_ge (tgt := 46) hx hb (by omega) (by omega) dX10_beginPlan_24 (by decide) (fun c_1 => ?_) (fun c_1 => ?_)
      · exact o_vret hx hb hr hlocks hW hS ((show k = nn by omega) ▸ hBG) dX10_beginPlan_46
      · refine lv_aload_n hx hb dX10_beginPlan_27 rfl (lv_at hl 0 rfl) ?_
        refine mo_ga hx hb hu hown hK hal hW 39 (by decide) uF_X10_104 dX10_beginPlan_28 ?_
        refine lv_iload hx hb dX10_beginPlan_31 (lv_at hl 6 rfl) ?_
        refine lv_iload_n hx hb dX10_beginPlan_33 rfl (lv_at hl 2 rfl) ?_
        refine lv_iload_n hx hb dX10_beginPlan_34 rfl (lv_at hl 3 rfl) ?_
        refine lv_iload hx hb dX10_beginPlan_35 (lv_at hl 6 rfl) ?_
        refine n_imul hx hb dX10_beginPlan_37 ?_
        refine n_iadd hx hb dX10_beginPlan_38 ?_
        refine mo_st hx hb hK hal hW hS 39 (n := 6) (by decide) (by omega) dX10_beginPlan_39 (fun H locs hW hS => ?_)
        have hBG := hBG.st _ rfl
        refine n_iinc (q := 1) (lv' := [(6, .int (nI (k + 1))), (0, .ref (ad.1 40 0)), (1, .int (nI pp)), (2, .int (nI aa)), (3, .int (nI bb)), (4, .int (nI nn)), (5, .int (nI er))]) hx hb dX10_beginPlan_40 hl (k := 6) rfl (by decide) (by decide) rfl (fun ls hl => ?_)
        refine lv_goto (tgt := 20) hx hb dX10_beginPlan_43 (by decide) ?_
        exact ih_lp20 (k + 1) (uI d (50 + 39) 0 k (nI (aa + (bb * k)))) _ _ ls (by omega) (by omega) hBG hW hS (lv_sub hl [1, 2, 3, 4, 5, 6, 0] rfl)
  exact lp20 (nn + 1) 0 (uI (uI (uI d0 40 0 42 (nI pp)) 40 0 41 (nI er)) 40 0 40 (nI nn)) _ _ ls (by omega) (by omega) hBG hW hS (lv_sub hl [1, 2, 3, 4, 5, 6, 0] rfl)
