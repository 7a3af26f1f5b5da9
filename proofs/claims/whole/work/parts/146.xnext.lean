set_option maxHeartbeats 400000 in
set_option maxRecDepth 100000 in
theorem c_X9_worst (l : Launch) (D : va_G) (cA : Nat → ClassId) (B0 : Nat) (ad : kA) (hal : mAl ad) (S : sS) (sr : Nat → Int32) (d0 : kD) (hM : InvX cA ad S d0) (hR : RowX S sr d0) (pi day ei : Int32) : oM l yX9_worst wX9_worst 7 0 0 D cA B0 ad d0 ([.ref (ad.1 0 0), .int pi, .int day, .int ei] : List Value) (oQi D cA B0 ad (fun r d1 => r = aWorst S pi day ei ∧ PX cA ad S sr d0 d1)) := by
  refine o_ofW (cc := cX9_worst) (maxL := 5) (ret := some .int) (by decide) rfl (Nat.le_of_ble_eq_true rfl) ?_
  intro p e s m below meth c hx hb hr hml hts hown hlocks hnm hK hW hB hS ls hl
  have hu : ∀ w ∈ UW, w.before _ s = true := fun w h => hts w (uw_c w h)
  have hl : lv_has ls 5 [(0, .ref (ad.1 0 0)), (1, .int pi), (2, .int day), (3, .int ei)] := hl
  have hX := hM.1
  have hA := hX.1
  have hG := hX.2.2
  have hb7 : S 7 0 ≤ 8 := hG.f 7 (mx := 8) (by decide)
  have hb11 : S 11 0 ≤ 20 := hG.f 11 (mx := 20) (by decide)
  have hb18 : S 18 0 ≤ 40 := hG.f 18 (mx := 40) (by decide)
  have hI : XX cA ad S d0 d0 := XX.start hM
  have hb1 : S 1 0 ≤ 4 := hG.f 1 (mx := 4) (by decide)
  have hb19 : S 19 0 ≤ 399 := hG.f 19 (mx := 399) (by decide)
  have hb22 : S 22 0 ≤ 64 := hG.f 22 (mx := 64) (by decide)
  have hb25 : S 25 0 ≤ 4 := hG.f 25 (mx := 4) (by decide)
  have hb30 : S 30 0 ≤ 10 := hG.f 30 (mx := 10) (by decide)
  have hb32 : S 32 0 ≤ 64 := hG.f 32 (mx := 64) (by decide)
  refine lv_aload_n hx hb dX9_worst_0 rfl (lv_at hl 0 rfl) ?_
  refine lv_iload_n hx hb dX9_worst_1 rfl (lv_at hl 1 rfl) ?_
  refine o_callq (o_runV (As := [.int pi]) (rest := []) ⟨hx, hb, hml, hown, hu⟩ (c_X9_pierOf l D cA B0 ad hal S d0 hI.1.1 pi) (gV_X9_126 (fun _ h => h)) (n0 := 1) rfl (by decide +kernel) rfl ⟨Nat.le_of_ble_eq_true rfl, Nat.le_of_ble_eq_true rfl⟩ (o_recv hK hW (hA.o (k := 0) rfl) (kX_0 _ _ _ _) rfl) hK hW hB hS hl.1 rfl (lv_room (Nat.le_of_ble_eq_true rfl)) ⟨Nat.zero_le _, Nat.zero_le _⟩ dX9_worst_2) hS (fun r_2 d_1 q_3 H locs hW hS => ?_)
  obtain ⟨rfl, rfl⟩ := q_3
  cases o_4 : ix pi (S 7 0) with
  | false =>
    refine W.eq (g2 := F0 m 5 ls [.null]) rfl ?_
    refine lv_astoreN (lv' := [(4, .null), (0, .ref (ad.1 0 0)), (1, .int pi), (2, .int day), (3, .int ei)]) hx hb dX9_worst_5 hl (by decide) rfl (fun ls hl => ?_)
    refine lv_aloadN hx hb dX9_worst_7 (lv_at hl 0 rfl) ?_
    refine lv_ifnullN (tgt := 29) hx hb dX9_worst_9 (by decide) ?_
    refine lv_iconst (v := -1) hx hb dX9_worst_29 (by decide) ?_
    exact o_iret hx hb hr hlocks hW hS (⟨by first | (simp only [aWorst, o_4, eq_self, ↓reduceIte, Bool.false_eq_true]; done) | (simp only [aWorst, o_4, eq_self, ↓reduceIte, Bool.false_eq_true]; rfl), hI.pub hR⟩) dX9_worst_30
  | true =>
    obtain ⟨pin, hpin, rfl⟩ := ix_t o_4 (by omega)
    refine W.eq (g2 := F0 m 5 ls [.ref (ad.1 6 pin)]) (by rw [if_pos rfl, nx_nI (by omega)]; rfl) ?_
    refine lv_astore (lv' := [(4, .ref (ad.1 6 pin)), (0, .ref (ad.1 0 0)), (1, .int (nI pin)), (2, .int day), (3, .int ei)]) hx hb dX9_worst_5 hl (by decide) rfl (fun ls hl => ?_)
    refine lv_aload hx hb dX9_worst_7 (lv_at hl 0 rfl) ?_
    refine lv_ifnull hx hb dX9_worst_9 ?_
    refine lv_iload_n hx hb dX9_worst_12 rfl (lv_at hl 3 rfl) ?_
    refine o_calli (o_runS (As := [.int day]) (rest := []) ⟨hx, hb, hml, hown, hu⟩ (c_X9_isDay l D cA B0 ad hal d0 day) (gS_X9_81 (fun _ h => h)) (n0 := 1) rfl (by decide +kernel) rfl ⟨Nat.le_of_ble_eq_true rfl, Nat.le_of_ble_eq_true rfl⟩ hK hW hB hS hl.1 rfl (lv_room (Nat.le_of_ble_eq_true rfl)) ⟨Nat.zero_le _, Nat.zero_le _⟩ dX9_worst_13) hS (fun r_6 d_5 q_7 H locs hW hS => ?_)
    obtain ⟨rfl, rfl⟩ := q_7
    refine lv_if_eq (tgt := 29) hx hb dX9_worst_16 (by decide) (fun c_8 => ?_) (fun c_8 => ?_)
    · refine lv_iconst (v := -1) hx hb dX9_worst_29 (by decide) ?_
      exact o_iret hx hb hr hlocks hW hS (⟨by first | (simp only [aWorst, ix_nI hpin (by omega), nx_nI (j := pin) (by omega), bI_z c_8, eq_self, ↓reduceIte, Bool.false_eq_true]; done) | (simp only [aWorst, ix_nI hpin (by omega), nx_nI (j := pin) (by omega), bI_z c_8, eq_self, ↓reduceIte, Bool.false_eq_true]; rfl), hI.pub hR⟩) dX9_worst_30
    · obtain ⟨dayn, hdayn, rfl⟩ := ix_t (bI_n c_8) (by omega)
      refine lv_iload_n hx hb dX9_worst_19 rfl (lv_at hl 4 rfl) ?_
      refine n_iconst (v := 0) hx hb dX9_worst_20 (by decide) ?_
      refine n_bipush (v := 50) hx hb dX9_worst_21 (by decide) ?_
      refine o_calli (o_runS (As := [.int ei, .int (nI 0), .int (nI 50)]) (rest := []) ⟨hx, hb, hml, hown, hu⟩ (c_X9_within l D cA B0 ad hal d0 ei (nI 0) (nI 50)) (gS_X9_85 (fun _ h => h)) (n0 := 3) rfl (by decide +kernel) rfl ⟨Nat.le_of_ble_eq_true rfl, Nat.le_of_ble_eq_true rfl⟩ hK hW hB hS hl.1 rfl (lv_room (Nat.le_of_ble_eq_true rfl)) ⟨Nat.zero_le _, Nat.zero_le _⟩ dX9_worst_23) hS (fun r_10 d_9 q_11 H locs hW hS => ?_)
      obtain ⟨rfl, rfl⟩ := q_11
      refine n_topi (y := bI (ix ei 51)) (in_ixc 51 rfl (by decide)) ?_
      refine lv_if_ne (tgt := 31) hx hb dX9_worst_26 (by decide) (fun c_12 => ?_) (fun c_12 => ?_)
      · obtain ⟨ein, hein, rfl⟩ := ix_t (bI_n c_12) (by omega)
        refine lv_aload_n hx hb dX9_worst_31 rfl (lv_at hl 1 rfl) ?_
        refine lv_aload_n hx hb dX9_worst_32 rfl (lv_at hl 1 rfl) ?_
        refine x_gi hx hb hu in_X9 hown hK hW (hA.o (k := 0) rfl) (kX_0 _ _ _ _) rfl 15 (by decide) uF_X9_78 dX9_worst_33 ?_
        refine n_topi (y := nI (S 19 0)) (hI.1.1.2.1.as) ?_
        have b_13 : S 19 0 ≤ 399 := hG.f 19 (mx := 399) (by decide)
        refine o_callv (o_runV (As := [.int (nI (S 19 0))]) (rest := []) ⟨hx, hb, hml, hown, hu⟩ (c_X9_findKept l D cA B0 ad hal S d0 hI.1 (S 19 0) (by omega)) (gV_X9_160 (fun _ h => h)) (n0 := 1) rfl (by decide +kernel) rfl ⟨Nat.le_of_ble_eq_true rfl, Nat.le_of_ble_eq_true rfl⟩ (o_recv hK hW (hA.o (k := 0) rfl) (kX_0 _ _ _ _) rfl) hK hW hB hS hl.1 rfl (lv_room (Nat.le_of_ble_eq_true rfl)) ⟨Nat.zero_le _, Nat.zero_le _⟩ dX9_worst_36) hS (fun d_14 q_16 H locs hW hS => ?_)
        obtain ⟨hq, hKP⟩ := q_16
        have hI := hI.k hq
        refine lv_aload hx hb dX9_worst_39 (lv_at hl 0 rfl) ?_
        refine x_gl hx hb hu in_X5 hown hK hW (hA.pier (by omega)) (kX_6 _ _ _ _) rfl 12 (by decide) uF_X9_171 dX9_worst_41 ?_
        refine n_topl (y := (sKept S pin (S 19 0))) ((hKP.1 pin (by omega)).2) ?_
        refine lv_lconst (v := 0) hx hb dX9_worst_44 (by decide) ?_
        refine W.lcmp hx hb dX9_worst_45 ?_
        refine lv_if_ne (tgt := 53) hx hb dX9_worst_46 (by decide) (fun c_z => ?_) (fun c_z => ?_)
        · have hz : ¬ (sKept S pin (S 19 0)) = 0 := lg0n c_z
          refine lv_aload_n hx hb dX9_worst_53 rfl (lv_at hl 1 rfl) ?_
          refine x_gr hx hb hu in_X9 hown hK hW (hA.o (k := 0) rfl) (kX_0 _ _ _ _) rfl 8 (by decide) uF_X9_51 (hA.f 8 (k := 16) (i := 0) (by decide) (hA.o (k := 16) rfl)) dX9_worst_54 ?_
          refine lv_aload hx hb dX9_worst_57 (lv_at hl 0 rfl) ?_
          refine lv_iload_n hx hb dX9_worst_59 rfl (lv_at hl 3 rfl) ?_
          refine lv_iload_n hx hb dX9_worst_60 rfl (lv_at hl 4 rfl) ?_
          refine o_calli (o_runV (As := [.ref (ad.1 6 pin), .int (nI dayn), .int (nI ein)]) (rest := []) ⟨hx, hb, hml, hown, hu⟩ (c_X0_mostLeft l D cA B0 ad hal S d_14 hI.1 pin dayn (sKept S pin (S 19 0)) ein (by omega) (by omega) ((hKP.1 pin (by omega)).2) (by omega)) (gV_X9_248 (fun _ h => h)) (n0 := 3) rfl (by decide +kernel) rfl ⟨Nat.le_of_ble_eq_true rfl, Nat.le_of_ble_eq_true rfl⟩ (o_recv hK hW (hA.o (k := 16) rfl) (kX_16 _ _ _ _) rfl) hK hW hB hS hl.1 rfl (lv_room (Nat.le_of_ble_eq_true rfl)) ⟨Nat.zero_le _, Nat.zero_le _⟩ dX9_worst_61) hS (fun r_18 d_17 q_19 H locs hW hS => ?_)
          obtain ⟨rfl, hq⟩ := q_19
          have hI := hI.a hq
          exact o_iret hx hb hr hlocks hW hS (⟨by first | (simp only [aWorst, ix_nI hpin (by omega), nx_nI (j := pin) (by omega), ix_nI hdayn (by omega), nx_nI (j := dayn) (by omega), ix_nI hein (by omega), nx_nI (j := ein) (by omega), hz, eq_self, ↓reduceIte, Bool.false_eq_true]; done) | (simp only [aWorst, ix_nI hpin (by omega), nx_nI (j := pin) (by omega), ix_nI hdayn (by omega), nx_nI (j := dayn) (by omega), ix_nI hein (by omega), nx_nI (j := ein) (by omega), hz, eq_self, ↓reduceIte, Bool.false_eq_true]; rfl), hI.pub hR⟩) dX9_worst_64
        · have hz : (sKept S pin (S 19 0)) = 0 := lg0 c_z
          refine lv_iconst (v := -1) hx hb dX9_worst_49 (by decide) ?_
          refine lv_goto (tgt := 64) hx hb dX9_worst_50 (by decide) ?_
          exact o_iret hx hb hr hlocks hW hS (⟨by first | (simp only [aWorst, ix_nI hpin (by omega), nx_nI (j := pin) (by omega), ix_nI hdayn (by omega), nx_nI (j := dayn) (by omega), ix_nI hein (by omega), nx_nI (j := ein) (by omega), hz, eq_self, ↓reduceIte, Bool.false_eq_true]; done) | (simp only [aWorst, ix_nI hpin (by omega), nx_nI (j := pin) (by omega), ix_nI hdayn (by omega), nx_nI (j := dayn) (by omega), ix_nI hein (by omega), nx_nI (j := ein) (by omega), hz, eq_self, ↓reduceIte, Bool.false_eq_true]; rfl), hI.pub hR⟩) dX9_worst_64
      · refine lv_iconst (v := -1) hx hb dX9_worst_29 (by decide) ?_
        exact o_iret hx hb hr hlocks hW hS (⟨by first | (simp only [aWorst, ix_nI hpin (by omega), nx_nI (j := pin) (by omega), ix_nI hdayn (by omega), nx_nI (j := dayn) (by omega), bI_z c_12, eq_self, ↓reduceIte, Bool.false_eq_true]; done) | (simp only [aWorst, ix_nI hpin (by omega), nx_nI (j := pin) (by omega), ix_nI hdayn (by omega), nx_nI (j := dayn) (by omega), bI_z c_12, eq_self, ↓reduceIte, Bool.false_eq_true]; rfl), hI.pub hR⟩) dX9_worst_30

set_option maxHeartbeats 400000 in
set_option maxRecDepth 100000 in
theorem c_X9_next (l : Launch) (D : va_G) (cA : Nat → ClassId) (B0 : Nat) (ad : kA) (hal : mAl ad) (S : sS) (sr : Nat → Int32) (d0 : kD) (hM : InvX cA ad S d0) (hR : RowX S sr d0) (pi a b ei : Int32) : oM l yX9_next wX9_next 7 0 0 D cA B0 ad d0 ([.ref (ad.1 0 0), .int pi, .int a, .int b, .int ei] : List Value) (oQi D cA B0 ad (fun r d1 => r = aNext S pi a b ei ∧ PX cA ad (nNext S pi a b ei) (rNext S sr pi a b ei) d0 d1)) := by
  refine o_ofW (cc := cX9_next) (maxL := 10) (ret := some .int) (by decide) rfl (Nat.le_of_ble_eq_true rfl) ?_
  intro p e s m below meth c hx hb hr hml hts hown hlocks hnm hK hW hB hS ls hl
  have hu : ∀ w ∈ UW, w.before _ s = true := fun w h => hts w (uw_c w h)
  have hl : lv_has ls 10 [(0, .ref (ad.1 0 0)), (1, .int pi), (2, .int a), (3, .int b), (4, .int ei)] := hl
  have hX := hM.1
  have hA := hX.1
  have hG := hX.2.2
  have hb7 : S 7 0 ≤ 8 := hG.f 7 (mx := 8) (by decide)
  have hb11 : S 11 0 ≤ 20 := hG.f 11 (mx := 20) (by decide)
  have hb18 : S 18 0 ≤ 40 := hG.f 18 (mx := 40) (by decide)
  have hI : XX cA ad S d0 d0 := XX.start hM
  have hb1 : S 1 0 ≤ 4 := hG.f 1 (mx := 4) (by decide)
  have hb19 : S 19 0 ≤ 399 := hG.f 19 (mx := 399) (by decide)
  have hb22 : S 22 0 ≤ 64 := hG.f 22 (mx := 64) (by decide)
  have hb25 : S 25 0 ≤ 4 := hG.f 25 (mx := 4) (by decide)
  have hb30 : S 30 0 ≤ 10 := hG.f 30 (mx := 10) (by decide)
  have hb32 : S 32 0 ≤ 64 := hG.f 32 (mx := 64) (by decide)
  refine lv_aload_n hx hb dX9_next_0 rfl (lv_at hl 0 rfl) ?_
  refine lv_iload_n hx hb dX9_next_1 rfl (lv_at hl 1 rfl) ?_
  refine o_callq (o_runV (As := [.int pi]) (rest := []) ⟨hx, hb, hml, hown, hu⟩ (c_X9_pierOf l D cA B0 ad hal S d0 hI.1.1 pi) (gV_X9_126 (fun _ h => h)) (n0 := 1) rfl (by decide +kernel) rfl ⟨Nat.le_of_ble_eq_true rfl, Nat.le_of_ble_eq_true rfl⟩ (o_recv hK hW (hA.o (k := 0) rfl) (kX_0 _ _ _ _) rfl) hK hW hB hS hl.1 rfl (lv_room (Nat.le_of_ble_eq_true rfl)) ⟨Nat.zero_le _, Nat.zero_le _⟩ dX9_next_2) hS (fun r_2 d_1 q_3 H locs hW hS => ?_)
  obtain ⟨rfl, rfl⟩ := q_3
  cases o_4 : ix pi (S 7 0) with
  | false =>
    refine W.eq (g2 := F0 m 5 ls [.null]) rfl ?_
    refine lv_astoreN (lv' := [(5, .null), (0, .ref (ad.1 0 0)), (1, .int pi), (2, .int a), (3, .int b), (4, .int ei)]) hx hb dX9_next_5 hl (by decide) rfl (fun ls hl => ?_)
    refine lv_aloadN hx hb dX9_next_7 (lv_at hl 0 rfl) ?_
    refine lv_ifnullN (tgt := 42) hx hb dX9_next_9 (by decide) ?_
    refine lv_iconst (v := -1) hx hb dX9_next_42 (by decide) ?_
    exact o_iret hx hb hr hlocks hW hS (⟨by simp only [aNext, o_4, eq_self, ↓reduceIte, Bool.false_eq_true], by simp only [nNext, rNext, o_4, eq_self, ↓reduceIte, Bool.false_eq_true]; exact hI.pub hR⟩) dX9_next_43
  | true =>
    obtain ⟨pin, hpin, rfl⟩ := ix_t o_4 (by omega)
    refine W.eq (g2 := F0 m 5 ls [.ref (ad.1 6 pin)]) (by rw [if_pos rfl, nx_nI (by omega)]; rfl) ?_
    refine lv_astore (lv' := [(5, .ref (ad.1 6 pin)), (0, .ref (ad.1 0 0)), (1, .int (nI pin)), (2, .int a), (3, .int b), (4, .int ei)]) hx hb dX9_next_5 hl (by decide) rfl (fun ls hl => ?_)
    refine lv_aload hx hb dX9_next_7 (lv_at hl 0 rfl) ?_
    refine lv_ifnull hx hb dX9_next_9 ?_
    refine lv_iload_n hx hb dX9_next_12 rfl (lv_at hl 3 rfl) ?_
    refine o_calli (o_runS (As := [.int a]) (rest := []) ⟨hx, hb, hml, hown, hu⟩ (c_X9_isDay l D cA B0 ad hal d0 a) (gS_X9_81 (fun _ h => h)) (n0 := 1) rfl (by decide +kernel) rfl ⟨Nat.le_of_ble_eq_true rfl, Nat.le_of_ble_eq_true rfl⟩ hK hW hB hS hl.1 rfl (lv_room (Nat.le_of_ble_eq_true rfl)) ⟨Nat.zero_le _, Nat.zero_le _⟩ dX9_next_13) hS (fun r_6 d_5 q_7 H locs hW hS => ?_)
    obtain ⟨rfl, rfl⟩ := q_7
    refine lv_if_eq (tgt := 42) hx hb dX9_next_16 (by decide) (fun c_8 => ?_) (fun c_8 => ?_)
    · refine lv_iconst (v := -1) hx hb dX9_next_42 (by decide) ?_
      exact o_iret hx hb hr hlocks hW hS (⟨by simp only [aNext, ix_nI hpin (by omega), nx_nI (j := pin) (by omega), bI_z c_8, eq_self, ↓reduceIte, Bool.false_eq_true], by simp only [nNext, rNext, ix_nI hpin (by omega), nx_nI (j := pin) (by omega), bI_z c_8, eq_self, ↓reduceIte, Bool.false_eq_true]; exact hI.pub hR⟩) dX9_next_43
    · obtain ⟨an, han, rfl⟩ := ix_t (bI_n c_8) (by omega)
      refine lv_iload_n hx hb dX9_next_19 rfl (lv_at hl 4 rfl) ?_
      refine o_calli (o_runS (As := [.int b]) (rest := []) ⟨hx, hb, hml, hown, hu⟩ (c_X9_isDay l D cA B0 ad hal d0 b) (gS_X9_81 (fun _ h => h)) (n0 := 1) rfl (by decide +kernel) rfl ⟨Nat.le_of_ble_eq_true rfl, Nat.le_of_ble_eq_true rfl⟩ hK hW hB hS hl.1 rfl (lv_room (Nat.le_of_ble_eq_true rfl)) ⟨Nat.zero_le _, Nat.zero_le _⟩ dX9_next_20) hS (fun r_10 d_9 q_11 H locs hW hS => ?_)
      obtain ⟨rfl, rfl⟩ := q_11
      refine lv_if_eq (tgt := 42) hx hb dX9_next_23 (by decide) (fun c_b => ?_) (fun c_b => ?_)
      · have hrx : rx b an 399 = false := rx_no (bI_z c_b)
        refine lv_iconst (v := -1) hx hb dX9_next_42 (by decide) ?_
        exact o_iret hx hb hr hlocks hW hS (⟨by simp only [aNext, ix_nI hpin (by omega), nx_nI (j := pin) (by omega), ix_nI han (by omega), nx_nI (j := an) (by omega), hrx, bI_z c_b, eq_self, ↓reduceIte, Bool.false_eq_true], by simp only [nNext, rNext, ix_nI hpin (by omega), nx_nI (j := pin) (by omega), ix_nI han (by omega), nx_nI (j := an) (by omega), hrx, bI_z c_b, eq_self, ↓reduceIte, Bool.false_eq_true]; exact hI.pub hR⟩) dX9_next_43
      · obtain ⟨bn, hbn, rfl⟩ := ix_t (bI_n c_b) (by omega)
        refine lv_iload_n hx hb dX9_next_26 rfl (lv_at hl 4 rfl) ?_
        refine lv_iload_n hx hb dX9_next_27 rfl (lv_at hl 3 rfl) ?_
        refine n_icmp_lt (tgt := 42) hx hb (by omega) (by omega) dX9_next_28 (by decide) (fun c_ab => ?_) (fun c_ab => ?_)
        · have hrx : rx (nI bn) an 399 = false := decide_eq_false (fun q => by rw [nI_toInt (by omega)] at q; omega)
          refine lv_iconst (v := -1) hx hb dX9_next_42 (by decide) ?_
          exact o_iret hx hb hr hlocks hW hS (⟨by simp only [aNext, ix_nI hpin (by omega), nx_nI (j := pin) (by omega), ix_nI han (by omega), nx_nI (j := an) (by omega), ix_nI hbn (by omega), nx_nI (j := bn) (by omega), hrx, eq_self, ↓reduceIte, Bool.false_eq_true], by simp only [nNext, rNext, ix_nI hpin (by omega), nx_nI (j := pin) (by omega), ix_nI han (by omega), nx_nI (j := an) (by omega), ix_nI hbn (by omega), nx_nI (j := bn) (by omega), hrx, eq_self, ↓reduceIte, Bool.false_eq_true]; exact hI.pub hR⟩) dX9_next_43
        · have hrx : rx (nI bn) an 399 = true := rx_nI (by omega) (by omega) (by omega)
          refine lv_iload hx hb dX9_next_31 (lv_at hl 5 rfl) ?_
          refine n_iconst (v := 0) hx hb dX9_next_33 (by decide) ?_
          refine n_bipush (v := 50) hx hb dX9_next_34 (by decide) ?_
          refine o_calli (o_runS (As := [.int ei, .int (nI 0), .int (nI 50)]) (rest := []) ⟨hx, hb, hml, hown, hu⟩ (c_X9_within l D cA B0 ad hal d0 ei (nI 0) (nI 50)) (gS_X9_85 (fun _ h => h)) (n0 := 3) rfl (by decide +kernel) rfl ⟨Nat.le_of_ble_eq_true rfl, Nat.le_of_ble_eq_true rfl⟩ hK hW hB hS hl.1 rfl (lv_room (Nat.le_of_ble_eq_true rfl)) ⟨Nat.zero_le _, Nat.zero_le _⟩ dX9_next_36) hS (fun r_13 d_12 q_14 H locs hW hS => ?_)
          obtain ⟨rfl, rfl⟩ := q_14
          refine n_topi (y := bI (ix ei 51)) (in_ixc 51 rfl (by decide)) ?_
          refine lv_if_ne (tgt := 44) hx hb dX9_next_39 (by decide) (fun c_15 => ?_) (fun c_15 => ?_)
          · obtain ⟨ein, hein, rfl⟩ := ix_t (bI_n c_15) (by omega)
            refine lv_aload_n hx hb dX9_next_44 rfl (lv_at hl 1 rfl) ?_
            refine lv_aload_n hx hb dX9_next_45 rfl (lv_at hl 1 rfl) ?_
            refine x_gi hx hb hu in_X9 hown hK hW (hA.o (k := 0) rfl) (kX_0 _ _ _ _) rfl 15 (by decide) uF_X9_78 dX9_next_46 ?_
            refine n_topi (y := nI (S 19 0)) (hI.1.1.2.1.as) ?_
            have b_16 : S 19 0 ≤ 399 := hG.f 19 (mx := 399) (by decide)
            refine o_callv (o_runV (As := [.int (nI (S 19 0))]) (rest := []) ⟨hx, hb, hml, hown, hu⟩ (c_X9_findKept l D cA B0 ad hal S d0 hI.1 (S 19 0) (by omega)) (gV_X9_160 (fun _ h => h)) (n0 := 1) rfl (by decide +kernel) rfl ⟨Nat.le_of_ble_eq_true rfl, Nat.le_of_ble_eq_true rfl⟩ (o_recv hK hW (hA.o (k := 0) rfl) (kX_0 _ _ _ _) rfl) hK hW hB hS hl.1 rfl (lv_room (Nat.le_of_ble_eq_true rfl)) ⟨Nat.zero_le _, Nat.zero_le _⟩ dX9_next_49) hS (fun d_17 q_19 H locs hW hS => ?_)
            obtain ⟨hq, hKP⟩ := q_19
            have hI := hI.k hq
            refine lv_aload hx hb dX9_next_52 (lv_at hl 0 rfl) ?_
            refine x_gl hx hb hu in_X5 hown hK hW (hA.pier (by omega)) (kX_6 _ _ _ _) rfl 12 (by decide) uF_X9_171 dX9_next_54 ?_
            refine n_topl (y := (sKept S pin (S 19 0))) ((hKP.1 pin (by omega)).2) ?_
            refine lv_lconst (v := 0) hx hb dX9_next_57 (by decide) ?_
            refine W.lcmp hx hb dX9_next_58 ?_
            refine lv_if_ne (tgt := 64) hx hb dX9_next_59 (by decide) (fun c_z => ?_) (fun c_z => ?_)
            · have hz : ¬ (sKept S pin (S 19 0)) = 0 := lg0n c_z
              refine n_bipush (v := 65) hx hb dX9_next_64 (by decide) ?_
              refine lv_istore (lv' := [(6, .int (nI 65)), (5, .ref (ad.1 6 pin)), (0, .ref (ad.1 0 0)), (1, .int (nI pin)), (2, .int (nI an)), (3, .int (nI bn)), (4, .int (nI ein))]) hx hb dX9_next_66 hl (by decide) rfl (fun ls hl => ?_)
              refine lv_iload_n hx hb dX9_next_68 rfl (lv_at hl 4 rfl) ?_
              refine lv_istore (lv' := [(7, .int (nI an)), (6, .int (nI 65)), (5, .ref (ad.1 6 pin)), (0, .ref (ad.1 0 0)), (1, .int (nI pin)), (2, .int (nI an)), (3, .int (nI bn)), (4, .int (nI ein))]) hx hb dX9_next_69 hl (by decide) rfl (fun ls hl => ?_)
              refine lv_iload_n hx hb dX9_next_71 rfl (lv_at hl 5 rfl) ?_
              refine lv_istore (lv' := [(8, .int (nI an)), (7, .int (nI an)), (6, .int (nI 65)), (5, .ref (ad.1 6 pin)), (0, .ref (ad.1 0 0)), (1, .int (nI pin)), (2, .int (nI an)), (3, .int (nI bn)), (4, .int (nI ein))]) hx hb dX9_next_72 hl (by decide) rfl (fun ls hl => ?_)
              have lp74 : ∀ (n : Nat) (le : Nat) (fi : Nat) (dy : Nat)  (d : kD) (H : Heap) (locs : List Loc) (ls : Array Slot), bn + 1 - dy < n → (an ≤ dy) → (dy ≤ bn + 1) → (XX cA ad S d0 d) → (KP S (S 19 0) d) → (le = (nxL S pin (sKept S pin (S 19 0)) ein an (dy - an)).1) → (an < dy → nI fi = (nxL S pin (sKept S pin (S 19 0)) ein an (dy - an)).2) → oW D cA B0 ad d H → va_S (oA B0) s.heap H locs → lv_has ls 10 [(0, .ref (ad.1 0 0)), (1, .int (nI pin)), (2, .int (nI an)), (3, .int (nI bn)), (4, .int (nI ein)), (5, .ref (ad.1 6 pin)), (6, .int (nI le)), (7, .int (nI fi)), (8, .int (nI dy))] → W p l e (oR 7 0 0) s m ([.ref (ad.1 0 0), .int (nI pin), .int (nI an), .int (nI bn), .int (nI ein)] : List Value).toArray below meth c H locs 0 0 (MQ below (oQi D cA B0 ad (fun r d1 => r = aNext S (nI pin) (nI an) (nI bn) (nI ein) ∧ PX cA ad (nNext S (nI pin) (nI an) (nI bn) (nI ein)) (rNext S sr (nI pin) (nI an) (nI bn) (nI ein)) d0 d1)) ([.ref (ad.1 0 0), .int (nI pin), .int (nI an), .int (nI bn), .int (nI ein)] : List Value).toArray s 0 0 (oA B0)) (F0 m 74 ls []) := by
                intro n
                induction n with
                | zero => intro le fi dy  d H locs ls hmu; exact absurd hmu (Nat.not_lt_zero _)
                | succ n ih_lp74 =>
                  intro le fi dy  d H locs ls hmu hd1 hd2 hI hKP hle hfi hW hS hl
                  have hnl := nxL_le S pin (sKept S pin (S 19 0)) ein an (dy - an)
                  refine lv_iload hx hb dX9_next_74 (lv_at hl 8 rfl) ?_
                  refine lv_iload_n hx hb dX9_next_76 rfl (lv_at hl 3 rfl) ?_
                  refine n_icmp_gt (tgt := 122) hx hb (by omega) (by omega) dX9_next_77 (by decide) (fun c_d => ?_) (fun c_d => ?_)
                  · have hend : nxA S pin an bn ein = nxL S pin (sKept S pin (S 19 0)) ein an (dy - an) := by unfold nxA; rw [show bn + 1 - an = dy - an by omega]
                    have hSp := hR.2.fr hI.2
                    have hI := hI.r
                    refine lv_aload_n hx hb dX9_next_122 rfl (lv_at hl 0 rfl) ?_
                    refine x_gr hx hb hu in_X9 hown hK hW (hA.o (k := 0) rfl) (kX_0 _ _ _ _) rfl 6 (by decide) uF_X9_37 (hA.f 6 (k := 11) (i := 0) (by decide) (hA.o (k := 11) rfl)) dX9_next_123 ?_
                    refine o_callv (o_runV (As := []) (rest := []) ⟨hx, hb, hml, hown, hu⟩ (c_X3_clear l D cA B0 ad hal S d hI.1.1) (gV_X9_174 (fun _ h => h)) (n0 := 0) rfl (by decide +kernel) rfl ⟨Nat.le_of_ble_eq_true rfl, Nat.le_of_ble_eq_true rfl⟩ (o_recv hK hW (hA.o (k := 11) rfl) (kX_11 _ _ _ _) rfl) hK hW hB hS hl.1 rfl (lv_room (Nat.le_of_ble_eq_true rfl)) ⟨Nat.zero_le _, Nat.zero_le _⟩ dX9_next_126) hS (fun d_20 q_22 H locs hW hS => ?_)
                    subst q_22
                    have hI := hI.k12 11 0 1 (nI 0) (by decide)
                    have hT := TR.zero (fun _ => 0) d
                    have hSp := hSp.k 11 0 1 (nI 0) (by decide)
                    refine lv_aload_n hx hb dX9_next_129 rfl (lv_at hl 0 rfl) ?_
                    refine x_gr hx hb hu in_X9 hown hK hW (hA.o (k := 0) rfl) (kX_0 _ _ _ _) rfl 6 (by decide) uF_X9_37 (hA.f 6 (k := 11) (i := 0) (by decide) (hA.o (k := 11) rfl)) dX9_next_130 ?_
                    refine lv_iload hx hb dX9_next_133 (lv_at hl 6 rfl) ?_
                    refine o_callv (o_runV (As := [.int (nI le)]) (rest := []) ⟨hx, hb, hml, hown, hu⟩ (c_X3_put l D cA B0 ad hal S (uI d 11 0 1 (nI 0)) hI.1.1 0 (nI le) (by omega) hT.1) (gV_X9_177 (fun _ h => h)) (n0 := 1) rfl (by decide +kernel) rfl ⟨Nat.le_of_ble_eq_true rfl, Nat.le_of_ble_eq_true rfl⟩ (o_recv hK hW (hA.o (k := 11) rfl) (kX_11 _ _ _ _) rfl) hK hW hB hS hl.1 rfl (lv_room (Nat.le_of_ble_eq_true rfl)) ⟨Nat.zero_le _, Nat.zero_le _⟩ dX9_next_135) hS (fun d_23 q_25 H locs hW hS => ?_)
                    subst q_25
                    have hI := hI.k12 12 0 0 (nI le) (by decide)
                    have hI := hI.k12 11 0 1 (nI (0 + 1)) (by decide)
                    have hT := hT.tell (nI le)
                    have hSp := (hSp.k 12 0 0 (nI le) (by decide)).k 11 0 1 (nI (0 + 1)) (by decide)
                    refine lv_iload hx hb dX9_next_138 (lv_at hl 7 rfl) ?_
                    exact o_iret hx hb hr hlocks hW hS (⟨by simp only [aNext, ix_nI hpin (by omega), nx_nI (j := pin) (by omega), ix_nI han (by omega), nx_nI (j := an) (by omega), ix_nI hbn (by omega), nx_nI (j := bn) (by omega), hrx, ix_nI hein (by omega), nx_nI (j := ein) (by omega), hz, eq_self, ↓reduceIte, Bool.false_eq_true]; rw [hend]; exact hfi (by first | omega | exact nx_lt3 hle c_1), by simp only [nNext, rNext, ix_nI hpin (by omega), nx_nI (j := pin) (by omega), ix_nI han (by omega), nx_nI (j := an) (by omega), ix_nI hbn (by omega), nx_nI (j := bn) (by omega), hrx, ix_nI hein (by omega), nx_nI (j := ein) (by omega), hz, eq_self, ↓reduceIte, Bool.false_eq_true]; rw [hend, ← hle]; exact hI.end (by omega) hT hSp⟩) dX9_next_140
                  · refine lv_iload hx hb dX9_next_80 (lv_at hl 6 rfl) ?_
                    refine n_iconst (v := 1) hx hb dX9_next_82 (by decide) ?_
                    refine n_icmp_le (tgt := 122) hx hb (by omega) (by omega) dX9_next_83 (by decide) (fun c_1 => ?_) (fun c_1 => ?_)
                    · have hend : nxA S pin an bn ein = nxL S pin (sKept S pin (S 19 0)) ein an (dy - an) := nxL_stop hz (by rw [← hle]; omega) _ (by omega)
                      have hSp := hR.2.fr hI.2
                      have hI := hI.r
                      refine lv_aload_n hx hb dX9_next_122 rfl (lv_at hl 0 rfl) ?_
                      refine x_gr hx hb hu in_X9 hown hK hW (hA.o (k := 0) rfl) (kX_0 _ _ _ _) rfl 6 (by decide) uF_X9_37 (hA.f 6 (k := 11) (i := 0) (by decide) (hA.o (k := 11) rfl)) dX9_next_123 ?_
                      refine o_callv (o_runV (As := []) (rest := []) ⟨hx, hb, hml, hown, hu⟩ (c_X3_clear l D cA B0 ad hal S d hI.1.1) (gV_X9_174 (fun _ h => h)) (n0 := 0) rfl (by decide +kernel) rfl ⟨Nat.le_of_ble_eq_true rfl, Nat.le_of_ble_eq_true rfl⟩ (o_recv hK hW (hA.o (k := 11) rfl) (kX_11 _ _ _ _) rfl) hK hW hB hS hl.1 rfl (lv_room (Nat.le_of_ble_eq_true rfl)) ⟨Nat.zero_le _, Nat.zero_le _⟩ dX9_next_126) hS (fun d_26 q_28 H locs hW hS => ?_)
                      subst q_28
                      have hI := hI.k12 11 0 1 (nI 0) (by decide)
                      have hT := TR.zero (fun _ => 0) d
                      have hSp := hSp.k 11 0 1 (nI 0) (by decide)
                      refine lv_aload_n hx hb dX9_next_129 rfl (lv_at hl 0 rfl) ?_
                      refine x_gr hx hb hu in_X9 hown hK hW (hA.o (k := 0) rfl) (kX_0 _ _ _ _) rfl 6 (by decide) uF_X9_37 (hA.f 6 (k := 11) (i := 0) (by decide) (hA.o (k := 11) rfl)) dX9_next_130 ?_
                      refine lv_iload hx hb dX9_next_133 (lv_at hl 6 rfl) ?_
                      refine o_callv (o_runV (As := [.int (nI le)]) (rest := []) ⟨hx, hb, hml, hown, hu⟩ (c_X3_put l D cA B0 ad hal S (uI d 11 0 1 (nI 0)) hI.1.1 0 (nI le) (by omega) hT.1) (gV_X9_177 (fun _ h => h)) (n0 := 1) rfl (by decide +kernel) rfl ⟨Nat.le_of_ble_eq_true rfl, Nat.le_of_ble_eq_true rfl⟩ (o_recv hK hW (hA.o (k := 11) rfl) (kX_11 _ _ _ _) rfl) hK hW hB hS hl.1 rfl (lv_room (Nat.le_of_ble_eq_true rfl)) ⟨Nat.zero_le _, Nat.zero_le _⟩ dX9_next_135) hS (fun d_29 q_31 H locs hW hS => ?_)
                      subst q_31
                      have hI := hI.k12 12 0 0 (nI le) (by decide)
                      have hI := hI.k12 11 0 1 (nI (0 + 1)) (by decide)
                      have hT := hT.tell (nI le)
                      have hSp := (hSp.k 12 0 0 (nI le) (by decide)).k 11 0 1 (nI (0 + 1)) (by decide)
                      refine lv_iload hx hb dX9_next_138 (lv_at hl 7 rfl) ?_
                      exact o_iret hx hb hr hlocks hW hS (⟨by simp only [aNext, ix_nI hpin (by omega), nx_nI (j := pin) (by omega), ix_nI han (by omega), nx_nI (j := an) (by omega), ix_nI hbn (by omega), nx_nI (j := bn) (by omega), hrx, ix_nI hein (by omega), nx_nI (j := ein) (by omega), hz, eq_self, ↓reduceIte, Bool.false_eq_true]; rw [hend]; exact hfi (by first | omega | exact nx_lt3 hle c_1), by simp only [nNext, rNext, ix_nI hpin (by omega), nx_nI (j := pin) (by omega), ix_nI han (by omega), nx_nI (j := an) (by omega), ix_nI hbn (by omega), nx_nI (j := bn) (by omega), hrx, ix_nI hein (by omega), nx_nI (j := ein) (by omega), hz, eq_self, ↓reduceIte, Bool.false_eq_true]; rw [hend, ← hle]; exact hI.end (by omega) hT hSp⟩) dX9_next_140
                    · refine lv_aload_n hx hb dX9_next_86 rfl (lv_at hl 0 rfl) ?_
                      refine x_gr hx hb hu in_X9 hown hK hW (hA.o (k := 0) rfl) (kX_0 _ _ _ _) rfl 8 (by decide) uF_X9_51 (hA.f 8 (k := 16) (i := 0) (by decide) (hA.o (k := 16) rfl)) dX9_next_87 ?_
                      refine lv_aload hx hb dX9_next_90 (lv_at hl 5 rfl) ?_
                      refine lv_iload hx hb dX9_next_92 (lv_at hl 8 rfl) ?_
                      refine lv_iload hx hb dX9_next_94 (lv_at hl 4 rfl) ?_
                      refine o_calli (o_runV (As := [.ref (ad.1 6 pin), .int (nI dy), .int (nI ein)]) (rest := []) ⟨hx, hb, hml, hown, hu⟩ (c_X0_mostLeft l D cA B0 ad hal S d hI.1 pin dy (sKept S pin (S 19 0)) ein (by omega) (by omega) ((hKP.1 pin (by omega)).2) (by omega)) (gV_X9_248 (fun _ h => h)) (n0 := 3) rfl (by decide +kernel) rfl ⟨Nat.le_of_ble_eq_true rfl, Nat.le_of_ble_eq_true rfl⟩ (o_recv hK hW (hA.o (k := 16) rfl) (kX_16 _ _ _ _) rfl) hK hW hB hS hl.1 rfl (lv_room (Nat.le_of_ble_eq_true rfl)) ⟨Nat.zero_le _, Nat.zero_le _⟩ dX9_next_96) hS (fun r_33 d_32 q_34 H locs hW hS => ?_)
                      obtain ⟨rfl, hq⟩ := q_34
                      have hI := hI.a hq
                      have hKP := hKP.fa hq.2
                      have hwl := sWorst_le S pin (sKept S pin (S 19 0)) dy ein
                      refine lv_istore (lv' := [(9, .int (nI (sWorst S pin (sKept S pin (S 19 0)) dy ein))), (0, .ref (ad.1 0 0)), (1, .int (nI pin)), (2, .int (nI an)), (3, .int (nI bn)), (4, .int (nI ein)), (5, .ref (ad.1 6 pin)), (6, .int (nI le)), (7, .int (nI fi)), (8, .int (nI dy))]) hx hb dX9_next_99 hl (by decide) rfl (fun ls hl => ?_)
                      refine lv_iload hx hb dX9_next_101 (lv_at hl 0 rfl) ?_
                      refine lv_iload hx hb dX9_next_103 (lv_at hl 7 rfl) ?_
                      refine n_icmp_ge (tgt := 116) hx hb (by omega) (by omega) dX9_next_105 (by decide) (fun c_w => ?_) (fun c_w => ?_)
                      · have hst : nxL S pin (sKept S pin (S 19 0)) ein an (dy + 1 - an) = nxL S pin (sKept S pin (S 19 0)) ein an (dy - an) := by rw [show dy + 1 - an = (dy - an) + 1 by omega, nxL, show an + (dy - an) = dy by omega, if_neg (by rw [← hle]; omega)]
                        have hdan : an < dy := nx_lt hle c_w hwl
                        refine n_iinc (q := 1) (lv' := [(8, .int (nI (dy + 1))), (9, .int (nI (sWorst S pin (sKept S pin (S 19 0)) dy ein))), (0, .ref (ad.1 0 0)), (1, .int (nI pin)), (2, .int (nI an)), (3, .int (nI bn)), (4, .int (nI ein)), (5, .ref (ad.1 6 pin)), (6, .int (nI le)), (7, .int (nI fi))]) hx hb dX9_next_116 hl (k := 9) rfl (by decide) (by decide) rfl (fun ls hl => ?_)
                        refine lv_goto (tgt := 74) hx hb dX9_next_119 (by decide) ?_
                        exact ih_lp74 le fi (dy + 1) d_32 _ _ ls (by omega) (by omega) (by omega) hI hKP (by first | (rw [hst]; done) | (rw [hst]; exact hle)) (fun _ => by first | (rw [hst]; done) | (rw [hst]; exact hfi hdan)) hW hS (lv_sub hl [2, 3, 4, 5, 6, 7, 8, 9, 0] rfl)
                      · have hst : nxL S pin (sKept S pin (S 19 0)) ein an (dy + 1 - an) = (sWorst S pin (sKept S pin (S 19 0)) dy ein, nI dy) := by rw [show dy + 1 - an = (dy - an) + 1 by omega, nxL, show an + (dy - an) = dy by omega, if_pos (by rw [← hle]; omega)]
                        refine lv_iload hx hb dX9_next_108 (lv_at hl 0 rfl) ?_
                        refine lv_istore (lv' := [(6, .int (nI (sWorst S pin (sKept S pin (S 19 0)) dy ein))), (9, .int (nI (sWorst S pin (sKept S pin (S 19 0)) dy ein))), (0, .ref (ad.1 0 0)), (1, .int (nI pin)), (2, .int (nI an)), (3, .int (nI bn)), (4, .int (nI ein)), (5, .ref (ad.1 6 pin)), (7, .int (nI fi)), (8, .int (nI dy))]) hx hb dX9_next_110 hl (by decide) rfl (fun ls hl => ?_)
                        refine lv_iload hx hb dX9_next_112 (lv_at hl 9 rfl) ?_
                        refine lv_istore (lv' := [(7, .int (nI dy)), (6, .int (nI (sWorst S pin (sKept S pin (S 19 0)) dy ein))), (9, .int (nI (sWorst S pin (sKept S pin (S 19 0)) dy ein))), (0, .ref (ad.1 0 0)), (1, .int (nI pin)), (2, .int (nI an)), (3, .int (nI bn)), (4, .int (nI ein)), (5, .ref (ad.1 6 pin)), (8, .int (nI dy))]) hx hb dX9_next_114 hl (by decide) rfl (fun ls hl => ?_)
                        refine n_iinc (q := 1) (lv' := [(8, .int (nI (dy + 1))), (7, .int (nI dy)), (6, .int (nI (sWorst S pin (sKept S pin (S 19 0)) dy ein))), (9, .int (nI (sWorst S pin (sKept S pin (S 19 0)) dy ein))), (0, .ref (ad.1 0 0)), (1, .int (nI pin)), (2, .int (nI an)), (3, .int (nI bn)), (4, .int (nI ein)), (5, .ref (ad.1 6 pin))]) hx hb dX9_next_116 hl (k := 9) rfl (by decide) (by decide) rfl (fun ls hl => ?_)
                        refine lv_goto (tgt := 74) hx hb dX9_next_119 (by decide) ?_
                        exact ih_lp74 (sWorst S pin (sKept S pin (S 19 0)) dy ein) dy (dy + 1) d_32 _ _ ls (by omega) (by omega) (by omega) hI hKP (by first | (rw [hst]; done) | (rw [hst]; exact hle)) (fun _ => by first | (rw [hst]; done) | (rw [hst]; exact hfi hdan)) hW hS (lv_sub hl [4, 5, 6, 7, 8, 9, 2, 1, 0] rfl)
              exact lp74 (bn + 2) 65 an an d_17 _ _ ls (by omega) (by omega) (by omega) hI hKP (by rw [Nat.sub_self]; rfl) (fun h => absurd h (Nat.lt_irrefl _)) hW hS (lv_sub hl [4, 5, 6, 7, 8, 3, 2, 1, 0] rfl)
            · have hz : (sKept S pin (S 19 0)) = 0 := lg0 c_z
              refine lv_iconst (v := -1) hx hb dX9_next_62 (by decide) ?_
              exact o_iret hx hb hr hlocks hW hS (⟨by simp only [aNext, ix_nI hpin (by omega), nx_nI (j := pin) (by omega), ix_nI han (by omega), nx_nI (j := an) (by omega), ix_nI hbn (by omega), nx_nI (j := bn) (by omega), hrx, ix_nI hein (by omega), nx_nI (j := ein) (by omega), hz, eq_self, ↓reduceIte, Bool.false_eq_true], by simp only [nNext, rNext, ix_nI hpin (by omega), nx_nI (j := pin) (by omega), ix_nI han (by omega), nx_nI (j := an) (by omega), ix_nI hbn (by omega), nx_nI (j := bn) (by omega), hrx, ix_nI hein (by omega), nx_nI (j := ein) (by omega), hz, eq_self, ↓reduceIte, Bool.false_eq_true]; exact hI.pub hR⟩) dX9_next_63
          · refine lv_iconst (v := -1) hx hb dX9_next_42 (by decide) ?_
            exact o_iret hx hb hr hlocks hW hS (⟨by simp only [aNext, ix_nI hpin (by omega), nx_nI (j := pin) (by omega), ix_nI han (by omega), nx_nI (j := an) (by omega), ix_nI hbn (by omega), nx_nI (j := bn) (by omega), hrx, bI_z c_15, eq_self, ↓reduceIte, Bool.false_eq_true], by simp only [nNext, rNext, ix_nI hpin (by omega), nx_nI (j := pin) (by omega), ix_nI han (by omega), nx_nI (j := an) (by omega), ix_nI hbn (by omega), nx_nI (j := bn) (by omega), hrx, bI_z c_15, eq_self, ↓reduceIte, Bool.false_eq_true]; exact hI.pub hR⟩) dX9_next_43
