set_option maxHeartbeats 400000 in
set_option maxRecDepth 100000 in
theorem c_X3_clear (l : Launch) (D : va_G) (cA : Nat → ClassId) (B0 : Nat) (ad : kA) (hal : mAl ad) (S : sS) (d0 : kD) (hX : XB cA ad S d0) : oM l yX3_clear wX3_clear 1 0 0 D cA B0 ad d0 ([.ref (ad.1 11 0)] : List Value) (oQv D cA B0 ad (fun d1 => uI d0 11 0 1 (nI 0) = d1)) := by
  refine o_ofW (cc := cX3_clear) (maxL := 1) (ret := none) (by decide) rfl (Nat.le_of_ble_eq_true rfl) ?_
  intro p e s m below meth c hx hb hr hml hts hown hlocks hnm hK hW hB hS ls hl
  have hu : ∀ w ∈ UW, w.before _ s = true := fun w h => hts w (uw_c w h)
  have hl : lv_has ls 1 [(0, .ref (ad.1 11 0))] := hl
  have hA := hX.1
  have hG := hX.2.2
  have hb7 : S 7 0 ≤ 8 := hG.f 7 (mx := 8) (by decide)
  have hb11 : S 11 0 ≤ 20 := hG.f 11 (mx := 20) (by decide)
  have hb18 : S 18 0 ≤ 40 := hG.f 18 (mx := 40) (by decide)
  refine lv_aload_n hx hb dX3_clear_0 rfl (lv_at hl 0 rfl) ?_
  refine n_iconst (v := 0) hx hb dX3_clear_1 (by decide) ?_
  refine x_pi hx hb hu in_X3 tyX3 tyX3_ok nmX3 hown hK hW hS (hA.o (k := 11) rfl) (kI_11 _ _ _ _) rfl 1 (ty := .int) (by decide +kernel) uF_X3_15 ⟨rfl, rfl⟩ dX3_clear_2 (fun H locs hW hS => ?_)
  exact o_vret hx hb hr hlocks hW hS (rfl) dX3_clear_5

set_option maxHeartbeats 400000 in
set_option maxRecDepth 100000 in
theorem c_X3_put (l : Launch) (D : va_G) (cA : Nat → ClassId) (B0 : Nat) (ad : kA) (hal : mAl ad) (S : sS) (d0 : kD) (hX : XB cA ad S d0) (c0 : Nat) (v : Int32) (hc : c0 < 64) (h1 : d0.1 11 0 1 = nI c0) : oM l yX3_put wX3_put 1 0 0 D cA B0 ad d0 ([.ref (ad.1 11 0), .int v] : List Value) (oQv D cA B0 ad (fun d1 => uI (uI d0 12 0 c0 v) 11 0 1 (nI (c0 + 1)) = d1)) := by
  refine o_ofW (cc := cX3_put) (maxL := 2) (ret := none) (by decide) rfl (Nat.le_of_ble_eq_true rfl) ?_
  intro p e s m below meth c hx hb hr hml hts hown hlocks hnm hK hW hB hS ls hl
  have hu : ∀ w ∈ UW, w.before _ s = true := fun w h => hts w (uw_c w h)
  have hl : lv_has ls 2 [(0, .ref (ad.1 11 0)), (1, .int v)] := hl
  have hA := hX.1
  have hG := hX.2.2
  have hb7 : S 7 0 ≤ 8 := hG.f 7 (mx := 8) (by decide)
  have hb11 : S 11 0 ≤ 20 := hG.f 11 (mx := 20) (by decide)
  have hb18 : S 18 0 ≤ 40 := hG.f 18 (mx := 40) (by decide)
  refine lv_aload_n hx hb dX3_put_0 rfl (lv_at hl 0 rfl) ?_
  refine x_gi hx hb hu in_X3 hown hK hW (hA.o (k := 11) rfl) (kX_11 _ _ _ _) rfl 1 (by decide) uF_X3_15 dX3_put_1 ?_
  refine n_topi (y := nI c0) (h1) ?_
  refine n_bipush (v := 64) hx hb dX3_put_4 (by decide) ?_
  refine n_icmp_ge (tgt := 29) hx hb (by omega) (by omega) dX3_put_6 (by decide) (fun c_1 => ?_) (fun c_1 => ?_)
  · exfalso; omega
  · refine lv_aload_n hx hb dX3_put_9 rfl (lv_at hl 0 rfl) ?_
    refine x_gr hx hb hu in_X3 hown hK hW (hA.o (k := 11) rfl) (kX_11 _ _ _ _) rfl 0 (by decide) uF_X3_9 hA.tn dX3_put_10 ?_
    refine lv_aload_n hx hb dX3_put_13 rfl (lv_at hl 0 rfl) ?_
    refine x_gi hx hb hu in_X3 hown hK hW (hA.o (k := 11) rfl) (kX_11 _ _ _ _) rfl 1 (by decide) uF_X3_15 dX3_put_14 ?_
    refine n_topi (y := nI c0) (h1) ?_
    refine lv_iload_n hx hb dX3_put_17 rfl (lv_at hl 1 rfl) ?_
    refine x_is hx hb hK hW hS (hA.o (k := 12) rfl) (kI_12 _ _ _ _) (by decide) (by omega) dX3_put_18 (fun H locs hW hS => ?_)
    refine lv_aload_n hx hb dX3_put_19 rfl (lv_at hl 0 rfl) ?_
    refine lv_dup hx hb dX3_put_20 rfl ?_
    refine x_gi hx hb hu in_X3 hown hK hW (hA.o (k := 11) rfl) (kX_11 _ _ _ _) rfl 1 (by decide) uF_X3_15 dX3_put_21 ?_
    refine n_topi (y := nI c0) (h1) ?_
    refine n_iconst (v := 1) hx hb dX3_put_24 (by decide) ?_
    refine n_iadd hx hb dX3_put_25 ?_
    refine x_pi hx hb hu in_X3 tyX3 tyX3_ok nmX3 hown hK hW hS (hA.o (k := 11) rfl) (kI_11 _ _ _ _) rfl 1 (ty := .int) (by decide +kernel) uF_X3_15 ⟨rfl, rfl⟩ dX3_put_26 (fun H locs hW hS => ?_)
    exact o_vret hx hb hr hlocks hW hS (rfl) dX3_put_29

set_option maxHeartbeats 400000 in
set_option maxRecDepth 100000 in
theorem c_X9_minds (l : Launch) (D : va_G) (cA : Nat → ClassId) (B0 : Nat) (ad : kA) (hal : mAl ad) (S : sS) (sr : Nat → Int32) (d0 : kD) (hM : InvX cA ad S d0) (hR : RowX S sr d0) (pi : Int32) : oM l yX9_minds wX9_minds 7 0 0 D cA B0 ad d0 ([.ref (ad.1 0 0), .int pi] : List Value) (oQi D cA B0 ad (fun r d1 => r = aMinds S pi ∧ PX cA ad (nMinds S pi) (rMinds S sr pi) d0 d1)) := by
  refine o_ofW (cc := cX9_minds) (maxL := 4) (ret := some .int) (by decide) rfl (Nat.le_of_ble_eq_true rfl) ?_
  intro p e s m below meth c hx hb hr hml hts hown hlocks hnm hK hW hB hS ls hl
  have hu : ∀ w ∈ UW, w.before _ s = true := fun w h => hts w (uw_c w h)
  have hl : lv_has ls 4 [(0, .ref (ad.1 0 0)), (1, .int pi)] := hl
  have hX := hM.1
  have hA := hX.1
  have hG := hX.2.2
  have hb7 : S 7 0 ≤ 8 := hG.f 7 (mx := 8) (by decide)
  have hb11 : S 11 0 ≤ 20 := hG.f 11 (mx := 20) (by decide)
  have hb18 : S 18 0 ≤ 40 := hG.f 18 (mx := 40) (by decide)
  have hI : XX cA ad S d0 d0 := XX.start hM
  have hb1 : S 1 0 ≤ 4 := hG.f 1 (mx := 4) (by decide)
  have hb19 : S 19 0 ≤ 399 := hG.f 19 (mx := 399) (by decide)
  have hb22 : S 22 0 ≤ 64 := hG.f 22 (mx := 64) (by decide)
  have hb25 : S 25 0 ≤ 4 := hG.f 25 (mx := 4) (by decide)
  have hb30 : S 30 0 ≤ 10 := hG.f 30 (mx := 10) (by decide)
  have hb32 : S 32 0 ≤ 64 := hG.f 32 (mx := 64) (by decide)
  refine lv_aload_n hx hb dX9_minds_0 rfl (lv_at hl 0 rfl) ?_
  refine lv_iload_n hx hb dX9_minds_1 rfl (lv_at hl 1 rfl) ?_
  refine o_callq (o_runV (As := [.int pi]) (rest := []) ⟨hx, hb, hml, hown, hu⟩ (c_X9_pierOf l D cA B0 ad hal S d0 hI.1.1 pi) (gV_X9_126 (fun _ h => h)) (n0 := 1) rfl (by decide +kernel) rfl ⟨Nat.le_of_ble_eq_true rfl, Nat.le_of_ble_eq_true rfl⟩ (o_recv hK hW (hA.o (k := 0) rfl) (kX_0 _ _ _ _) rfl) hK hW hB hS hl.1 rfl (lv_room (Nat.le_of_ble_eq_true rfl)) ⟨Nat.zero_le _, Nat.zero_le _⟩ dX9_minds_2) hS (fun r_2 d_1 q_3 H locs hW hS => ?_)
  obtain ⟨rfl, rfl⟩ := q_3
  cases o_4 : ix pi (S 7 0) with
  | false =>
    refine W.eq (g2 := F0 m 5 ls [.null]) rfl ?_
    refine lv_astore_nN (lv' := [(2, .null), (0, .ref (ad.1 0 0)), (1, .int pi)]) hx hb dX9_minds_5 rfl hl (by decide) rfl (fun ls hl => ?_)
    refine lv_aload_nN hx hb dX9_minds_6 rfl (lv_at hl 0 rfl) ?_
    refine lv_ifnonnullN hx hb dX9_minds_7 ?_
    refine lv_iconst (v := -1) hx hb dX9_minds_10 (by decide) ?_
    exact o_iret hx hb hr hlocks hW hS (⟨by simp only [aMinds, o_4, eq_self, ↓reduceIte, Bool.false_eq_true], by simp only [nMinds, rMinds, o_4, eq_self, ↓reduceIte, Bool.false_eq_true]; exact hI.pub hR⟩) dX9_minds_11
  | true =>
    obtain ⟨pin, hpin, rfl⟩ := ix_t o_4 (by omega)
    refine W.eq (g2 := F0 m 5 ls [.ref (ad.1 6 pin)]) (by rw [if_pos rfl, nx_nI (by omega)]; rfl) ?_
    refine lv_astore_n (lv' := [(2, .ref (ad.1 6 pin)), (0, .ref (ad.1 0 0)), (1, .int (nI pin))]) hx hb dX9_minds_5 rfl hl (by decide) rfl (fun ls hl => ?_)
    refine lv_aload_n hx hb dX9_minds_6 rfl (lv_at hl 0 rfl) ?_
    refine lv_ifnonnull (tgt := 12) hx hb dX9_minds_7 (by decide) ?_
    refine lv_aload_n hx hb dX9_minds_12 rfl (lv_at hl 1 rfl) ?_
    refine lv_aload_n hx hb dX9_minds_13 rfl (lv_at hl 1 rfl) ?_
    refine x_gi hx hb hu in_X9 hown hK hW (hA.o (k := 0) rfl) (kX_0 _ _ _ _) rfl 15 (by decide) uF_X9_78 dX9_minds_14 ?_
    refine n_topi (y := nI (S 19 0)) (hI.1.1.2.1.as) ?_
    have b_5 : S 19 0 ≤ 399 := hG.f 19 (mx := 399) (by decide)
    refine o_callv (o_runV (As := [.int (nI (S 19 0))]) (rest := []) ⟨hx, hb, hml, hown, hu⟩ (c_X9_findKept l D cA B0 ad hal S d0 hI.1 (S 19 0) (by omega)) (gV_X9_160 (fun _ h => h)) (n0 := 1) rfl (by decide +kernel) rfl ⟨Nat.le_of_ble_eq_true rfl, Nat.le_of_ble_eq_true rfl⟩ (o_recv hK hW (hA.o (k := 0) rfl) (kX_0 _ _ _ _) rfl) hK hW hB hS hl.1 rfl (lv_room (Nat.le_of_ble_eq_true rfl)) ⟨Nat.zero_le _, Nat.zero_le _⟩ dX9_minds_17) hS (fun d_6 q_8 H locs hW hS => ?_)
    obtain ⟨hq, hKP⟩ := q_8
    have hI := hI.k hq
    have hSp := hR.2.fr hI.2
    have hI := hI.r
    refine lv_aload_n hx hb dX9_minds_20 rfl (lv_at hl 1 rfl) ?_
    refine x_gr hx hb hu in_X9 hown hK hW (hA.o (k := 0) rfl) (kX_0 _ _ _ _) rfl 6 (by decide) uF_X9_37 (hA.f 6 (k := 11) (i := 0) (by decide) (hA.o (k := 11) rfl)) dX9_minds_21 ?_
    refine o_callv (o_runV (As := []) (rest := []) ⟨hx, hb, hml, hown, hu⟩ (c_X3_clear l D cA B0 ad hal S d_6 hI.1.1) (gV_X9_174 (fun _ h => h)) (n0 := 0) rfl (by decide +kernel) rfl ⟨Nat.le_of_ble_eq_true rfl, Nat.le_of_ble_eq_true rfl⟩ (o_recv hK hW (hA.o (k := 11) rfl) (kX_11 _ _ _ _) rfl) hK hW hB hS hl.1 rfl (lv_room (Nat.le_of_ble_eq_true rfl)) ⟨Nat.zero_le _, Nat.zero_le _⟩ dX9_minds_24) hS (fun d_9 q_11 H locs hW hS => ?_)
    subst q_11
    have hI := hI.k12 11 0 1 (nI 0) (by decide)
    have hKP := hKP.k 11 0 1 (nI 0) (by decide)
    have hT := TR.zero (fun _ => 0) d_6
    have hSp := hSp.k 11 0 1 (nI 0) (by decide)
    refine n_iconst (v := 0) hx hb dX9_minds_27 (by decide) ?_
    refine lv_istore_n (lv' := [(3, .int (nI 0)), (2, .ref (ad.1 6 pin)), (0, .ref (ad.1 0 0)), (1, .int (nI pin))]) hx hb dX9_minds_28 rfl hl (by decide) rfl (fun ls hl => ?_)
    have lp29 : ∀ (n : Nat) (k : Nat)  (d : kD) (H : Heap) (locs : List Loc) (ls : Array Slot), 64 - k < n → (k ≤ 64) → (XR cA ad S d0 d) → (KP S (S 19 0) d) → (TR (mdR (sKept S pin (S 19 0)) (fun _ => 0) k).1 (mdR (sKept S pin (S 19 0)) (fun _ => 0) k).2 d) → (SP S d) → oW D cA B0 ad d H → va_S (oA B0) s.heap H locs → lv_has ls 4 [(0, .ref (ad.1 0 0)), (1, .int (nI pin)), (2, .ref (ad.1 6 pin)), (3, .int (nI k))] → W p l e (oR 7 0 0) s m ([.ref (ad.1 0 0), .int (nI pin)] : List Value).toArray below meth c H locs 0 0 (MQ below (oQi D cA B0 ad (fun r d1 => r = aMinds S (nI pin) ∧ PX cA ad (nMinds S (nI pin)) (rMinds S sr (nI pin)) d0 d1)) ([.ref (ad.1 0 0), .int (nI pin)] : List Value).toArray s 0 0 (oA B0)) (F0 m 29 ls []) := by
      intro n
      induction n with
      | zero => intro k  d H locs ls hmu; exact absurd hmu (Nat.not_lt_zero _)
      | succ n ih_lp29 =>
        intro k  d H locs ls hmu hk hI hKP hT hSp hW hS hl
        have hmd := mdR_le (sKept S pin (S 19 0)) (fun _ => 0) k
        refine lv_iload_n hx hb dX9_minds_29 rfl (lv_at hl 3 rfl) ?_
        refine n_bipush (v := 64) hx hb dX9_minds_30 (by decide) ?_
        refine n_icmp_ge (tgt := 60) hx hb (by omega) (by omega) dX9_minds_32 (by decide) (fun c_12 => ?_) (fun c_12 => ?_)
        · refine lv_aload_n hx hb dX9_minds_60 rfl (lv_at hl 2 rfl) ?_
          have hk64 : k = 64 := by omega
          refine x_gl hx hb hu in_X5 hown hK hW (hA.pier (by omega)) (kX_6 _ _ _ _) rfl 12 (by decide) uF_X9_171 dX9_minds_61 ?_
          refine n_topl (y := (sKept S pin (S 19 0))) ((hKP.1 pin (by omega)).2) ?_
          refine o_calli (o_runS (As := [.long (sKept S pin (S 19 0))]) (rest := []) ⟨hx, hb, hml, hown, hu⟩ (c_J13_bitCount_95d88 l D cA B0 ad hal d (sKept S pin (S 19 0))) (gS_X9_180 (fun _ h => h)) (n0 := 1) rfl (by decide +kernel) rfl ⟨Nat.le_of_ble_eq_true rfl, Nat.le_of_ble_eq_true rfl⟩ hK hW hB hS hl.1 rfl (lv_room (Nat.le_of_ble_eq_true rfl)) ⟨Nat.zero_le _, Nat.zero_le _⟩ dX9_minds_64) hS (fun r_14 d_13 q_15 H locs hW hS => ?_)
          obtain ⟨rfl, rfl⟩ := q_15
          have b_16 := popN_le (sKept S pin (S 19 0))
          exact o_iret hx hb hr hlocks hW hS (⟨by simp only [aMinds, ix_nI hpin (by omega), nx_nI (j := pin) (by omega), eq_self, ↓reduceIte, Bool.false_eq_true]; rw [mdR_pop]; rfl, by simp only [nMinds, rMinds, ix_nI hpin (by omega), nx_nI (j := pin) (by omega), eq_self, ↓reduceIte, Bool.false_eq_true]; rw [← hk64]; exact hI.end (by omega) hT hSp⟩) dX9_minds_67
        · refine lv_aload_n hx hb dX9_minds_35 rfl (lv_at hl 2 rfl) ?_
          refine x_gl hx hb hu in_X5 hown hK hW (hA.pier (by omega)) (kX_6 _ _ _ _) rfl 12 (by decide) uF_X9_171 dX9_minds_36 ?_
          refine n_topl (y := (sKept S pin (S 19 0))) ((hKP.1 pin (by omega)).2) ?_
          refine lv_iload_n hx hb dX9_minds_39 rfl (lv_at hl 3 rfl) ?_
          refine o_calli (o_runS (As := [.long (sKept S pin (S 19 0)), .int (nI k)]) (rest := []) ⟨hx, hb, hml, hown, hu⟩ (c_X9_holds l D cA B0 ad hal d (sKept S pin (S 19 0)) k (by omega)) (gS_X9_167 (fun _ h => h)) (n0 := 2) rfl (by decide +kernel) rfl ⟨Nat.le_of_ble_eq_true rfl, Nat.le_of_ble_eq_true rfl⟩ hK hW hB hS hl.1 rfl (lv_room (Nat.le_of_ble_eq_true rfl)) ⟨Nat.zero_le _, Nat.zero_le _⟩ dX9_minds_40) hS (fun r_18 d_17 q_19 H locs hW hS => ?_)
          obtain ⟨rfl, rfl⟩ := q_19
          refine lv_if_eq (tgt := 54) hx hb dX9_minds_43 (by decide) (fun c_h => ?_) (fun c_h => ?_)
          · have hst : mdR (sKept S pin (S 19 0)) (fun _ => 0) (k + 1) = (mdR (sKept S pin (S 19 0)) (fun _ => 0) k) := by rw [mdR, if_neg (by rw [bI_z c_h]; decide)]
            refine n_iinc (q := 1) (lv' := [(3, .int (nI (k + 1))), (0, .ref (ad.1 0 0)), (1, .int (nI pin)), (2, .ref (ad.1 6 pin))]) hx hb dX9_minds_54 hl (k := 3) rfl (by decide) (by decide) rfl (fun ls hl => ?_)
            refine lv_goto (tgt := 29) hx hb dX9_minds_57 (by decide) ?_
            exact ih_lp29 (k + 1) d _ _ ls (by omega) (by omega) hI hKP (by rw [hst]; exact hT) hSp hW hS (lv_sub hl [1, 2, 3, 0] rfl)
          · have hst : mdR (sKept S pin (S 19 0)) (fun _ => 0) (k + 1) = ((mdR (sKept S pin (S 19 0)) (fun _ => 0) k).1 + 1, va_up (mdR (sKept S pin (S 19 0)) (fun _ => 0) k).2 (mdR (sKept S pin (S 19 0)) (fun _ => 0) k).1 (nI k)) := by rw [mdR, if_pos (bI_n c_h)]
            refine lv_aload_n hx hb dX9_minds_46 rfl (lv_at hl 0 rfl) ?_
            refine x_gr hx hb hu in_X9 hown hK hW (hA.o (k := 0) rfl) (kX_0 _ _ _ _) rfl 6 (by decide) uF_X9_37 (hA.f 6 (k := 11) (i := 0) (by decide) (hA.o (k := 11) rfl)) dX9_minds_47 ?_
            refine lv_iload_n hx hb dX9_minds_50 rfl (lv_at hl 3 rfl) ?_
            refine o_callv (o_runV (As := [.int (nI k)]) (rest := []) ⟨hx, hb, hml, hown, hu⟩ (c_X3_put l D cA B0 ad hal S d hI.1.1 ((mdR (sKept S pin (S 19 0)) (fun _ => 0) k).1) (nI k) (by omega) hT.1) (gV_X9_177 (fun _ h => h)) (n0 := 1) rfl (by decide +kernel) rfl ⟨Nat.le_of_ble_eq_true rfl, Nat.le_of_ble_eq_true rfl⟩ (o_recv hK hW (hA.o (k := 11) rfl) (kX_11 _ _ _ _) rfl) hK hW hB hS hl.1 rfl (lv_room (Nat.le_of_ble_eq_true rfl)) ⟨Nat.zero_le _, Nat.zero_le _⟩ dX9_minds_51) hS (fun d_20 q_22 H locs hW hS => ?_)
            subst q_22
            have hI := hI.k12 12 0 ((mdR (sKept S pin (S 19 0)) (fun _ => 0) k).1) (nI k) (by decide)
            have hKP := hKP.k 12 0 ((mdR (sKept S pin (S 19 0)) (fun _ => 0) k).1) (nI k) (by decide)
            have hI := hI.k12 11 0 1 (nI ((mdR (sKept S pin (S 19 0)) (fun _ => 0) k).1 + 1)) (by decide)
            have hKP := hKP.k 11 0 1 (nI ((mdR (sKept S pin (S 19 0)) (fun _ => 0) k).1 + 1)) (by decide)
            have hT := hT.tell (nI k)
            have hSp := (hSp.k 12 0 ((mdR (sKept S pin (S 19 0)) (fun _ => 0) k).1) (nI k) (by decide)).k 11 0 1 (nI ((mdR (sKept S pin (S 19 0)) (fun _ => 0) k).1 + 1)) (by decide)
            refine n_iinc (q := 1) (lv' := [(3, .int (nI (k + 1))), (0, .ref (ad.1 0 0)), (1, .int (nI pin)), (2, .ref (ad.1 6 pin))]) hx hb dX9_minds_54 hl (k := 3) rfl (by decide) (by decide) rfl (fun ls hl => ?_)
            refine lv_goto (tgt := 29) hx hb dX9_minds_57 (by decide) ?_
            exact ih_lp29 (k + 1) (uI (uI d 12 0 ((mdR (sKept S pin (S 19 0)) (fun _ => 0) k).1) (nI k)) 11 0 1 (nI ((mdR (sKept S pin (S 19 0)) (fun _ => 0) k).1 + 1))) _ _ ls (by omega) (by omega) hI hKP (by rw [hst]; exact hT) hSp hW hS (lv_sub hl [1, 2, 3, 0] rfl)
    exact lp29 (65) 0 (uI d_6 11 0 1 (nI 0)) _ _ ls (by omega) (by omega) hI hKP hT hSp hW hS (lv_sub hl [2, 3, 1, 0] rfl)
