set_option maxHeartbeats 400000 in
set_option maxRecDepth 100000 in
theorem c_X9_howManyBar (l : Launch) (D : va_G) (cA : Nat → ClassId) (B0 : Nat) (ad : kA) (hal : mAl ad) (S : sS) (d0 : kD) (hX : XB cA ad S d0) (pp : Nat) (mm : Nat) (hp : pp < S 7 0) (hm : mm < 64) (hBs : ∀ l, l < S 18 0 → d0.2.1 8 l 7 = sBars S l) : oM l yX9_howManyBar wX9_howManyBar 4 0 0 D cA B0 ad d0 ([.ref (ad.1 0 0), .ref (ad.1 6 pp), .int (nI mm)] : List Value) (oQi D cA B0 ad (fun r d1 => r = nI (sRing S pp mm (S 18 0)) ∧ d0 = d1)) := by
  refine o_ofW (cc := cX9_howManyBar) (maxL := 5) (ret := some .int) (by decide) rfl (Nat.le_of_ble_eq_true rfl) ?_
  intro p e s m below meth c hx hb hr hml hts hown hlocks hnm hK hW hB hS ls hl
  have hu : ∀ w ∈ UW, w.before _ s = true := fun w h => hts w (uw_c w h)
  have hl : lv_has ls 5 [(0, .ref (ad.1 0 0)), (1, .ref (ad.1 6 pp)), (2, .int (nI mm))] := hl
  have hA := hX.1
  have hG := hX.2.2
  have hb7 : S 7 0 ≤ 8 := hG.f 7 (mx := 8) (by decide)
  have hb11 : S 11 0 ≤ 20 := hG.f 11 (mx := 20) (by decide)
  have hb18 : S 18 0 ≤ 40 := hG.f 18 (mx := 40) (by decide)
  refine n_iconst (v := 0) hx hb dX9_howManyBar_0 (by decide) ?_
  refine lv_istore_n (lv' := [(3, .int (nI 0)), (0, .ref (ad.1 0 0)), (1, .ref (ad.1 6 pp)), (2, .int (nI mm))]) hx hb dX9_howManyBar_1 rfl hl (by decide) rfl (fun ls hl => ?_)
  refine n_iconst (v := 0) hx hb dX9_howManyBar_2 (by decide) ?_
  refine lv_istore (lv' := [(4, .int (nI 0)), (3, .int (nI 0)), (0, .ref (ad.1 0 0)), (1, .ref (ad.1 6 pp)), (2, .int (nI mm))]) hx hb dX9_howManyBar_3 hl (by decide) rfl (fun ls hl => ?_)
  have lp5 : ∀ (n : Nat) (n0 : Nat) (k : Nat)  (H : Heap) (locs : List Loc) (ls : Array Slot), S 18 0 - k < n → (k ≤ S 18 0) → (n0 = sRing S pp mm k) → oW D cA B0 ad d0 H → va_S (oA B0) s.heap H locs → lv_has ls 5 [(0, .ref (ad.1 0 0)), (1, .ref (ad.1 6 pp)), (2, .int (nI mm)), (3, .int (nI n0)), (4, .int (nI k))] → W p l e (oR 4 0 0) s m ([.ref (ad.1 0 0), .ref (ad.1 6 pp), .int (nI mm)] : List Value).toArray below meth c H locs 0 0 (MQ below (oQi D cA B0 ad (fun r d1 => r = nI (sRing S pp mm (S 18 0)) ∧ d0 = d1)) ([.ref (ad.1 0 0), .ref (ad.1 6 pp), .int (nI mm)] : List Value).toArray s 0 0 (oA B0)) (F0 m 5 ls []) := by
    intro n
    induction n with
    | zero => intro n0 k  H locs ls hmu; exact absurd hmu (Nat.not_lt_zero _)
    | succ n ih_lp5 =>
      intro n0 k  H locs ls hmu hk hn0 hW hS hl
      refine lv_iload hx hb dX9_howManyBar_5 (lv_at hl 4 rfl) ?_
      refine lv_aload_n hx hb dX9_howManyBar_7 rfl (lv_at hl 0 rfl) ?_
      refine x_gr hx hb hu in_X9 hown hK hW (hA.o (k := 0) rfl) (kX_0 _ _ _ _) rfl 3 (by decide) uF_X9_25 (hA.f 3 (k := 4) (i := 1) (by decide) (hA.li (by omega))) dX9_howManyBar_8 ?_
      refine o_calli (o_runV (As := []) (rest := [.int (nI k)]) ⟨hx, hb, hml, hown, hu⟩ (c_Jx4a65c_size_8abf5 l D cA B0 ad hal S d0 hX 1 (by decide)) (gV_X9_105 (fun _ h => h)) (n0 := 0) rfl (by decide +kernel) rfl ⟨Nat.le_of_ble_eq_true rfl, Nat.le_of_ble_eq_true rfl⟩ (o_recv hK hW (hA.li (by omega)) (kX_4 _ _ _ _) rfl) hK hW hB hS hl.1 rfl (lv_room (Nat.le_of_ble_eq_true rfl)) ⟨Nat.zero_le _, Nat.zero_le _⟩ dX9_howManyBar_11) hS (fun r_2 d_1 q_3 H locs hW hS => ?_)
      obtain ⟨rfl, rfl⟩ := q_3
      refine n_topi (y := nI (S 18 0)) rfl ?_
      refine n_icmp_ge (tgt := 50) hx hb (by omega) (by omega) dX9_howManyBar_14 (by decide) (fun c_4 => ?_) (fun c_4 => ?_)
      · refine lv_iload_n hx hb dX9_howManyBar_50 rfl (lv_at hl 3 rfl) ?_
        exact o_iret hx hb hr hlocks hW hS (⟨by rw [hn0, show k = S 18 0 by omega], rfl⟩) dX9_howManyBar_51
      · refine lv_aload_n hx hb dX9_howManyBar_17 rfl (lv_at hl 0 rfl) ?_
        refine x_gr hx hb hu in_X9 hown hK hW (hA.o (k := 0) rfl) (kX_0 _ _ _ _) rfl 3 (by decide) uF_X9_25 (hA.f 3 (k := 4) (i := 1) (by decide) (hA.li (by omega))) dX9_howManyBar_18 ?_
        refine lv_iload hx hb dX9_howManyBar_21 (lv_at hl 4 rfl) ?_
        refine o_callq (o_runV (As := [.int (nI k)]) (rest := []) ⟨hx, hb, hml, hown, hu⟩ (c_Jx4a65c_get_915e3 l D cA B0 ad hal S d0 hX 1 k (by decide) (show k < S 18 0 by omega)) (gV_X9_109 (fun _ h => h)) (n0 := 1) rfl (by decide +kernel) rfl ⟨Nat.le_of_ble_eq_true rfl, Nat.le_of_ble_eq_true rfl⟩ (o_recv hK hW (hA.li (by omega)) (kX_4 _ _ _ _) rfl) hK hW hB hS hl.1 rfl (lv_room (Nat.le_of_ble_eq_true rfl)) ⟨Nat.zero_le _, Nat.zero_le _⟩ dX9_howManyBar_23) hS (fun r_6 d_5 q_7 H locs hW hS => ?_)
        obtain ⟨rfl, rfl⟩ := q_7
        refine W.eq (g2 := F0 m 26 ls [.ref (ad.1 8 k)]) rfl ?_
        refine x_cast hx hb hu hown uL_X9_116 hK hW (hA.look (by omega)) (kX_8 _ _ _ _) rfl dX9_howManyBar_26 ?_
        refine lv_aload_n hx hb dX9_howManyBar_29 rfl (lv_at hl 1 rfl) ?_
        refine lv_iload_n hx hb dX9_howManyBar_30 rfl (lv_at hl 2 rfl) ?_
        refine lv_aload_n hx hb dX9_howManyBar_31 rfl (lv_at hl 0 rfl) ?_
        refine x_gi hx hb hu in_X9 hown hK hW (hA.o (k := 0) rfl) (kX_0 _ _ _ _) rfl 15 (by decide) uF_X9_78 dX9_howManyBar_32 ?_
        refine n_topi (y := nI (S 19 0)) (hX.2.1.as) ?_
        have b_8 : S 19 0 ≤ 399 := hG.f 19 (mx := 399) (by decide)
        refine o_calli (o_runV (As := [.ref (ad.1 6 pp), .int (nI mm), .int (nI (S 19 0))]) (rest := []) ⟨hx, hb, hml, hown, hu⟩ (c_X2_barsKnown l D cA B0 ad hal S d0 hX k pp mm (S 19 0) (sBars S k) (by omega) (by omega) (by omega) (by omega) (hBs k (by omega))) (gV_X9_233 (fun _ h => h)) (n0 := 3) rfl (by decide +kernel) rfl ⟨Nat.le_of_ble_eq_true rfl, Nat.le_of_ble_eq_true rfl⟩ (o_recv hK hW (hA.look (by omega)) (kX_8 _ _ _ _) rfl) hK hW hB hS hl.1 rfl (lv_room (Nat.le_of_ble_eq_true rfl)) ⟨Nat.zero_le _, Nat.zero_le _⟩ dX9_howManyBar_35) hS (fun r_10 d_9 q_11 H locs hW hS => ?_)
        obtain ⟨rfl, rfl⟩ := q_11
        refine lv_if_eq (tgt := 44) hx hb dX9_howManyBar_38 (by decide) (fun c_b => ?_) (fun c_b => ?_)
        · have hst : sRing S pp mm (k + 1) = sRing S pp mm k := by rw [sRing, if_neg (of_decide_eq_false (bI_z c_b))]
          refine n_iinc (q := 1) (lv' := [(4, .int (nI (k + 1))), (0, .ref (ad.1 0 0)), (1, .ref (ad.1 6 pp)), (2, .int (nI mm)), (3, .int (nI n0))]) hx hb dX9_howManyBar_44 hl (k := 4) rfl (by decide) (by decide) rfl (fun ls hl => ?_)
          refine lv_goto (tgt := 5) hx hb dX9_howManyBar_47 (by decide) ?_
          exact ih_lp5 n0 (k + 1) _ _ ls (by omega) (by omega) (by rw [hst, ← hn0]) hW hS (lv_sub hl [1, 2, 3, 4, 0] rfl)
        · have hst : sRing S pp mm (k + 1) = sRing S pp mm k + 1 := by rw [sRing, if_pos (of_decide_eq_true (bI_n c_b))]
          refine n_iinc (q := 1) (lv' := [(3, .int (nI (n0 + 1))), (0, .ref (ad.1 0 0)), (1, .ref (ad.1 6 pp)), (2, .int (nI mm)), (4, .int (nI k))]) hx hb dX9_howManyBar_41 hl (k := 3) rfl (by decide) (by decide) rfl (fun ls hl => ?_)
          refine n_iinc (q := 1) (lv' := [(4, .int (nI (k + 1))), (3, .int (nI (n0 + 1))), (0, .ref (ad.1 0 0)), (1, .ref (ad.1 6 pp)), (2, .int (nI mm))]) hx hb dX9_howManyBar_44 hl (k := 4) rfl (by decide) (by decide) rfl (fun ls hl => ?_)
          refine lv_goto (tgt := 5) hx hb dX9_howManyBar_47 (by decide) ?_
          exact ih_lp5 (n0 + 1) (k + 1) _ _ ls (by omega) (by omega) (by rw [hst, ← hn0]) hW hS (lv_sub hl [2, 3, 4, 1, 0] rfl)
  exact lp5 (S 18 0 + 1) 0 0 _ _ ls (by omega) (by omega) rfl hW hS (lv_sub hl [2, 3, 4, 1, 0] rfl)

set_option maxHeartbeats 400000 in
set_option maxRecDepth 100000 in
theorem c_X9_firstThatBars (l : Launch) (D : va_G) (cA : Nat → ClassId) (B0 : Nat) (ad : kA) (hal : mAl ad) (S : sS) (d0 : kD) (hX : XB cA ad S d0) (pp : Nat) (mm : Nat) (hp : pp < S 7 0) (hm : mm < 64) (hBs : ∀ l, l < S 18 0 → d0.2.1 8 l 7 = sBars S l) : oM l yX9_firstThatBars wX9_firstThatBars 4 0 0 D cA B0 ad d0 ([.ref (ad.1 0 0), .ref (ad.1 6 pp), .int (nI mm)] : List Value) (oQi D cA B0 ad (fun r d1 => r = ftB S pp mm ∧ d0 = d1)) := by
  refine o_ofW (cc := cX9_firstThatBars) (maxL := 4) (ret := some .int) (by decide) rfl (Nat.le_of_ble_eq_true rfl) ?_
  intro p e s m below meth c hx hb hr hml hts hown hlocks hnm hK hW hB hS ls hl
  have hu : ∀ w ∈ UW, w.before _ s = true := fun w h => hts w (uw_c w h)
  have hl : lv_has ls 4 [(0, .ref (ad.1 0 0)), (1, .ref (ad.1 6 pp)), (2, .int (nI mm))] := hl
  have hA := hX.1
  have hG := hX.2.2
  have hb7 : S 7 0 ≤ 8 := hG.f 7 (mx := 8) (by decide)
  have hb11 : S 11 0 ≤ 20 := hG.f 11 (mx := 20) (by decide)
  have hb18 : S 18 0 ≤ 40 := hG.f 18 (mx := 40) (by decide)
  refine n_iconst (v := 0) hx hb dX9_firstThatBars_0 (by decide) ?_
  refine lv_istore_n (lv' := [(3, .int (nI 0)), (0, .ref (ad.1 0 0)), (1, .ref (ad.1 6 pp)), (2, .int (nI mm))]) hx hb dX9_firstThatBars_1 rfl hl (by decide) rfl (fun ls hl => ?_)
  have lp2 : ∀ (n : Nat) (k : Nat)  (H : Heap) (locs : List Loc) (ls : Array Slot), S 18 0 - k < n → (k ≤ S 18 0) → (fstB (lyP S pp mm) (S 18 0) 0 = fstB (lyP S pp mm) (S 18 0 - k) k) → oW D cA B0 ad d0 H → va_S (oA B0) s.heap H locs → lv_has ls 4 [(0, .ref (ad.1 0 0)), (1, .ref (ad.1 6 pp)), (2, .int (nI mm)), (3, .int (nI k))] → W p l e (oR 4 0 0) s m ([.ref (ad.1 0 0), .ref (ad.1 6 pp), .int (nI mm)] : List Value).toArray below meth c H locs 0 0 (MQ below (oQi D cA B0 ad (fun r d1 => r = ftB S pp mm ∧ d0 = d1)) ([.ref (ad.1 0 0), .ref (ad.1 6 pp), .int (nI mm)] : List Value).toArray s 0 0 (oA B0)) (F0 m 2 ls []) := by
    intro n
    induction n with
    | zero => intro k  H locs ls hmu; exact absurd hmu (Nat.not_lt_zero _)
    | succ n ih_lp2 =>
      intro k  H locs ls hmu hk hf hW hS hl
      refine lv_iload_n hx hb dX9_firstThatBars_2 rfl (lv_at hl 3 rfl) ?_
      refine lv_aload_n hx hb dX9_firstThatBars_3 rfl (lv_at hl 0 rfl) ?_
      refine x_gr hx hb hu in_X9 hown hK hW (hA.o (k := 0) rfl) (kX_0 _ _ _ _) rfl 3 (by decide) uF_X9_25 (hA.f 3 (k := 4) (i := 1) (by decide) (hA.li (by omega))) dX9_firstThatBars_4 ?_
      refine o_calli (o_runV (As := []) (rest := [.int (nI k)]) ⟨hx, hb, hml, hown, hu⟩ (c_Jx4a65c_size_8abf5 l D cA B0 ad hal S d0 hX 1 (by decide)) (gV_X9_105 (fun _ h => h)) (n0 := 0) rfl (by decide +kernel) rfl ⟨Nat.le_of_ble_eq_true rfl, Nat.le_of_ble_eq_true rfl⟩ (o_recv hK hW (hA.li (by omega)) (kX_4 _ _ _ _) rfl) hK hW hB hS hl.1 rfl (lv_room (Nat.le_of_ble_eq_true rfl)) ⟨Nat.zero_le _, Nat.zero_le _⟩ dX9_firstThatBars_7) hS (fun r_2 d_1 q_3 H locs hW hS => ?_)
      obtain ⟨rfl, rfl⟩ := q_3
      refine n_topi (y := nI (S 18 0)) rfl ?_
      refine n_icmp_ge (tgt := 44) hx hb (by omega) (by omega) dX9_firstThatBars_10 (by decide) (fun c_4 => ?_) (fun c_4 => ?_)
      · refine lv_iconst (v := -1) hx hb dX9_firstThatBars_44 (by decide) ?_
        exact o_iret hx hb hr hlocks hW hS (⟨(ftB_no (by unfold lyF; rw [hf, show S 18 0 - k = 0 by omega]; exact Nat.le_of_eq (show S 18 0 = k by omega))).symm, rfl⟩) dX9_firstThatBars_45
      · refine lv_aload_n hx hb dX9_firstThatBars_13 rfl (lv_at hl 0 rfl) ?_
        refine x_gr hx hb hu in_X9 hown hK hW (hA.o (k := 0) rfl) (kX_0 _ _ _ _) rfl 3 (by decide) uF_X9_25 (hA.f 3 (k := 4) (i := 1) (by decide) (hA.li (by omega))) dX9_firstThatBars_14 ?_
        refine lv_iload_n hx hb dX9_firstThatBars_17 rfl (lv_at hl 3 rfl) ?_
        refine o_callq (o_runV (As := [.int (nI k)]) (rest := []) ⟨hx, hb, hml, hown, hu⟩ (c_Jx4a65c_get_915e3 l D cA B0 ad hal S d0 hX 1 k (by decide) (show k < S 18 0 by omega)) (gV_X9_109 (fun _ h => h)) (n0 := 1) rfl (by decide +kernel) rfl ⟨Nat.le_of_ble_eq_true rfl, Nat.le_of_ble_eq_true rfl⟩ (o_recv hK hW (hA.li (by omega)) (kX_4 _ _ _ _) rfl) hK hW hB hS hl.1 rfl (lv_room (Nat.le_of_ble_eq_true rfl)) ⟨Nat.zero_le _, Nat.zero_le _⟩ dX9_firstThatBars_18) hS (fun r_6 d_5 q_7 H locs hW hS => ?_)
        obtain ⟨rfl, rfl⟩ := q_7
        refine W.eq (g2 := F0 m 21 ls [.ref (ad.1 8 k)]) rfl ?_
        refine x_cast hx hb hu hown uL_X9_116 hK hW (hA.look (by omega)) (kX_8 _ _ _ _) rfl dX9_firstThatBars_21 ?_
        refine lv_aload_n hx hb dX9_firstThatBars_24 rfl (lv_at hl 1 rfl) ?_
        refine lv_iload_n hx hb dX9_firstThatBars_25 rfl (lv_at hl 2 rfl) ?_
        refine lv_aload_n hx hb dX9_firstThatBars_26 rfl (lv_at hl 0 rfl) ?_
        refine x_gi hx hb hu in_X9 hown hK hW (hA.o (k := 0) rfl) (kX_0 _ _ _ _) rfl 15 (by decide) uF_X9_78 dX9_firstThatBars_27 ?_
        refine n_topi (y := nI (S 19 0)) (hX.2.1.as) ?_
        have b_8 : S 19 0 ≤ 399 := hG.f 19 (mx := 399) (by decide)
        refine o_calli (o_runV (As := [.ref (ad.1 6 pp), .int (nI mm), .int (nI (S 19 0))]) (rest := []) ⟨hx, hb, hml, hown, hu⟩ (c_X2_barsKnown l D cA B0 ad hal S d0 hX k pp mm (S 19 0) (sBars S k) (by omega) (by omega) (by omega) (by omega) (hBs k (by omega))) (gV_X9_233 (fun _ h => h)) (n0 := 3) rfl (by decide +kernel) rfl ⟨Nat.le_of_ble_eq_true rfl, Nat.le_of_ble_eq_true rfl⟩ (o_recv hK hW (hA.look (by omega)) (kX_8 _ _ _ _) rfl) hK hW hB hS hl.1 rfl (lv_room (Nat.le_of_ble_eq_true rfl)) ⟨Nat.zero_le _, Nat.zero_le _⟩ dX9_firstThatBars_30) hS (fun r_10 d_9 q_11 H locs hW hS => ?_)
        obtain ⟨rfl, rfl⟩ := q_11
        refine lv_if_eq (tgt := 38) hx hb dX9_firstThatBars_33 (by decide) (fun c_b => ?_) (fun c_b => ?_)
        · have hst : fstB (lyP S pp mm) (S 18 0 - k) k = fstB (lyP S pp mm) (S 18 0 - (k + 1)) (k + 1) := by rw [show S 18 0 - k = (S 18 0 - (k + 1)) + 1 by omega, fstB, if_neg (show ¬ lyP S pp mm k = true from fun q => by have z := bI_z c_b; rw [show bKn S pp k mm (S 19 0) (sBars S k) = lyP S pp mm k from rfl, q] at z; cases z)]
          refine n_iinc (q := 1) (lv' := [(3, .int (nI (k + 1))), (0, .ref (ad.1 0 0)), (1, .ref (ad.1 6 pp)), (2, .int (nI mm))]) hx hb dX9_firstThatBars_38 hl (k := 3) rfl (by decide) (by decide) rfl (fun ls hl => ?_)
          refine lv_goto (tgt := 2) hx hb dX9_firstThatBars_41 (by decide) ?_
          exact ih_lp2 (k + 1) _ _ ls (by omega) (by omega) (by rw [hf, hst]) hW hS (lv_sub hl [1, 2, 3, 0] rfl)
        · have hst : fstB (lyP S pp mm) (S 18 0 - k) k = k := by rw [show S 18 0 - k = (S 18 0 - (k + 1)) + 1 by omega, fstB, if_pos (show lyP S pp mm k = true from bI_n c_b)]
          refine lv_iload_n hx hb dX9_firstThatBars_36 rfl (lv_at hl 3 rfl) ?_
          exact o_iret hx hb hr hlocks hW hS (⟨(ftB_yes (by unfold lyF; rw [hf, hst]) (by omega)).symm, rfl⟩) dX9_firstThatBars_37
  exact lp2 (S 18 0 + 1) 0 _ _ ls (by omega) (by omega) rfl hW hS (lv_sub hl [1, 2, 3, 0] rfl)

set_option maxHeartbeats 400000 in
set_option maxRecDepth 100000 in
theorem c_X9_blame (l : Launch) (D : va_G) (cA : Nat → ClassId) (B0 : Nat) (ad : kA) (hal : mAl ad) (S : sS) (sr : Nat → Int32) (d0 : kD) (hM : InvX cA ad S d0) (hR : RowX S sr d0) (pi : Int32) : oM l yX9_blame wX9_blame 7 0 0 D cA B0 ad d0 ([.ref (ad.1 0 0), .int pi] : List Value) (oQi D cA B0 ad (fun r d1 => r = aBlame S pi ∧ PX cA ad (nBlame S pi) (rBlame S sr pi) d0 d1)) := by
  refine o_ofW (cc := cX9_blame) (maxL := 7) (ret := some .int) (by decide) rfl (Nat.le_of_ble_eq_true rfl) ?_
  intro p e s m below meth c hx hb hr hml hts hown hlocks hnm hK hW hB hS ls hl
  have hu : ∀ w ∈ UW, w.before _ s = true := fun w h => hts w (uw_c w h)
  have hl : lv_has ls 7 [(0, .ref (ad.1 0 0)), (1, .int pi)] := hl
  have hX := hM.1
  have hA := hX.1
  have hG := hX.2.2
  have hb7 : S 7 0 ≤ 8 := hG.f 7 (mx := 8) (by decide)
  have hb11 : S 11 0 ≤ 20 := hG.f 11 (mx := 20) (by decide)
  have hb18 : S 18 0 ≤ 40 := hG.f 18 (mx := 40) (by decide)
  have hI : XX cA ad S d0 d0 := XX.start hM
  have hb1 : S 1 0 ≤ 4 := hG.f 1 (mx := 4) (by decide)
  have hb19 : S 19 0 ≤ 399 := hG.f 19 (mx := 399) (by decide)
  have hb22 : S 22 0 ≤ 64 := hG.f 22 (mx := 64) (by decide)
  have hb25 : S 25 0 ≤ 4 := hG.f 25 (mx := 4) (by decide)
  have hb30 : S 30 0 ≤ 10 := hG.f 30 (mx := 10) (by decide)
  have hb32 : S 32 0 ≤ 64 := hG.f 32 (mx := 64) (by decide)
  refine lv_aload_n hx hb dX9_blame_0 rfl (lv_at hl 0 rfl) ?_
  refine lv_iload_n hx hb dX9_blame_1 rfl (lv_at hl 1 rfl) ?_
  refine o_callq (o_runV (As := [.int pi]) (rest := []) ⟨hx, hb, hml, hown, hu⟩ (c_X9_pierOf l D cA B0 ad hal S d0 hI.1.1 pi) (gV_X9_126 (fun _ h => h)) (n0 := 1) rfl (by decide +kernel) rfl ⟨Nat.le_of_ble_eq_true rfl, Nat.le_of_ble_eq_true rfl⟩ (o_recv hK hW (hA.o (k := 0) rfl) (kX_0 _ _ _ _) rfl) hK hW hB hS hl.1 rfl (lv_room (Nat.le_of_ble_eq_true rfl)) ⟨Nat.zero_le _, Nat.zero_le _⟩ dX9_blame_2) hS (fun r_2 d_1 q_3 H locs hW hS => ?_)
  obtain ⟨rfl, rfl⟩ := q_3
  cases o_4 : ix pi (S 7 0) with
  | false =>
    refine W.eq (g2 := F0 m 5 ls [.null]) rfl ?_
    refine lv_astore_nN (lv' := [(2, .null), (0, .ref (ad.1 0 0)), (1, .int pi)]) hx hb dX9_blame_5 rfl hl (by decide) rfl (fun ls hl => ?_)
    refine lv_aload_nN hx hb dX9_blame_6 rfl (lv_at hl 0 rfl) ?_
    refine lv_ifnonnullN hx hb dX9_blame_7 ?_
    refine lv_iconst (v := -1) hx hb dX9_blame_10 (by decide) ?_
    exact o_iret hx hb hr hlocks hW hS (⟨by simp only [aBlame, o_4, eq_self, ↓reduceIte, Bool.false_eq_true], by simp only [nBlame, rBlame, o_4, eq_self, ↓reduceIte, Bool.false_eq_true]; exact hI.pub hR⟩) dX9_blame_11
  | true =>
    obtain ⟨pin, hpin, rfl⟩ := ix_t o_4 (by omega)
    refine W.eq (g2 := F0 m 5 ls [.ref (ad.1 6 pin)]) (by rw [if_pos rfl, nx_nI (by omega)]; rfl) ?_
    refine lv_astore_n (lv' := [(2, .ref (ad.1 6 pin)), (0, .ref (ad.1 0 0)), (1, .int (nI pin))]) hx hb dX9_blame_5 rfl hl (by decide) rfl (fun ls hl => ?_)
    refine lv_aload_n hx hb dX9_blame_6 rfl (lv_at hl 0 rfl) ?_
    refine lv_ifnonnull (tgt := 12) hx hb dX9_blame_7 (by decide) ?_
    refine lv_aload_n hx hb dX9_blame_12 rfl (lv_at hl 1 rfl) ?_
    refine lv_aload_n hx hb dX9_blame_13 rfl (lv_at hl 1 rfl) ?_
    refine x_gi hx hb hu in_X9 hown hK hW (hA.o (k := 0) rfl) (kX_0 _ _ _ _) rfl 15 (by decide) uF_X9_78 dX9_blame_14 ?_
    refine n_topi (y := nI (S 19 0)) (hI.1.1.2.1.as) ?_
    have b_5 : S 19 0 ≤ 399 := hG.f 19 (mx := 399) (by decide)
    refine o_callv (o_runV (As := [.int (nI (S 19 0))]) (rest := []) ⟨hx, hb, hml, hown, hu⟩ (c_X9_findKept l D cA B0 ad hal S d0 hI.1 (S 19 0) (by omega)) (gV_X9_160 (fun _ h => h)) (n0 := 1) rfl (by decide +kernel) rfl ⟨Nat.le_of_ble_eq_true rfl, Nat.le_of_ble_eq_true rfl⟩ (o_recv hK hW (hA.o (k := 0) rfl) (kX_0 _ _ _ _) rfl) hK hW hB hS hl.1 rfl (lv_room (Nat.le_of_ble_eq_true rfl)) ⟨Nat.zero_le _, Nat.zero_le _⟩ dX9_blame_17) hS (fun dK q_7 H locs hW hS => ?_)
    obtain ⟨hq, hKP⟩ := q_7
    have hI := hI.k hq
    refine n_bipush (v := 41) hx hb dX9_blame_20 (by decide) ?_
    refine lv_istore_n (lv' := [(3, .int (nI 41)), (2, .ref (ad.1 6 pin)), (0, .ref (ad.1 0 0)), (1, .int (nI pin))]) hx hb dX9_blame_22 rfl hl (by decide) rfl (fun ls hl => ?_)
    refine n_iconst (v := 0) hx hb dX9_blame_23 (by decide) ?_
    refine lv_istore (lv' := [(4, .int (nI 0)), (3, .int (nI 41)), (2, .ref (ad.1 6 pin)), (0, .ref (ad.1 0 0)), (1, .int (nI pin))]) hx hb dX9_blame_24 hl (by decide) rfl (fun ls hl => ?_)
    refine n_iconst (v := 0) hx hb dX9_blame_26 (by decide) ?_
    refine lv_istore (lv' := [(5, .int (nI 0)), (4, .int (nI 0)), (3, .int (nI 41)), (2, .ref (ad.1 6 pin)), (0, .ref (ad.1 0 0)), (1, .int (nI pin))]) hx hb dX9_blame_27 hl (by decide) rfl (fun ls hl => ?_)
    have lp29 : ∀ (n : Nat) (fw : Nat) (fs : Nat) (k : Nat)  (H : Heap) (locs : List Loc) (ls : Array Slot), 64 - k < n → (k ≤ 64) → (BL S pin k fw fs) → oW D cA B0 ad dK H → va_S (oA B0) s.heap H locs → lv_has ls 7 [(0, .ref (ad.1 0 0)), (1, .int (nI pin)), (2, .ref (ad.1 6 pin)), (3, .int (nI fw)), (4, .int (nI fs)), (5, .int (nI k))] → W p l e (oR 7 0 0) s m ([.ref (ad.1 0 0), .int (nI pin)] : List Value).toArray below meth c H locs 0 0 (MQ below (oQi D cA B0 ad (fun r d1 => r = aBlame S (nI pin) ∧ PX cA ad (nBlame S (nI pin)) (rBlame S sr (nI pin)) d0 d1)) ([.ref (ad.1 0 0), .int (nI pin)] : List Value).toArray s 0 0 (oA B0)) (F0 m 29 ls []) := by
      intro n
      induction n with
      | zero => intro fw fs k  H locs ls hmu; exact absurd hmu (Nat.not_lt_zero _)
      | succ n ih_lp29 =>
        intro fw fs k  H locs ls hmu hk hBL hW hS hl
        have hfwl := hBL.le hb18
        refine lv_iload hx hb dX9_blame_29 (lv_at hl 5 rfl) ?_
        refine n_bipush (v := 64) hx hb dX9_blame_31 (by decide) ?_
        refine n_icmp_ge (tgt := 64) hx hb (by omega) (by omega) dX9_blame_33 (by decide) (fun c_8 => ?_) (fun c_8 => ?_)
        · have hSp := hR.2.fr hI.2
          have hI := hI.r
          obtain ⟨hfs, hfw⟩ := BL.end ((show k = 64 by omega) ▸ hBL)
          have hfs6 := hBL.fs hk
          refine lv_aload_n hx hb dX9_blame_64 rfl (lv_at hl 0 rfl) ?_
          refine x_gr hx hb hu in_X9 hown hK hW (hA.o (k := 0) rfl) (kX_0 _ _ _ _) rfl 6 (by decide) uF_X9_37 (hA.f 6 (k := 11) (i := 0) (by decide) (hA.o (k := 11) rfl)) dX9_blame_65 ?_
          refine o_callv (o_runV (As := []) (rest := []) ⟨hx, hb, hml, hown, hu⟩ (c_X3_clear l D cA B0 ad hal S dK hI.1.1) (gV_X9_174 (fun _ h => h)) (n0 := 0) rfl (by decide +kernel) rfl ⟨Nat.le_of_ble_eq_true rfl, Nat.le_of_ble_eq_true rfl⟩ (o_recv hK hW (hA.o (k := 11) rfl) (kX_11 _ _ _ _) rfl) hK hW hB hS hl.1 rfl (lv_room (Nat.le_of_ble_eq_true rfl)) ⟨Nat.zero_le _, Nat.zero_le _⟩ dX9_blame_68) hS (fun d_9 q_11 H locs hW hS => ?_)
          subst q_11
          have hI := hI.k12 11 0 1 (nI 0) (by decide)
          have hKP := hKP.k 11 0 1 (nI 0) (by decide)
          have hT := TR.zero (fun _ => 0) dK
          have hSp := hSp.k 11 0 1 (nI 0) (by decide)
          refine lv_aload_n hx hb dX9_blame_71 rfl (lv_at hl 0 rfl) ?_
          refine x_gr hx hb hu in_X9 hown hK hW (hA.o (k := 0) rfl) (kX_0 _ _ _ _) rfl 6 (by decide) uF_X9_37 (hA.f 6 (k := 11) (i := 0) (by decide) (hA.o (k := 11) rfl)) dX9_blame_72 ?_
          refine lv_iload hx hb dX9_blame_75 (lv_at hl 4 rfl) ?_
          refine o_callv (o_runV (As := [.int (nI fs)]) (rest := []) ⟨hx, hb, hml, hown, hu⟩ (c_X3_put l D cA B0 ad hal S (uI dK 11 0 1 (nI 0)) hI.1.1 0 (nI fs) (by omega) hT.1) (gV_X9_177 (fun _ h => h)) (n0 := 1) rfl (by decide +kernel) rfl ⟨Nat.le_of_ble_eq_true rfl, Nat.le_of_ble_eq_true rfl⟩ (o_recv hK hW (hA.o (k := 11) rfl) (kX_11 _ _ _ _) rfl) hK hW hB hS hl.1 rfl (lv_room (Nat.le_of_ble_eq_true rfl)) ⟨Nat.zero_le _, Nat.zero_le _⟩ dX9_blame_77) hS (fun d_12 q_14 H locs hW hS => ?_)
          subst q_14
          have hI := hI.k12 12 0 0 (nI fs) (by decide)
          have hKP := hKP.k 12 0 0 (nI fs) (by decide)
          have hI := hI.k12 11 0 1 (nI (0 + 1)) (by decide)
          have hKP := hKP.k 11 0 1 (nI (0 + 1)) (by decide)
          have hT := hT.tell (nI fs)
          have hSp := (hSp.k 12 0 0 (nI fs) (by decide)).k 11 0 1 (nI (0 + 1)) (by decide)
          refine n_iconst (v := 0) hx hb dX9_blame_80 (by decide) ?_
          refine lv_istore (lv' := [(5, .int (nI 0)), (0, .ref (ad.1 0 0)), (1, .int (nI pin)), (2, .ref (ad.1 6 pin)), (3, .int (nI fw)), (4, .int (nI fs))]) hx hb dX9_blame_81 hl (by decide) rfl (fun ls hl => ?_)
          have lp83 : ∀ (n : Nat) (k2 : Nat)  (d : kD) (H : Heap) (locs : List Loc) (ls : Array Slot), S 18 0 - k2 < n → (k2 ≤ S 18 0) → (XR cA ad S d0 d) → (KP S (S 19 0) d) → (TR (bmR S pin fs k2).1 (bmR S pin fs k2).2 d) → (SP S d) → oW D cA B0 ad d H → va_S (oA B0) s.heap H locs → lv_has ls 7 [(0, .ref (ad.1 0 0)), (1, .int (nI pin)), (2, .ref (ad.1 6 pin)), (3, .int (nI fw)), (4, .int (nI fs)), (5, .int (nI k2))] → W p l e (oR 7 0 0) s m ([.ref (ad.1 0 0), .int (nI pin)] : List Value).toArray below meth c H locs 0 0 (MQ below (oQi D cA B0 ad (fun r d1 => r = aBlame S (nI pin) ∧ PX cA ad (nBlame S (nI pin)) (rBlame S sr (nI pin)) d0 d1)) ([.ref (ad.1 0 0), .int (nI pin)] : List Value).toArray s 0 0 (oA B0)) (F0 m 83 ls []) := by
            intro n
            induction n with
            | zero => intro k2  d H locs ls hmu; exact absurd hmu (Nat.not_lt_zero _)
            | succ n ih_lp83 =>
              intro k2  d H locs ls hmu hk2 hI hKP hT hSp hW hS hl
              have hbm := bmR_le S pin fs k2
              refine lv_iload hx hb dX9_blame_83 (lv_at hl 5 rfl) ?_
              refine lv_aload_n hx hb dX9_blame_85 rfl (lv_at hl 0 rfl) ?_
              refine x_gr hx hb hu in_X9 hown hK hW (hA.o (k := 0) rfl) (kX_0 _ _ _ _) rfl 3 (by decide) uF_X9_25 (hA.f 3 (k := 4) (i := 1) (by decide) (hA.li (by omega))) dX9_blame_86 ?_
              refine o_calli (o_runV (As := []) (rest := [.int (nI k2)]) ⟨hx, hb, hml, hown, hu⟩ (c_Jx4a65c_size_8abf5 l D cA B0 ad hal S d hI.1.1 1 (by decide)) (gV_X9_105 (fun _ h => h)) (n0 := 0) rfl (by decide +kernel) rfl ⟨Nat.le_of_ble_eq_true rfl, Nat.le_of_ble_eq_true rfl⟩ (o_recv hK hW (hA.li (by omega)) (kX_4 _ _ _ _) rfl) hK hW hB hS hl.1 rfl (lv_room (Nat.le_of_ble_eq_true rfl)) ⟨Nat.zero_le _, Nat.zero_le _⟩ dX9_blame_89) hS (fun r_16 d_15 q_17 H locs hW hS => ?_)
              obtain ⟨rfl, rfl⟩ := q_17
              refine n_topi (y := nI (S 18 0)) rfl ?_
              refine n_icmp_ge (tgt := 135) hx hb (by omega) (by omega) dX9_blame_92 (by decide) (fun c_18 => ?_) (fun c_18 => ?_)
              · refine lv_iload_n hx hb dX9_blame_135 rfl (lv_at hl 3 rfl) ?_
                exact o_iret hx hb hr hlocks hW hS (⟨by simp only [aBlame, ix_nI hpin (by omega), nx_nI (j := pin) (by omega), eq_self, ↓reduceIte, Bool.false_eq_true]; unfold bmA; rw [bmR_ring, ← hfs, ← hfw]; rfl, by simp only [nBlame, rBlame, ix_nI hpin (by omega), nx_nI (j := pin) (by omega), eq_self, ↓reduceIte, Bool.false_eq_true]; unfold bmA; rw [← hfs, ← show k2 = S 18 0 by omega]; exact hI.end (by omega) hT hSp⟩) dX9_blame_136
              · refine lv_aload_n hx hb dX9_blame_95 rfl (lv_at hl 0 rfl) ?_
                refine x_gr hx hb hu in_X9 hown hK hW (hA.o (k := 0) rfl) (kX_0 _ _ _ _) rfl 3 (by decide) uF_X9_25 (hA.f 3 (k := 4) (i := 1) (by decide) (hA.li (by omega))) dX9_blame_96 ?_
                refine lv_iload hx hb dX9_blame_99 (lv_at hl 5 rfl) ?_
                refine o_callq (o_runV (As := [.int (nI k2)]) (rest := []) ⟨hx, hb, hml, hown, hu⟩ (c_Jx4a65c_get_915e3 l D cA B0 ad hal S d hI.1.1 1 k2 (by decide) (show k2 < S 18 0 by omega)) (gV_X9_109 (fun _ h => h)) (n0 := 1) rfl (by decide +kernel) rfl ⟨Nat.le_of_ble_eq_true rfl, Nat.le_of_ble_eq_true rfl⟩ (o_recv hK hW (hA.li (by omega)) (kX_4 _ _ _ _) rfl) hK hW hB hS hl.1 rfl (lv_room (Nat.le_of_ble_eq_true rfl)) ⟨Nat.zero_le _, Nat.zero_le _⟩ dX9_blame_101) hS (fun r_20 d_19 q_21 H locs hW hS => ?_)
                obtain ⟨rfl, rfl⟩ := q_21
                refine W.eq (g2 := F0 m 104 ls [.ref (ad.1 8 k2)]) rfl ?_
                refine x_cast hx hb hu hown uL_X9_116 hK hW (hA.look (by omega)) (kX_8 _ _ _ _) rfl dX9_blame_104 ?_
                refine lv_aload_n hx hb dX9_blame_107 rfl (lv_at hl 2 rfl) ?_
                refine lv_iload hx hb dX9_blame_108 (lv_at hl 4 rfl) ?_
                refine lv_aload_n hx hb dX9_blame_110 rfl (lv_at hl 0 rfl) ?_
                refine x_gi hx hb hu in_X9 hown hK hW (hA.o (k := 0) rfl) (kX_0 _ _ _ _) rfl 15 (by decide) uF_X9_78 dX9_blame_111 ?_
                refine n_topi (y := nI (S 19 0)) (hI.1.1.2.1.as) ?_
                have b_22 : S 19 0 ≤ 399 := hG.f 19 (mx := 399) (by decide)
                refine o_calli (o_runV (As := [.ref (ad.1 6 pin), .int (nI fs), .int (nI (S 19 0))]) (rest := []) ⟨hx, hb, hml, hown, hu⟩ (c_X2_barsKnown l D cA B0 ad hal S d hI.1.1 k2 pin fs (S 19 0) (sBars S k2) (by omega) (by omega) (by omega) (by omega) (hKP.2.2 k2 (by omega))) (gV_X9_233 (fun _ h => h)) (n0 := 3) rfl (by decide +kernel) rfl ⟨Nat.le_of_ble_eq_true rfl, Nat.le_of_ble_eq_true rfl⟩ (o_recv hK hW (hA.look (by omega)) (kX_8 _ _ _ _) rfl) hK hW hB hS hl.1 rfl (lv_room (Nat.le_of_ble_eq_true rfl)) ⟨Nat.zero_le _, Nat.zero_le _⟩ dX9_blame_114) hS (fun r_24 d_23 q_25 H locs hW hS => ?_)
                obtain ⟨rfl, rfl⟩ := q_25
                refine lv_if_eq (tgt := 129) hx hb dX9_blame_117 (by decide) (fun c_b => ?_) (fun c_b => ?_)
                · have hst : bmR S pin fs (k2 + 1) = bmR S pin fs k2 := by rw [bmR, if_neg (of_decide_eq_false (bI_z c_b))]
                  refine n_iinc (q := 1) (lv' := [(5, .int (nI (k2 + 1))), (0, .ref (ad.1 0 0)), (1, .int (nI pin)), (2, .ref (ad.1 6 pin)), (3, .int (nI fw)), (4, .int (nI fs))]) hx hb dX9_blame_129 hl (k := 5) rfl (by decide) (by decide) rfl (fun ls hl => ?_)
                  refine lv_goto (tgt := 83) hx hb dX9_blame_132 (by decide) ?_
                  exact ih_lp83 (k2 + 1) d _ _ ls (by omega) (by omega) hI hKP (by rw [hst]; exact hT) hSp hW hS (lv_sub hl [1, 2, 3, 4, 5, 0] rfl)
                · have hst : bmR S pin fs (k2 + 1) = ((bmR S pin fs k2).1 + 1, va_up (bmR S pin fs k2).2 (bmR S pin fs k2).1 (nI k2)) := by rw [bmR, if_pos (of_decide_eq_true (bI_n c_b))]
                  refine lv_aload_n hx hb dX9_blame_120 rfl (lv_at hl 0 rfl) ?_
                  refine x_gr hx hb hu in_X9 hown hK hW (hA.o (k := 0) rfl) (kX_0 _ _ _ _) rfl 6 (by decide) uF_X9_37 (hA.f 6 (k := 11) (i := 0) (by decide) (hA.o (k := 11) rfl)) dX9_blame_121 ?_
                  refine lv_iload hx hb dX9_blame_124 (lv_at hl 5 rfl) ?_
                  refine o_callv (o_runV (As := [.int (nI k2)]) (rest := []) ⟨hx, hb, hml, hown, hu⟩ (c_X3_put l D cA B0 ad hal S d hI.1.1 ((bmR S pin fs k2).1) (nI k2) (by omega) hT.1) (gV_X9_177 (fun _ h => h)) (n0 := 1) rfl (by decide +kernel) rfl ⟨Nat.le_of_ble_eq_true rfl, Nat.le_of_ble_eq_true rfl⟩ (o_recv hK hW (hA.o (k := 11) rfl) (kX_11 _ _ _ _) rfl) hK hW hB hS hl.1 rfl (lv_room (Nat.le_of_ble_eq_true rfl)) ⟨Nat.zero_le _, Nat.zero_le _⟩ dX9_blame_126) hS (fun d_26 q_28 H locs hW hS => ?_)
                  subst q_28
                  have hI := hI.k12 12 0 ((bmR S pin fs k2).1) (nI k2) (by decide)
                  have hKP := hKP.k 12 0 ((bmR S pin fs k2).1) (nI k2) (by decide)
                  have hI := hI.k12 11 0 1 (nI ((bmR S pin fs k2).1 + 1)) (by decide)
                  have hKP := hKP.k 11 0 1 (nI ((bmR S pin fs k2).1 + 1)) (by decide)
                  have hT := hT.tell (nI k2)
                  have hSp := (hSp.k 12 0 ((bmR S pin fs k2).1) (nI k2) (by decide)).k 11 0 1 (nI ((bmR S pin fs k2).1 + 1)) (by decide)
                  refine n_iinc (q := 1) (lv' := [(5, .int (nI (k2 + 1))), (0, .ref (ad.1 0 0)), (1, .int (nI pin)), (2, .ref (ad.1 6 pin)), (3, .int (nI fw)), (4, .int (nI fs))]) hx hb dX9_blame_129 hl (k := 5) rfl (by decide) (by decide) rfl (fun ls hl => ?_)
                  refine lv_goto (tgt := 83) hx hb dX9_blame_132 (by decide) ?_
                  exact ih_lp83 (k2 + 1) (uI (uI d 12 0 ((bmR S pin fs k2).1) (nI k2)) 11 0 1 (nI ((bmR S pin fs k2).1 + 1))) _ _ ls (by omega) (by omega) hI hKP (by rw [hst]; exact hT) hSp hW hS (lv_sub hl [1, 2, 3, 4, 5, 0] rfl)
          exact lp83 (S 18 0 + 1) 0 (uI (uI (uI dK 11 0 1 (nI 0)) 12 0 0 (nI fs)) 11 0 1 (nI (0 + 1))) _ _ ls (by omega) (by omega) hI hKP hT hSp hW hS (lv_sub hl [1, 2, 3, 4, 5, 0] rfl)
        · refine lv_aload_n hx hb dX9_blame_36 rfl (lv_at hl 0 rfl) ?_
          refine lv_aload_n hx hb dX9_blame_37 rfl (lv_at hl 2 rfl) ?_
          refine lv_iload hx hb dX9_blame_38 (lv_at hl 5 rfl) ?_
          refine o_calli (o_runV (As := [.ref (ad.1 6 pin), .int (nI k)]) (rest := []) ⟨hx, hb, hml, hown, hu⟩ (c_X9_howManyBar l D cA B0 ad hal S dK hI.1.1 pin k (by omega) (by omega) hKP.2.2) (gV_X9_229 (fun _ h => h)) (n0 := 2) rfl (by decide +kernel) rfl ⟨Nat.le_of_ble_eq_true rfl, Nat.le_of_ble_eq_true rfl⟩ (o_recv hK hW (hA.o (k := 0) rfl) (kX_0 _ _ _ _) rfl) hK hW hB hS hl.1 rfl (lv_room (Nat.le_of_ble_eq_true rfl)) ⟨Nat.zero_le _, Nat.zero_le _⟩ dX9_blame_40) hS (fun r_30 d_29 q_31 H locs hW hS => ?_)
          obtain ⟨rfl, rfl⟩ := q_31
          have hrl := sRing_le S pin k (S 18 0)
          have hfw := hBL.le hb18
          refine lv_istore (lv' := [(6, .int (nI (sRing S pin k (S 18 0)))), (0, .ref (ad.1 0 0)), (1, .int (nI pin)), (2, .ref (ad.1 6 pin)), (3, .int (nI fw)), (4, .int (nI fs)), (5, .int (nI k))]) hx hb dX9_blame_43 hl (by decide) rfl (fun ls hl => ?_)
          refine lv_iload hx hb dX9_blame_45 (lv_at hl 0 rfl) ?_
          refine lv_iload_n hx hb dX9_blame_47 rfl (lv_at hl 4 rfl) ?_
          refine n_icmp_ge (tgt := 58) hx hb (by omega) (by omega) dX9_blame_48 (by decide) (fun c_w => ?_) (fun c_w => ?_)
          · have hBL := hBL.no hb18 (by omega)
            refine n_iinc (q := 1) (lv' := [(5, .int (nI (k + 1))), (6, .int (nI (sRing S pin k (S 18 0)))), (0, .ref (ad.1 0 0)), (1, .int (nI pin)), (2, .ref (ad.1 6 pin)), (3, .int (nI fw)), (4, .int (nI fs))]) hx hb dX9_blame_58 hl (k := 6) rfl (by decide) (by decide) rfl (fun ls hl => ?_)
            refine lv_goto (tgt := 29) hx hb dX9_blame_61 (by decide) ?_
            exact ih_lp29 fw fs (k + 1) _ _ ls (by omega) (by omega) hBL hW hS (lv_sub hl [2, 3, 4, 5, 6, 0] rfl)
          · have hBL := hBL.yes (by omega)
            refine lv_iload hx hb dX9_blame_51 (lv_at hl 0 rfl) ?_
            refine lv_istore_n (lv' := [(3, .int (nI (sRing S pin k (S 18 0)))), (6, .int (nI (sRing S pin k (S 18 0)))), (0, .ref (ad.1 0 0)), (1, .int (nI pin)), (2, .ref (ad.1 6 pin)), (4, .int (nI fs)), (5, .int (nI k))]) hx hb dX9_blame_53 rfl hl (by decide) rfl (fun ls hl => ?_)
            refine lv_iload hx hb dX9_blame_54 (lv_at hl 6 rfl) ?_
            refine lv_istore (lv' := [(4, .int (nI k)), (3, .int (nI (sRing S pin k (S 18 0)))), (6, .int (nI (sRing S pin k (S 18 0)))), (0, .ref (ad.1 0 0)), (1, .int (nI pin)), (2, .ref (ad.1 6 pin)), (5, .int (nI k))]) hx hb dX9_blame_56 hl (by decide) rfl (fun ls hl => ?_)
            refine n_iinc (q := 1) (lv' := [(5, .int (nI (k + 1))), (4, .int (nI k)), (3, .int (nI (sRing S pin k (S 18 0)))), (6, .int (nI (sRing S pin k (S 18 0)))), (0, .ref (ad.1 0 0)), (1, .int (nI pin)), (2, .ref (ad.1 6 pin))]) hx hb dX9_blame_58 hl (k := 6) rfl (by decide) (by decide) rfl (fun ls hl => ?_)
            refine lv_goto (tgt := 29) hx hb dX9_blame_61 (by decide) ?_
            exact ih_lp29 (sRing S pin k (S 18 0)) k (k + 1) _ _ ls (by omega) (by omega) hBL hW hS (lv_sub hl [4, 5, 6, 2, 1, 0] rfl)
    exact lp29 (65) 41 0 0 _ _ ls (by omega) (by omega) (Or.inl ⟨rfl, rfl, rfl⟩) hW hS (lv_sub hl [4, 5, 3, 2, 1, 0] rfl)
