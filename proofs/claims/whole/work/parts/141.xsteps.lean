set_option maxHeartbeats 400000 in
set_option maxRecDepth 100000 in
theorem c_X6_clear (l : Launch) (D : va_G) (cA : Nat → ClassId) (B0 : Nat) (ad : kA) (hal : mAl ad) (S : sS) (d0 : kD) (hX : XB cA ad S d0) : oM l yX6_clear wX6_clear 1 0 0 D cA B0 ad d0 ([.ref (ad.1 13 0)] : List Value) (oQv D cA B0 ad (fun d1 => uI d0 13 0 2 (nI 0) = d1)) := by
  refine o_ofW (cc := cX6_clear) (maxL := 1) (ret := none) (by decide) rfl (Nat.le_of_ble_eq_true rfl) ?_
  intro p e s m below meth c hx hb hr hml hts hown hlocks hnm hK hW hB hS ls hl
  have hu : ∀ w ∈ UW, w.before _ s = true := fun w h => hts w (uw_c w h)
  have hl : lv_has ls 1 [(0, .ref (ad.1 13 0))] := hl
  have hA := hX.1
  have hG := hX.2.2
  have hb7 : S 7 0 ≤ 8 := hG.f 7 (mx := 8) (by decide)
  have hb11 : S 11 0 ≤ 20 := hG.f 11 (mx := 20) (by decide)
  have hb18 : S 18 0 ≤ 40 := hG.f 18 (mx := 40) (by decide)
  refine lv_aload_n hx hb dX6_clear_0 rfl (lv_at hl 0 rfl) ?_
  refine n_iconst (v := 0) hx hb dX6_clear_1 (by decide) ?_
  refine x_pi hx hb hu in_X6 tyX6 tyX6_ok nmX6 hown hK hW hS (hA.o (k := 13) rfl) (kI_13 _ _ _ _) rfl 2 (ty := .int) (by decide +kernel) uF_X6_18 ⟨rfl, rfl⟩ dX6_clear_2 (fun H locs hW hS => ?_)
  exact o_vret hx hb hr hlocks hW hS (rfl) dX6_clear_5

set_option maxHeartbeats 400000 in
set_option maxRecDepth 100000 in
theorem c_X6_add (l : Launch) (D : va_G) (cA : Nat → ClassId) (B0 : Nat) (ad : kA) (hal : mAl ad) (S : sS) (d0 : kD) (hX : XB cA ad S d0) (c0 a b : Nat) (hc : c0 < 64) (h1 : d0.1 13 0 2 = nI c0) : oM l yX6_add wX6_add 1 0 0 D cA B0 ad d0 ([.ref (ad.1 13 0), .int (nI a), .int (nI b)] : List Value) (oQv D cA B0 ad (fun d1 => uI (uI (uI d0 14 0 c0 (nI a)) 15 0 c0 (nI b)) 13 0 2 (nI (c0 + 1)) = d1)) := by
  refine o_ofW (cc := cX6_add) (maxL := 3) (ret := none) (by decide) rfl (Nat.le_of_ble_eq_true rfl) ?_
  intro p e s m below meth c hx hb hr hml hts hown hlocks hnm hK hW hB hS ls hl
  have hu : ∀ w ∈ UW, w.before _ s = true := fun w h => hts w (uw_c w h)
  have hl : lv_has ls 3 [(0, .ref (ad.1 13 0)), (1, .int (nI a)), (2, .int (nI b))] := hl
  have hA := hX.1
  have hG := hX.2.2
  have hb7 : S 7 0 ≤ 8 := hG.f 7 (mx := 8) (by decide)
  have hb11 : S 11 0 ≤ 20 := hG.f 11 (mx := 20) (by decide)
  have hb18 : S 18 0 ≤ 40 := hG.f 18 (mx := 40) (by decide)
  refine lv_aload_n hx hb dX6_add_0 rfl (lv_at hl 0 rfl) ?_
  refine x_gi hx hb hu in_X6 hown hK hW (hA.o (k := 13) rfl) (kX_13 _ _ _ _) rfl 2 (by decide) uF_X6_18 dX6_add_1 ?_
  refine n_topi (y := nI c0) (h1) ?_
  refine n_bipush (v := 64) hx hb dX6_add_4 (by decide) ?_
  refine n_icmp_ge (tgt := 39) hx hb (by omega) (by omega) dX6_add_6 (by decide) (fun c_1 => ?_) (fun c_1 => ?_)
  · exfalso; omega
  · refine lv_aload_n hx hb dX6_add_9 rfl (lv_at hl 0 rfl) ?_
    refine x_gr hx hb hu in_X6 hown hK hW (hA.o (k := 13) rfl) (kX_13 _ _ _ _) rfl 0 (by decide) uF_X6_9 hA.sm dX6_add_10 ?_
    refine lv_aload_n hx hb dX6_add_13 rfl (lv_at hl 0 rfl) ?_
    refine x_gi hx hb hu in_X6 hown hK hW (hA.o (k := 13) rfl) (kX_13 _ _ _ _) rfl 2 (by decide) uF_X6_18 dX6_add_14 ?_
    refine n_topi (y := nI c0) (h1) ?_
    refine lv_iload_n hx hb dX6_add_17 rfl (lv_at hl 1 rfl) ?_
    refine x_is hx hb hK hW hS (hA.o (k := 14) rfl) (kI_14 _ _ _ _) (by decide) (by omega) dX6_add_18 (fun H locs hW hS => ?_)
    refine lv_aload_n hx hb dX6_add_19 rfl (lv_at hl 0 rfl) ?_
    refine x_gr hx hb hu in_X6 hown hK hW (hA.o (k := 13) rfl) (kX_13 _ _ _ _) rfl 1 (by decide) uF_X6_15 hA.sl dX6_add_20 ?_
    refine lv_aload_n hx hb dX6_add_23 rfl (lv_at hl 0 rfl) ?_
    refine x_gi hx hb hu in_X6 hown hK hW (hA.o (k := 13) rfl) (kX_13 _ _ _ _) rfl 2 (by decide) uF_X6_18 dX6_add_24 ?_
    refine n_topi (y := nI c0) (h1) ?_
    refine lv_iload_n hx hb dX6_add_27 rfl (lv_at hl 2 rfl) ?_
    refine x_is hx hb hK hW hS (hA.o (k := 15) rfl) (kI_15 _ _ _ _) (by decide) (by omega) dX6_add_28 (fun H locs hW hS => ?_)
    refine lv_aload_n hx hb dX6_add_29 rfl (lv_at hl 0 rfl) ?_
    refine lv_dup hx hb dX6_add_30 rfl ?_
    refine x_gi hx hb hu in_X6 hown hK hW (hA.o (k := 13) rfl) (kX_13 _ _ _ _) rfl 2 (by decide) uF_X6_18 dX6_add_31 ?_
    refine n_topi (y := nI c0) (h1) ?_
    refine n_iconst (v := 1) hx hb dX6_add_34 (by decide) ?_
    refine n_iadd hx hb dX6_add_35 ?_
    refine x_pi hx hb hu in_X6 tyX6 tyX6_ok nmX6 hown hK hW hS (hA.o (k := 13) rfl) (kI_13 _ _ _ _) rfl 2 (ty := .int) (by decide +kernel) uF_X6_18 ⟨rfl, rfl⟩ dX6_add_36 (fun H locs hW hS => ?_)
    exact o_vret hx hb hr hlocks hW hS (rfl) dX6_add_39

set_option maxHeartbeats 400000 in
set_option maxRecDepth 100000 in
theorem c_X9_lay (l : Launch) (D : va_G) (cA : Nat → ClassId) (B0 : Nat) (ad : kA) (hal : mAl ad) (S : sS) (sr : Nat → Int32) (d0 : kD) (hM : InvX cA ad S d0) (hR : RowX S sr d0) (pi : Int32) : oM l yX9_lay wX9_lay 7 0 0 D cA B0 ad d0 ([.ref (ad.1 0 0), .int pi] : List Value) (oQi D cA B0 ad (fun r d1 => r = aLay S pi ∧ PX cA ad (nLay S pi) sr d0 d1)) := by
  refine o_ofW (cc := cX9_lay) (maxL := 5) (ret := some .int) (by decide) rfl (Nat.le_of_ble_eq_true rfl) ?_
  intro p e s m below meth c hx hb hr hml hts hown hlocks hnm hK hW hB hS ls hl
  have hu : ∀ w ∈ UW, w.before _ s = true := fun w h => hts w (uw_c w h)
  have hl : lv_has ls 5 [(0, .ref (ad.1 0 0)), (1, .int pi)] := hl
  have hX := hM.1
  have hA := hX.1
  have hG := hX.2.2
  have hb7 : S 7 0 ≤ 8 := hG.f 7 (mx := 8) (by decide)
  have hb11 : S 11 0 ≤ 20 := hG.f 11 (mx := 20) (by decide)
  have hb18 : S 18 0 ≤ 40 := hG.f 18 (mx := 40) (by decide)
  have hI : XX cA ad S d0 d0 := XX.start hM
  have hb1 : S 1 0 ≤ 4 := hG.f 1 (mx := 4) (by decide)
  have hb19 : S 19 0 ≤ 399 := hG.f 19 (mx := 399) (by decide)
  have hb22 : S 22 0 ≤ 64 := hG.f 22 (mx := 64) (by decide)
  have hb25 : S 25 0 ≤ 4 := hG.f 25 (mx := 4) (by decide)
  have hb30 : S 30 0 ≤ 10 := hG.f 30 (mx := 10) (by decide)
  have hb32 : S 32 0 ≤ 64 := hG.f 32 (mx := 64) (by decide)
  refine lv_aload_n hx hb dX9_lay_0 rfl (lv_at hl 0 rfl) ?_
  refine lv_iload_n hx hb dX9_lay_1 rfl (lv_at hl 1 rfl) ?_
  refine o_callq (o_runV (As := [.int pi]) (rest := []) ⟨hx, hb, hml, hown, hu⟩ (c_X9_pierOf l D cA B0 ad hal S d0 hI.1.1 pi) (gV_X9_126 (fun _ h => h)) (n0 := 1) rfl (by decide +kernel) rfl ⟨Nat.le_of_ble_eq_true rfl, Nat.le_of_ble_eq_true rfl⟩ (o_recv hK hW (hA.o (k := 0) rfl) (kX_0 _ _ _ _) rfl) hK hW hB hS hl.1 rfl (lv_room (Nat.le_of_ble_eq_true rfl)) ⟨Nat.zero_le _, Nat.zero_le _⟩ dX9_lay_2) hS (fun r_2 d_1 q_3 H locs hW hS => ?_)
  obtain ⟨rfl, rfl⟩ := q_3
  cases o_4 : ix pi (S 7 0) with
  | false =>
    refine W.eq (g2 := F0 m 5 ls [.null]) rfl ?_
    refine lv_astore_nN (lv' := [(2, .null), (0, .ref (ad.1 0 0)), (1, .int pi)]) hx hb dX9_lay_5 rfl hl (by decide) rfl (fun ls hl => ?_)
    refine lv_aload_nN hx hb dX9_lay_6 rfl (lv_at hl 0 rfl) ?_
    refine lv_ifnonnullN hx hb dX9_lay_7 ?_
    refine lv_iconst (v := -1) hx hb dX9_lay_10 (by decide) ?_
    exact o_iret hx hb hr hlocks hW hS (⟨by simp only [aLay, o_4, eq_self, ↓reduceIte, Bool.false_eq_true], by simp only [nLay, o_4, eq_self, ↓reduceIte, Bool.false_eq_true]; exact hI.pub hR⟩) dX9_lay_11
  | true =>
    obtain ⟨pin, hpin, rfl⟩ := ix_t o_4 (by omega)
    refine W.eq (g2 := F0 m 5 ls [.ref (ad.1 6 pin)]) (by rw [if_pos rfl, nx_nI (by omega)]; rfl) ?_
    refine lv_astore_n (lv' := [(2, .ref (ad.1 6 pin)), (0, .ref (ad.1 0 0)), (1, .int (nI pin))]) hx hb dX9_lay_5 rfl hl (by decide) rfl (fun ls hl => ?_)
    refine lv_aload_n hx hb dX9_lay_6 rfl (lv_at hl 0 rfl) ?_
    refine lv_ifnonnull (tgt := 12) hx hb dX9_lay_7 (by decide) ?_
    refine lv_aload_n hx hb dX9_lay_12 rfl (lv_at hl 1 rfl) ?_
    refine lv_aload_n hx hb dX9_lay_13 rfl (lv_at hl 1 rfl) ?_
    refine x_gi hx hb hu in_X9 hown hK hW (hA.o (k := 0) rfl) (kX_0 _ _ _ _) rfl 15 (by decide) uF_X9_78 dX9_lay_14 ?_
    refine n_topi (y := nI (S 19 0)) (hI.1.1.2.1.as) ?_
    have b_5 : S 19 0 ≤ 399 := hG.f 19 (mx := 399) (by decide)
    refine o_callv (o_runV (As := [.int (nI (S 19 0))]) (rest := []) ⟨hx, hb, hml, hown, hu⟩ (c_X9_findKept l D cA B0 ad hal S d0 hI.1 (S 19 0) (by omega)) (gV_X9_160 (fun _ h => h)) (n0 := 1) rfl (by decide +kernel) rfl ⟨Nat.le_of_ble_eq_true rfl, Nat.le_of_ble_eq_true rfl⟩ (o_recv hK hW (hA.o (k := 0) rfl) (kX_0 _ _ _ _) rfl) hK hW hB hS hl.1 rfl (lv_room (Nat.le_of_ble_eq_true rfl)) ⟨Nat.zero_le _, Nat.zero_le _⟩ dX9_lay_17) hS (fun d_6 q_8 H locs hW hS => ?_)
    obtain ⟨hq, hKP⟩ := q_8
    have hI := hI.k hq
    have hSp := hR.2.fr hI.2
    have hT := hR.1.fr hI.2
    have hI := hI.r
    refine lv_aload_n hx hb dX9_lay_20 rfl (lv_at hl 1 rfl) ?_
    refine x_gr hx hb hu in_X9 hown hK hW (hA.o (k := 0) rfl) (kX_0 _ _ _ _) rfl 7 (by decide) uF_X9_44 (hA.f 7 (k := 13) (i := 0) (by decide) (hA.o (k := 13) rfl)) dX9_lay_21 ?_
    refine o_callv (o_runV (As := []) (rest := []) ⟨hx, hb, hml, hown, hu⟩ (c_X6_clear l D cA B0 ad hal S d_6 hI.1.1) (gV_X9_280 (fun _ h => h)) (n0 := 0) rfl (by decide +kernel) rfl ⟨Nat.le_of_ble_eq_true rfl, Nat.le_of_ble_eq_true rfl⟩ (o_recv hK hW (hA.o (k := 13) rfl) (kX_13 _ _ _ _) rfl) hK hW hB hS hl.1 rfl (lv_room (Nat.le_of_ble_eq_true rfl)) ⟨Nat.zero_le _, Nat.zero_le _⟩ dX9_lay_24) hS (fun d_9 q_11 H locs hW hS => ?_)
    subst q_11
    have hI := hI.k12 13 0 2 (nI 0) (by decide)
    have hKP := hKP.k 13 0 2 (nI 0) (by decide)
    have hT := hT.k 13 0 2 (nI 0) (by decide)
    have hSp := hSp.zero
    refine n_iconst (v := 0) hx hb dX9_lay_27 (by decide) ?_
    refine lv_istore_n (lv' := [(3, .int (nI 0)), (2, .ref (ad.1 6 pin)), (0, .ref (ad.1 0 0)), (1, .int (nI pin))]) hx hb dX9_lay_28 rfl hl (by decide) rfl (fun ls hl => ?_)
    have lp29 : ∀ (n : Nat) (k : Nat)  (d : kD) (H : Heap) (locs : List Loc) (ls : Array Slot), 64 - k < n → (k ≤ 64) → (XR cA ad S d0 d) → (KP S (S 19 0) d) → (TR (S 32 0) sr d) → (SP (lyS S pin (sFree S pin (S 19 0) (-1)) k) d) → oW D cA B0 ad d H → va_S (oA B0) s.heap H locs → lv_has ls 5 [(0, .ref (ad.1 0 0)), (1, .int (nI pin)), (2, .ref (ad.1 6 pin)), (3, .int (nI k))] → W p l e (oR 7 0 0) s m ([.ref (ad.1 0 0), .int (nI pin)] : List Value).toArray below meth c H locs 0 0 (MQ below (oQi D cA B0 ad (fun r d1 => r = aLay S (nI pin) ∧ PX cA ad (nLay S (nI pin)) sr d0 d1)) ([.ref (ad.1 0 0), .int (nI pin)] : List Value).toArray s 0 0 (oA B0)) (F0 m 29 ls []) := by
      intro n
      induction n with
      | zero => intro k  d H locs ls hmu; exact absurd hmu (Nat.not_lt_zero _)
      | succ n ih_lp29 =>
        intro k  d H locs ls hmu hk hI hKP hT hSp hW hS hl
        refine lv_iload_n hx hb dX9_lay_29 rfl (lv_at hl 3 rfl) ?_
        refine n_bipush (v := 64) hx hb dX9_lay_30 (by decide) ?_
        refine n_icmp_ge (tgt := 65) hx hb (by omega) (by omega) dX9_lay_32 (by decide) (fun c_12 => ?_) (fun c_12 => ?_)
        · refine lv_aload_n hx hb dX9_lay_65 rfl (lv_at hl 0 rfl) ?_
          refine x_gr hx hb hu in_X9 hown hK hW (hA.o (k := 0) rfl) (kX_0 _ _ _ _) rfl 7 (by decide) uF_X9_44 (hA.f 7 (k := 13) (i := 0) (by decide) (hA.o (k := 13) rfl)) dX9_lay_66 ?_
          have hk64 : k = 64 := by omega
          refine x_gi hx hb hu in_X6 hown hK hW (hA.o (k := 13) rfl) (kX_13 _ _ _ _) rfl 2 (by decide) uF_X9_274 dX9_lay_69 ?_
          refine n_topi (y := nI (lyC (sFree S pin (S 19 0) (-1)) k)) (by have z := hSp.1; rw [lyS_c] at z; exact z) ?_
          exact o_iret hx hb hr hlocks hW hS (⟨by simp only [aLay, ix_nI hpin (by omega), nx_nI (j := pin) (by omega), eq_self, ↓reduceIte, Bool.false_eq_true]; rw [hk64], by simp only [nLay, ix_nI hpin (by omega), nx_nI (j := pin) (by omega), eq_self, ↓reduceIte, Bool.false_eq_true]; exact ⟨lyx_inv hI.1 pin, ⟨by unfold lyA; rw [lyS_n S pin _ (by decide) (by decide) (by decide)]; exact hT, by unfold lyA; rw [← hk64]; exact hSp⟩, hI.2⟩⟩) dX9_lay_72
        · refine lv_aload_n hx hb dX9_lay_35 rfl (lv_at hl 0 rfl) ?_
          refine lv_aload_n hx hb dX9_lay_36 rfl (lv_at hl 2 rfl) ?_
          refine lv_iload_n hx hb dX9_lay_37 rfl (lv_at hl 3 rfl) ?_
          refine o_calli (o_runV (As := [.ref (ad.1 6 pin), .int (nI k)]) (rest := []) ⟨hx, hb, hml, hown, hu⟩ (c_X9_firstThatBars l D cA B0 ad hal S d hI.1.1 pin k (by omega) (by omega) hKP.2.2) (gV_X9_287 (fun _ h => h)) (n0 := 2) rfl (by decide +kernel) rfl ⟨Nat.le_of_ble_eq_true rfl, Nat.le_of_ble_eq_true rfl⟩ (o_recv hK hW (hA.o (k := 0) rfl) (kX_0 _ _ _ _) rfl) hK hW hB hS hl.1 rfl (lv_room (Nat.le_of_ble_eq_true rfl)) ⟨Nat.zero_le _, Nat.zero_le _⟩ dX9_lay_38) hS (fun r_14 d_13 q_15 H locs hW hS => ?_)
          obtain ⟨rfl, rfl⟩ := q_15
          refine lv_istore (lv' := [(4, .int (ftB S pin k)), (0, .ref (ad.1 0 0)), (1, .int (nI pin)), (2, .ref (ad.1 6 pin)), (3, .int (nI k))]) hx hb dX9_lay_41 hl (by decide) rfl (fun ls hl => ?_)
          refine lv_iload hx hb dX9_lay_43 (lv_at hl 0 rfl) ?_
          refine lv_iconst (v := -1) hx hb dX9_lay_45 (by decide) ?_
          refine lv_icmp_eq (tgt := 59) hx hb dX9_lay_46 (by decide) (fun c_l => ?_) (fun c_l => ?_)
          · have hst : lyS S pin (sFree S pin (S 19 0) (-1)) (k + 1) = (lyS S pin (sFree S pin (S 19 0) (-1)) k) := by rw [lyS, if_pos ((lyF_free (by omega) hb18).mpr (ftB_eq hb18 c_l))]
            refine n_iinc (q := 1) (lv' := [(3, .int (nI (k + 1))), (4, .int (ftB S pin k)), (0, .ref (ad.1 0 0)), (1, .int (nI pin)), (2, .ref (ad.1 6 pin))]) hx hb dX9_lay_59 hl (k := 4) rfl (by decide) (by decide) rfl (fun ls hl => ?_)
            refine lv_goto (tgt := 29) hx hb dX9_lay_62 (by decide) ?_
            exact ih_lp29 (k + 1) d _ _ ls (by omega) (by omega) hI hKP hT (by rw [hst]; exact hSp) hW hS (lv_sub hl [2, 3, 4, 0] rfl)
          · have hlt := ftB_ne c_l
            have hst : lyS S pin (sFree S pin (S 19 0) (-1)) (k + 1) = upS (upS (upS (lyS S pin (sFree S pin (S 19 0) (-1)) k) 20 (lyC (sFree S pin (S 19 0) (-1)) k) k) 21 (lyC (sFree S pin (S 19 0) (-1)) k) (lyF S pin k)) 22 0 (lyC (sFree S pin (S 19 0) (-1)) k + 1) := by rw [lyS, if_neg (fun z => (lyF_free (by omega) hb18).mp z hlt)]
            have hlc := lyC_le (sFree S pin (S 19 0) (-1)) k
            refine lv_aload_n hx hb dX9_lay_49 rfl (lv_at hl 1 rfl) ?_
            refine x_gr hx hb hu in_X9 hown hK hW (hA.o (k := 0) rfl) (kX_0 _ _ _ _) rfl 7 (by decide) uF_X9_44 (hA.f 7 (k := 13) (i := 0) (by decide) (hA.o (k := 13) rfl)) dX9_lay_50 ?_
            refine lv_iload_n hx hb dX9_lay_53 rfl (lv_at hl 4 rfl) ?_
            refine lv_iload hx hb dX9_lay_54 (lv_at hl 0 rfl) ?_
            refine n_topi (y := nI (lyF S pin k)) (ftB_yes rfl hlt) ?_
            refine o_callv (o_runV (As := [.int (nI k), .int (nI (lyF S pin k))]) (rest := []) ⟨hx, hb, hml, hown, hu⟩ (c_X6_add l D cA B0 ad hal S d hI.1.1 (lyC (sFree S pin (S 19 0) (-1)) k) k (lyF S pin k) (by omega) (by have z := hSp.1; rw [lyS_c] at z; exact z)) (gV_X9_277 (fun _ h => h)) (n0 := 2) rfl (by decide +kernel) rfl ⟨Nat.le_of_ble_eq_true rfl, Nat.le_of_ble_eq_true rfl⟩ (o_recv hK hW (hA.o (k := 13) rfl) (kX_13 _ _ _ _) rfl) hK hW hB hS hl.1 rfl (lv_room (Nat.le_of_ble_eq_true rfl)) ⟨Nat.zero_le _, Nat.zero_le _⟩ dX9_lay_56) hS (fun d_16 q_18 H locs hW hS => ?_)
            subst q_18
            have hI := hI.k12 14 0 (lyC (sFree S pin (S 19 0) (-1)) k) (nI k) (by decide)
            have hKP := hKP.k 14 0 (lyC (sFree S pin (S 19 0) (-1)) k) (nI k) (by decide)
            have hI := hI.k12 15 0 (lyC (sFree S pin (S 19 0) (-1)) k) (nI (lyF S pin k)) (by decide)
            have hKP := hKP.k 15 0 (lyC (sFree S pin (S 19 0) (-1)) k) (nI (lyF S pin k)) (by decide)
            have hI := hI.k12 13 0 2 (nI (lyC (sFree S pin (S 19 0) (-1)) k + 1)) (by decide)
            have hKP := hKP.k 13 0 2 (nI (lyC (sFree S pin (S 19 0) (-1)) k + 1)) (by decide)
            have hT := ((hT.k 14 0 (lyC (sFree S pin (S 19 0) (-1)) k) (nI k) (by decide)).k 15 0 (lyC (sFree S pin (S 19 0) (-1)) k) (nI (lyF S pin k)) (by decide)).k 13 0 2 (nI (lyC (sFree S pin (S 19 0) (-1)) k + 1)) (by decide)
            have hSp := hSp.add (c := (lyC (sFree S pin (S 19 0) (-1)) k)) (m := k) (l := (lyF S pin k)) (by omega)
            refine n_iinc (q := 1) (lv' := [(3, .int (nI (k + 1))), (4, .int (ftB S pin k)), (0, .ref (ad.1 0 0)), (1, .int (nI pin)), (2, .ref (ad.1 6 pin))]) hx hb dX9_lay_59 hl (k := 4) rfl (by decide) (by decide) rfl (fun ls hl => ?_)
            refine lv_goto (tgt := 29) hx hb dX9_lay_62 (by decide) ?_
            exact ih_lp29 (k + 1) (uI (uI (uI d 14 0 (lyC (sFree S pin (S 19 0) (-1)) k) (nI k)) 15 0 (lyC (sFree S pin (S 19 0) (-1)) k) (nI (lyF S pin k))) 13 0 2 (nI (lyC (sFree S pin (S 19 0) (-1)) k + 1))) _ _ ls (by omega) (by omega) hI hKP hT (by rw [hst]; exact hSp) hW hS (lv_sub hl [2, 3, 4, 0] rfl)
    exact lp29 (65) 0 (uI d_6 13 0 2 (nI 0)) _ _ ls (by omega) (by omega) hI hKP hT hSp hW hS (lv_sub hl [2, 3, 1, 0] rfl)

set_option maxHeartbeats 400000 in
set_option maxRecDepth 100000 in
theorem c_X9_check (l : Launch) (D : va_G) (cA : Nat → ClassId) (B0 : Nat) (ad : kA) (hal : mAl ad) (S : sS) (sr : Nat → Int32) (d0 : kD) (hM : InvX cA ad S d0) (hR : RowX S sr d0) (pi : Int32) : oM l yX9_check wX9_check 7 0 0 D cA B0 ad d0 ([.ref (ad.1 0 0), .int pi] : List Value) (oQi D cA B0 ad (fun r d1 => r = aCheck S pi ∧ PX cA ad (upS S 22 0 0) sr d0 d1)) := by
  refine o_ofW (cc := cX9_check) (maxL := 9) (ret := some .int) (by decide) rfl (Nat.le_of_ble_eq_true rfl) ?_
  intro p e s m below meth c hx hb hr hml hts hown hlocks hnm hK hW hB hS ls hl
  have hu : ∀ w ∈ UW, w.before _ s = true := fun w h => hts w (uw_c w h)
  have hl : lv_has ls 9 [(0, .ref (ad.1 0 0)), (1, .int pi)] := hl
  have hX := hM.1
  have hA := hX.1
  have hG := hX.2.2
  have hb7 : S 7 0 ≤ 8 := hG.f 7 (mx := 8) (by decide)
  have hb11 : S 11 0 ≤ 20 := hG.f 11 (mx := 20) (by decide)
  have hb18 : S 18 0 ≤ 40 := hG.f 18 (mx := 40) (by decide)
  have hI : XR cA ad S d0 d0 := XR.start hM
  have hT := hR.1
  have hSp := hR.2
  have hb1 : S 1 0 ≤ 4 := hG.f 1 (mx := 4) (by decide)
  have hb19 : S 19 0 ≤ 399 := hG.f 19 (mx := 399) (by decide)
  have hb22 : S 22 0 ≤ 64 := hG.f 22 (mx := 64) (by decide)
  have hb25 : S 25 0 ≤ 4 := hG.f 25 (mx := 4) (by decide)
  have hb30 : S 30 0 ≤ 10 := hG.f 30 (mx := 10) (by decide)
  have hb32 : S 32 0 ≤ 64 := hG.f 32 (mx := 64) (by decide)
  refine lv_aload_n hx hb dX9_check_0 rfl (lv_at hl 0 rfl) ?_
  refine x_gr hx hb hu in_X9 hown hK hW (hA.o (k := 0) rfl) (kX_0 _ _ _ _) rfl 7 (by decide) uF_X9_44 (hA.f 7 (k := 13) (i := 0) (by decide) (hA.o (k := 13) rfl)) dX9_check_1 ?_
  refine x_gi hx hb hu in_X6 hown hK hW (hA.o (k := 13) rfl) (kX_13 _ _ _ _) rfl 2 (by decide) uF_X9_274 dX9_check_4 ?_
  refine n_topi (y := nI (S 22 0)) (hR.2.1) ?_
  refine lv_istore_n (lv' := [(2, .int (nI (S 22 0))), (0, .ref (ad.1 0 0)), (1, .int pi)]) hx hb dX9_check_7 rfl hl (by decide) rfl (fun ls hl => ?_)
  refine lv_aload_n hx hb dX9_check_8 rfl (lv_at hl 1 rfl) ?_
  refine x_gr hx hb hu in_X9 hown hK hW (hA.o (k := 0) rfl) (kX_0 _ _ _ _) rfl 7 (by decide) uF_X9_44 (hA.f 7 (k := 13) (i := 0) (by decide) (hA.o (k := 13) rfl)) dX9_check_9 ?_
  refine o_callv (o_runV (As := []) (rest := []) ⟨hx, hb, hml, hown, hu⟩ (c_X6_clear l D cA B0 ad hal S d0 hI.1.1) (gV_X9_280 (fun _ h => h)) (n0 := 0) rfl (by decide +kernel) rfl ⟨Nat.le_of_ble_eq_true rfl, Nat.le_of_ble_eq_true rfl⟩ (o_recv hK hW (hA.o (k := 13) rfl) (kX_13 _ _ _ _) rfl) hK hW hB hS hl.1 rfl (lv_room (Nat.le_of_ble_eq_true rfl)) ⟨Nat.zero_le _, Nat.zero_le _⟩ dX9_check_12) hS (fun d_1 q_3 H locs hW hS => ?_)
  subst q_3
  have hI := hI.k12 13 0 2 (nI 0) (by decide)
  have hT := hT.k 13 0 2 (nI 0) (by decide)
  have hSp := hSp.zero
  refine lv_aload_n hx hb dX9_check_15 rfl (lv_at hl 1 rfl) ?_
  refine lv_iload_n hx hb dX9_check_16 rfl (lv_at hl 2 rfl) ?_
  refine o_callq (o_runV (As := [.int pi]) (rest := []) ⟨hx, hb, hml, hown, hu⟩ (c_X9_pierOf l D cA B0 ad hal S (uI d0 13 0 2 (nI 0)) hI.1.1 pi) (gV_X9_126 (fun _ h => h)) (n0 := 1) rfl (by decide +kernel) rfl ⟨Nat.le_of_ble_eq_true rfl, Nat.le_of_ble_eq_true rfl⟩ (o_recv hK hW (hA.o (k := 0) rfl) (kX_0 _ _ _ _) rfl) hK hW hB hS hl.1 rfl (lv_room (Nat.le_of_ble_eq_true rfl)) ⟨Nat.zero_le _, Nat.zero_le _⟩ dX9_check_17) hS (fun r_5 d_4 q_6 H locs hW hS => ?_)
  obtain ⟨rfl, rfl⟩ := q_6
  cases o_7 : ix pi (S 7 0) with
  | false =>
    refine W.eq (g2 := F0 m 20 ls [.null]) rfl ?_
    refine lv_astore_nN (lv' := [(3, .null), (2, .int (nI (S 22 0))), (0, .ref (ad.1 0 0)), (1, .int pi)]) hx hb dX9_check_20 rfl hl (by decide) rfl (fun ls hl => ?_)
    refine lv_aload_nN hx hb dX9_check_21 rfl (lv_at hl 0 rfl) ?_
    refine lv_ifnonnullN hx hb dX9_check_22 ?_
    refine lv_bipush (v := -100) hx hb dX9_check_25 (by decide) ?_
    exact o_iret hx hb hr hlocks hW hS (⟨by simp only [aCheck, o_7, eq_self, ↓reduceIte, Bool.false_eq_true], hI.steps hT hSp⟩) dX9_check_27
  | true =>
    obtain ⟨pin, hpin, rfl⟩ := ix_t o_7 (by omega)
    refine W.eq (g2 := F0 m 20 ls [.ref (ad.1 6 pin)]) (by rw [if_pos rfl, nx_nI (by omega)]; rfl) ?_
    refine lv_astore_n (lv' := [(3, .ref (ad.1 6 pin)), (2, .int (nI (S 22 0))), (0, .ref (ad.1 0 0)), (1, .int (nI pin))]) hx hb dX9_check_20 rfl hl (by decide) rfl (fun ls hl => ?_)
    refine lv_aload_n hx hb dX9_check_21 rfl (lv_at hl 0 rfl) ?_
    refine lv_ifnonnull (tgt := 28) hx hb dX9_check_22 (by decide) ?_
    refine lv_aload_n hx hb dX9_check_28 rfl (lv_at hl 2 rfl) ?_
    refine lv_aload_n hx hb dX9_check_29 rfl (lv_at hl 2 rfl) ?_
    refine x_gi hx hb hu in_X9 hown hK hW (hA.o (k := 0) rfl) (kX_0 _ _ _ _) rfl 15 (by decide) uF_X9_78 dX9_check_30 ?_
    refine n_topi (y := nI (S 19 0)) (hI.1.1.2.1.as) ?_
    have b_8 : S 19 0 ≤ 399 := hG.f 19 (mx := 399) (by decide)
    refine o_callv (o_runV (As := [.int (nI (S 19 0))]) (rest := []) ⟨hx, hb, hml, hown, hu⟩ (c_X9_findKept l D cA B0 ad hal S (uI d0 13 0 2 (nI 0)) hI.1 (S 19 0) (by omega)) (gV_X9_160 (fun _ h => h)) (n0 := 1) rfl (by decide +kernel) rfl ⟨Nat.le_of_ble_eq_true rfl, Nat.le_of_ble_eq_true rfl⟩ (o_recv hK hW (hA.o (k := 0) rfl) (kX_0 _ _ _ _) rfl) hK hW hB hS hl.1 rfl (lv_room (Nat.le_of_ble_eq_true rfl)) ⟨Nat.zero_le _, Nat.zero_le _⟩ dX9_check_33) hS (fun dK q_10 H locs hW hS => ?_)
    obtain ⟨hq, hKP⟩ := q_10
    have hI := hI.k hq
    have hT := hT.fr hq.2.kx
    have hSp := hSp.fr hq.2.kx
    refine lv_lconst (v := 0) hx hb dX9_check_36 (by decide) ?_
    refine lv_lstore (lv' := [(4, .long 0), (3, .ref (ad.1 6 pin)), (2, .int (nI (S 22 0))), (0, .ref (ad.1 0 0)), (1, .int (nI pin))]) hx hb dX9_check_37 hl (by decide) rfl (fun ls hl => ?_)
    refine n_iconst (v := 0) hx hb dX9_check_39 (by decide) ?_
    refine lv_istore (lv' := [(6, .int (nI 0)), (4, .long 0), (3, .ref (ad.1 6 pin)), (2, .int (nI (S 22 0))), (0, .ref (ad.1 0 0)), (1, .int (nI pin))]) hx hb dX9_check_40 hl (by decide) rfl (fun ls hl => ?_)
    have lp42 : ∀ (n : Nat) (st0 : Int64) (i1 : Nat)  (H : Heap) (locs : List Loc) (ls : Array Slot), S 22 0 - i1 < n → (i1 ≤ S 22 0) → (ckL S pin (S 22 0) 0 0 = ckL S pin (S 22 0 - i1) i1 st0) → (∀ m, m < 64 → hasB st0 m = true → hasB (sFree S pin (S 19 0) (-1)) m = false) → oW D cA B0 ad dK H → va_S (oA B0) s.heap H locs → lv_has ls 9 [(0, .ref (ad.1 0 0)), (1, .int (nI pin)), (2, .int (nI (S 22 0))), (3, .ref (ad.1 6 pin)), (4, .long st0), (6, .int (nI i1))] → W p l e (oR 7 0 0) s m ([.ref (ad.1 0 0), .int (nI pin)] : List Value).toArray below meth c H locs 0 0 (MQ below (oQi D cA B0 ad (fun r d1 => r = aCheck S (nI pin) ∧ PX cA ad (upS S 22 0 0) sr d0 d1)) ([.ref (ad.1 0 0), .int (nI pin)] : List Value).toArray s 0 0 (oA B0)) (F0 m 42 ls []) := by
      intro n
      induction n with
      | zero => intro st0 i1  H locs ls hmu; exact absurd hmu (Nat.not_lt_zero _)
      | succ n ih_lp42 =>
        intro st0 i1  H locs ls hmu hi1 hck hfr hW hS hl
        refine lv_iload hx hb dX9_check_42 (lv_at hl 5 rfl) ?_
        refine lv_iload_n hx hb dX9_check_44 rfl (lv_at hl 2 rfl) ?_
        refine n_icmp_ge (tgt := 126) hx hb (by omega) (by omega) dX9_check_45 (by decide) (fun c_11 => ?_) (fun c_11 => ?_)
        · refine lv_lload hx hb dX9_check_126 (lv_at hl 4 rfl) ?_
          refine lv_aload_n hx hb dX9_check_128 rfl (lv_at hl 3 rfl) ?_
          refine x_gl hx hb hu in_X5 hown hK hW (hA.pier (by omega)) (kX_6 _ _ _ _) rfl 11 (by decide) uF_X9_163 dX9_check_129 ?_
          refine n_topl (y := sFree S pin (S 19 0) (-1)) ((hKP.1 pin (by omega)).1) ?_
          refine lv_lor hx hb dX9_check_132 ?_
          refine lv_ldc2 (v := (-1)) hx hb hown (hu _ uK_X9_186) dX9_check_133 ?_
          refine W.lcmp hx hb dX9_check_136 ?_
          refine lv_if_ne (tgt := 144) hx hb dX9_check_137 (by decide) (fun c_f => ?_) (fun c_f => ?_)
          · refine n_iconst (v := 1) hx hb dX9_check_144 (by decide) ?_
            exact o_iret hx hb hr hlocks hW hS (⟨by simp only [aCheck, ix_nI hpin (by omega), nx_nI (j := pin) (by omega), eq_self, ↓reduceIte, Bool.false_eq_true]; rw [ckL_22]; rw [hck, show S 22 0 - i1 = 0 by omega, ckL]; first | (rw [if_pos ((or_free hfr).mp (lgc c_f))]; done) | (rw [if_neg (fun q => lgcn c_f ((or_free hfr).mpr q))]; done), hI.steps hT hSp⟩) dX9_check_145
          · refine n_iconst (v := 0) hx hb dX9_check_140 (by decide) ?_
            refine lv_goto (tgt := 145) hx hb dX9_check_141 (by decide) ?_
            exact o_iret hx hb hr hlocks hW hS (⟨by simp only [aCheck, ix_nI hpin (by omega), nx_nI (j := pin) (by omega), eq_self, ↓reduceIte, Bool.false_eq_true]; rw [ckL_22]; rw [hck, show S 22 0 - i1 = 0 by omega, ckL]; first | (rw [if_pos ((or_free hfr).mp (lgc c_f))]; done) | (rw [if_neg (fun q => lgcn c_f ((or_free hfr).mpr q))]; done), hI.steps hT hSp⟩) dX9_check_145
        · refine lv_aload_n hx hb dX9_check_48 rfl (lv_at hl 0 rfl) ?_
          refine x_gr hx hb hu in_X9 hown hK hW (hA.o (k := 0) rfl) (kX_0 _ _ _ _) rfl 7 (by decide) uF_X9_44 (hA.f 7 (k := 13) (i := 0) (by decide) (hA.o (k := 13) rfl)) dX9_check_49 ?_
          refine x_gr hx hb hu in_X6 hown hK hW (hA.o (k := 13) rfl) (kX_13 _ _ _ _) rfl 0 (by decide) uF_X9_281 hA.sm dX9_check_52 ?_
          refine lv_iload hx hb dX9_check_55 (lv_at hl 5 rfl) ?_
          refine x_il hx hb hK hW (hA.o (k := 14) rfl) (kX_14 _ _ _ _) (by decide) (by omega) dX9_check_57 ?_
          refine n_topi (y := nI (S 20 i1)) ((hSp.2 i1 (by omega)).1) ?_
          have hm6 : S 20 i1 ≤ 63 := hG.a 20 i1 (n := 64) (mx := 63) (by decide) (by omega)
          refine lv_istore (lv' := [(7, .int (nI (S 20 i1))), (0, .ref (ad.1 0 0)), (1, .int (nI pin)), (2, .int (nI (S 22 0))), (3, .ref (ad.1 6 pin)), (4, .long st0), (6, .int (nI i1))]) hx hb dX9_check_58 hl (by decide) rfl (fun ls hl => ?_)
          refine lv_aload_n hx hb dX9_check_60 rfl (lv_at hl 1 rfl) ?_
          refine lv_aload_n hx hb dX9_check_61 rfl (lv_at hl 1 rfl) ?_
          refine x_gr hx hb hu in_X9 hown hK hW (hA.o (k := 0) rfl) (kX_0 _ _ _ _) rfl 7 (by decide) uF_X9_44 (hA.f 7 (k := 13) (i := 0) (by decide) (hA.o (k := 13) rfl)) dX9_check_62 ?_
          refine x_gr hx hb hu in_X6 hown hK hW (hA.o (k := 13) rfl) (kX_13 _ _ _ _) rfl 1 (by decide) uF_X9_284 hA.sl dX9_check_65 ?_
          refine lv_iload hx hb dX9_check_68 (lv_at hl 6 rfl) ?_
          refine x_il hx hb hK hW (hA.o (k := 15) rfl) (kX_15 _ _ _ _) (by decide) (by omega) dX9_check_70 ?_
          refine n_topi (y := nI (S 21 i1)) ((hSp.2 i1 (by omega)).2) ?_
          have hl3 : S 21 i1 ≤ 39 := hG.a 21 i1 (n := 64) (mx := 39) (by decide) (by omega)
          refine o_callq (o_runV (As := [.int (nI (S 21 i1))]) (rest := []) ⟨hx, hb, hml, hown, hu⟩ (c_X9_lookOf l D cA B0 ad hal S dK hI.1.1 (nI (S 21 i1))) (gV_X9_222 (fun _ h => h)) (n0 := 1) rfl (by decide +kernel) rfl ⟨Nat.le_of_ble_eq_true rfl, Nat.le_of_ble_eq_true rfl⟩ (o_recv hK hW (hA.o (k := 0) rfl) (kX_0 _ _ _ _) rfl) hK hW hB hS hl.1 rfl (lv_room (Nat.le_of_ble_eq_true rfl)) ⟨Nat.zero_le _, Nat.zero_le _⟩ dX9_check_71) hS (fun r_13 d_12 q_14 H locs hW hS => ?_)
          obtain ⟨rfl, rfl⟩ := q_14
          cases o_15 : ix (nI (S 21 i1)) (S 18 0) with
          | false =>
            refine W.eq (g2 := F0 m 74 ls [.null]) rfl ?_
            have hno : ckO S pin i1 st0 = false := decide_eq_false (fun q => by rw [ix_nI q.1 (by omega)] at o_15; cases o_15)
            refine lv_astoreN (lv' := [(8, .null), (7, .int (nI (S 20 i1))), (0, .ref (ad.1 0 0)), (1, .int (nI pin)), (2, .int (nI (S 22 0))), (3, .ref (ad.1 6 pin)), (4, .long st0), (6, .int (nI i1))]) hx hb dX9_check_74 hl (by decide) rfl (fun ls hl => ?_)
            refine lv_aloadN hx hb dX9_check_76 (lv_at hl 0 rfl) ?_
            refine lv_ifnullN (tgt := 106) hx hb dX9_check_78 (by decide) ?_
            refine lv_iconst (v := -1) hx hb dX9_check_106 (by decide) ?_
            refine lv_iload hx hb dX9_check_107 (lv_at hl 7 rfl) ?_
            refine lv_isub hx hb dX9_check_109 ?_
            exact o_iret hx hb hr hlocks hW hS (⟨by simp only [aCheck, ix_nI hpin (by omega), nx_nI (j := pin) (by omega), o_15, eq_self, ↓reduceIte, Bool.false_eq_true]; rw [ckL_22]; rw [hck, show S 22 0 - i1 = (S 22 0 - (i1 + 1)) + 1 by omega, ckL, if_neg (by rw [hno]; decide)], hI.steps hT hSp⟩) dX9_check_110
          | true =>
            have ho_15 := ix_lt o_15 (by omega)
            refine W.eq (g2 := F0 m 74 ls [.ref (ad.1 8 (S 21 i1))]) (by rw [if_pos rfl, nx_nI (by omega)]; rfl) ?_
            refine lv_astore (lv' := [(8, .ref (ad.1 8 (S 21 i1))), (7, .int (nI (S 20 i1))), (0, .ref (ad.1 0 0)), (1, .int (nI pin)), (2, .int (nI (S 22 0))), (3, .ref (ad.1 6 pin)), (4, .long st0), (6, .int (nI i1))]) hx hb dX9_check_74 hl (by decide) rfl (fun ls hl => ?_)
            refine lv_aload hx hb dX9_check_76 (lv_at hl 0 rfl) ?_
            refine lv_ifnull hx hb dX9_check_78 ?_
            refine lv_aload hx hb dX9_check_81 (lv_at hl 0 rfl) ?_
            refine lv_aload_n hx hb dX9_check_83 rfl (lv_at hl 5 rfl) ?_
            refine lv_iload hx hb dX9_check_84 (lv_at hl 1 rfl) ?_
            refine lv_aload_n hx hb dX9_check_86 rfl (lv_at hl 2 rfl) ?_
            refine x_gi hx hb hu in_X9 hown hK hW (hA.o (k := 0) rfl) (kX_0 _ _ _ _) rfl 15 (by decide) uF_X9_78 dX9_check_87 ?_
            refine n_topi (y := nI (S 19 0)) (hI.1.1.2.1.as) ?_
            have b_16 : S 19 0 ≤ 399 := hG.f 19 (mx := 399) (by decide)
            refine o_calli (o_runV (As := [.ref (ad.1 6 pin), .int (nI (S 20 i1)), .int (nI (S 19 0))]) (rest := []) ⟨hx, hb, hml, hown, hu⟩ (c_X2_barsKnown l D cA B0 ad hal S dK hI.1.1 (S 21 i1) pin (S 20 i1) (S 19 0) (sBars S (S 21 i1)) (by omega) (by omega) (by omega) (by omega) (hKP.2.2 _ (by omega))) (gV_X9_233 (fun _ h => h)) (n0 := 3) rfl (by decide +kernel) rfl ⟨Nat.le_of_ble_eq_true rfl, Nat.le_of_ble_eq_true rfl⟩ (o_recv hK hW (hA.look (by omega)) (kX_8 _ _ _ _) rfl) hK hW hB hS hl.1 rfl (lv_room (Nat.le_of_ble_eq_true rfl)) ⟨Nat.zero_le _, Nat.zero_le _⟩ dX9_check_90) hS (fun r_18 d_17 q_19 H locs hW hS => ?_)
            obtain ⟨rfl, rfl⟩ := q_19
            refine lv_if_eq (tgt := 106) hx hb dX9_check_93 (by decide) (fun c_b => ?_) (fun c_b => ?_)
            · have hno : ckO S pin i1 st0 = false := decide_eq_false (fun q => of_decide_eq_false (bI_z c_b) ⟨q.2.1, q.2.2.1, q.2.2.2.1⟩)
              refine lv_iconst (v := -1) hx hb dX9_check_106 (by decide) ?_
              refine lv_iload hx hb dX9_check_107 (lv_at hl 7 rfl) ?_
              refine lv_isub hx hb dX9_check_109 ?_
              exact o_iret hx hb hr hlocks hW hS (⟨by simp only [aCheck, ix_nI hpin (by omega), nx_nI (j := pin) (by omega), o_15, eq_self, ↓reduceIte, Bool.false_eq_true]; rw [ckL_22]; rw [hck, show S 22 0 - i1 = (S 22 0 - (i1 + 1)) + 1 by omega, ckL, if_neg (by rw [hno]; decide)], hI.steps hT hSp⟩) dX9_check_110
            · have hbk := of_decide_eq_true (bI_n c_b)
              refine lv_lload hx hb dX9_check_96 (lv_at hl 6 rfl) ?_
              refine lv_iload hx hb dX9_check_98 (lv_at hl 1 rfl) ?_
              refine o_calli (o_runS (As := [.long st0, .int (nI (S 20 i1))]) (rest := []) ⟨hx, hb, hml, hown, hu⟩ (c_X9_holds l D cA B0 ad hal dK st0 (S 20 i1) (by omega)) (gS_X9_167 (fun _ h => h)) (n0 := 2) rfl (by decide +kernel) rfl ⟨Nat.le_of_ble_eq_true rfl, Nat.le_of_ble_eq_true rfl⟩ hK hW hB hS hl.1 rfl (lv_room (Nat.le_of_ble_eq_true rfl)) ⟨Nat.zero_le _, Nat.zero_le _⟩ dX9_check_100) hS (fun r_21 d_20 q_22 H locs hW hS => ?_)
              obtain ⟨rfl, rfl⟩ := q_22
              refine lv_if_eq (tgt := 111) hx hb dX9_check_103 (by decide) (fun c_e => ?_) (fun c_e => ?_)
              · have hok : ckO S pin i1 st0 = true := decide_eq_true ⟨by omega, hbk.1, hbk.2.1, hbk.2.2, bI_z c_e⟩
                have hst : ckL S pin (S 22 0 - i1) i1 st0 = ckL S pin (S 22 0 - (i1 + 1)) (i1 + 1) (st0 ||| lsl 1 (S 20 i1)) := by rw [show S 22 0 - i1 = (S 22 0 - (i1 + 1)) + 1 by omega, ckL, if_pos hok]
                have hfr2 : ∀ m, m < 64 → hasB (st0 ||| lsl 1 (S 20 i1)) m = true → hasB (sFree S pin (S 19 0) (-1)) m = false := or_one hfr (by omega) (free_has (by omega) (by omega) hb18 hbk.1 hbk.2.1 hbk.2.2)
                refine lv_lload hx hb dX9_check_111 (lv_at hl 6 rfl) ?_
                refine lv_lconst (v := 1) hx hb dX9_check_113 (by decide) ?_
                refine lv_iload hx hb dX9_check_114 (lv_at hl 1 rfl) ?_
                refine lv_lshl (v := lsl 1 (S 20 i1)) hx hb dX9_check_116 rfl ?_
                refine lv_lor hx hb dX9_check_117 ?_
                refine lv_lstore (lv' := [(4, .long (st0 ||| (lsl 1 (S 20 i1)))), (8, .ref (ad.1 8 (S 21 i1))), (7, .int (nI (S 20 i1))), (0, .ref (ad.1 0 0)), (1, .int (nI pin)), (2, .int (nI (S 22 0))), (3, .ref (ad.1 6 pin)), (6, .int (nI i1))]) hx hb dX9_check_118 hl (by decide) rfl (fun ls hl => ?_)
                refine n_iinc (q := 1) (lv' := [(6, .int (nI (i1 + 1))), (4, .long (st0 ||| (lsl 1 (S 20 i1)))), (8, .ref (ad.1 8 (S 21 i1))), (7, .int (nI (S 20 i1))), (0, .ref (ad.1 0 0)), (1, .int (nI pin)), (2, .int (nI (S 22 0))), (3, .ref (ad.1 6 pin))]) hx hb dX9_check_120 hl (k := 7) rfl (by decide) (by decide) rfl (fun ls hl => ?_)
                refine lv_goto (tgt := 42) hx hb dX9_check_123 (by decide) ?_
                exact ih_lp42 (st0 ||| (lsl 1 (S 20 i1))) (i1 + 1) _ _ ls (by omega) (by omega) (by rw [hck, hst]) hfr2 hW hS (lv_sub hl [4, 5, 6, 7, 1, 0] rfl)
              · have hno : ckO S pin i1 st0 = false := decide_eq_false (fun q => by have z := bI_n c_e; rw [q.2.2.2.2] at z; cases z)
                refine lv_iconst (v := -1) hx hb dX9_check_106 (by decide) ?_
                refine lv_iload hx hb dX9_check_107 (lv_at hl 7 rfl) ?_
                refine lv_isub hx hb dX9_check_109 ?_
                exact o_iret hx hb hr hlocks hW hS (⟨by simp only [aCheck, ix_nI hpin (by omega), nx_nI (j := pin) (by omega), o_15, eq_self, ↓reduceIte, Bool.false_eq_true]; rw [ckL_22]; rw [hck, show S 22 0 - i1 = (S 22 0 - (i1 + 1)) + 1 by omega, ckL, if_neg (by rw [hno]; decide)], hI.steps hT hSp⟩) dX9_check_110
    exact lp42 (S 22 0 + 1) 0 0 _ _ ls (by omega) (by omega) rfl (fun m hm h => by rw [hasB_zero m hm] at h; cases h) hW hS (lv_sub hl [4, 5, 3, 2, 1, 0] rfl)
