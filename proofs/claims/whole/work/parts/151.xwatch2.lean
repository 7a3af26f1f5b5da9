set_option maxHeartbeats 400000 in
set_option maxRecDepth 100000 in
theorem c_X8_clear (l : Launch) (D : va_G) (cA : Nat → ClassId) (B0 : Nat) (ad : kA) (hal : mAl ad) (S : sS) (d0 : kD) (hX : XB cA ad S d0) : oM l yX8_clear wX8_clear 1 0 0 D cA B0 ad d0 ([.ref (ad.1 22 0)] : List Value) (oQv D cA B0 ad (fun d1 => uI d0 22 0 2 (nI 0) = d1)) := by
  refine o_ofW (cc := cX8_clear) (maxL := 1) (ret := none) (by decide) rfl (Nat.le_of_ble_eq_true rfl) ?_
  intro p e s m below meth c hx hb hr hml hts hown hlocks hnm hK hW hB hS ls hl
  have hu : ∀ w ∈ UW, w.before _ s = true := fun w h => hts w (uw_c w h)
  have hl : lv_has ls 1 [(0, .ref (ad.1 22 0))] := hl
  have hA := hX.1
  have hG := hX.2.2
  have hb7 : S 7 0 ≤ 8 := hG.f 7 (mx := 8) (by decide)
  have hb11 : S 11 0 ≤ 20 := hG.f 11 (mx := 20) (by decide)
  have hb18 : S 18 0 ≤ 40 := hG.f 18 (mx := 40) (by decide)
  refine lv_aload_n hx hb dX8_clear_0 rfl (lv_at hl 0 rfl) ?_
  refine n_iconst (v := 0) hx hb dX8_clear_1 (by decide) ?_
  refine x_pi hx hb hu in_X8 tyX8 tyX8_ok nmX8 hown hK hW hS (hA.o (k := 22) rfl) (kI_22 _ _ _ _) rfl 2 (ty := .int) (by decide +kernel) uF_X8_18 ⟨rfl, rfl⟩ dX8_clear_2 (fun H locs hW hS => ?_)
  exact o_vret hx hb hr hlocks hW hS (rfl) dX8_clear_5

set_option maxHeartbeats 400000 in
set_option maxRecDepth 100000 in
theorem c_X8_addDay (l : Launch) (D : va_G) (cA : Nat → ClassId) (B0 : Nat) (ad : kA) (hal : mAl ad) (S : sS) (d0 : kD) (hX : XB cA ad S d0) (c0 a b : Nat) (hc : c0 < 60) (h1 : d0.1 22 0 2 = nI c0) : oM l yX8_addDay wX8_addDay 1 0 0 D cA B0 ad d0 ([.ref (ad.1 22 0), .int (nI a), .int (nI b)] : List Value) (oQv D cA B0 ad (fun d1 => uI (uI (uI d0 23 0 c0 (nI a)) 24 0 c0 (nI b)) 22 0 2 (nI (c0 + 1)) = d1)) := by
  refine o_ofW (cc := cX8_addDay) (maxL := 3) (ret := none) (by decide) rfl (Nat.le_of_ble_eq_true rfl) ?_
  intro p e s m below meth c hx hb hr hml hts hown hlocks hnm hK hW hB hS ls hl
  have hu : ∀ w ∈ UW, w.before _ s = true := fun w h => hts w (uw_c w h)
  have hl : lv_has ls 3 [(0, .ref (ad.1 22 0)), (1, .int (nI a)), (2, .int (nI b))] := hl
  have hA := hX.1
  have hG := hX.2.2
  have hb7 : S 7 0 ≤ 8 := hG.f 7 (mx := 8) (by decide)
  have hb11 : S 11 0 ≤ 20 := hG.f 11 (mx := 20) (by decide)
  have hb18 : S 18 0 ≤ 40 := hG.f 18 (mx := 40) (by decide)
  refine lv_aload_n hx hb dX8_addDay_0 rfl (lv_at hl 0 rfl) ?_
  refine x_gi hx hb hu in_X8 hown hK hW (hA.o (k := 22) rfl) (kX_22 _ _ _ _) rfl 2 (by decide) uF_X8_18 dX8_addDay_1 ?_
  refine n_topi (y := nI c0) (h1) ?_
  refine n_bipush (v := 60) hx hb dX8_addDay_4 (by decide) ?_
  refine n_icmp_ge (tgt := 39) hx hb (by omega) (by omega) dX8_addDay_6 (by decide) (fun c_1 => ?_) (fun c_1 => ?_)
  · exfalso; omega
  · refine lv_aload_n hx hb dX8_addDay_9 rfl (lv_at hl 0 rfl) ?_
    refine x_gr hx hb hu in_X8 hown hK hW (hA.o (k := 22) rfl) (kX_22 _ _ _ _) rfl 0 (by decide) uF_X8_9 (hA.wa 0 (k := 23) (by decide)) dX8_addDay_10 ?_
    refine lv_aload_n hx hb dX8_addDay_13 rfl (lv_at hl 0 rfl) ?_
    refine x_gi hx hb hu in_X8 hown hK hW (hA.o (k := 22) rfl) (kX_22 _ _ _ _) rfl 2 (by decide) uF_X8_18 dX8_addDay_14 ?_
    refine n_topi (y := nI c0) (h1) ?_
    refine lv_iload_n hx hb dX8_addDay_17 rfl (lv_at hl 1 rfl) ?_
    refine x_is hx hb hK hW hS (hA.o (k := 23) rfl) (kI_23 _ _ _ _) (by decide) (by omega) dX8_addDay_18 (fun H locs hW hS => ?_)
    refine lv_aload_n hx hb dX8_addDay_19 rfl (lv_at hl 0 rfl) ?_
    refine x_gr hx hb hu in_X8 hown hK hW (hA.o (k := 22) rfl) (kX_22 _ _ _ _) rfl 1 (by decide) uF_X8_15 (hA.wa 1 (k := 24) (by decide)) dX8_addDay_20 ?_
    refine lv_aload_n hx hb dX8_addDay_23 rfl (lv_at hl 0 rfl) ?_
    refine x_gi hx hb hu in_X8 hown hK hW (hA.o (k := 22) rfl) (kX_22 _ _ _ _) rfl 2 (by decide) uF_X8_18 dX8_addDay_24 ?_
    refine n_topi (y := nI c0) (h1) ?_
    refine lv_iload_n hx hb dX8_addDay_27 rfl (lv_at hl 2 rfl) ?_
    refine x_is hx hb hK hW hS (hA.o (k := 24) rfl) (kI_24 _ _ _ _) (by decide) (by omega) dX8_addDay_28 (fun H locs hW hS => ?_)
    refine lv_aload_n hx hb dX8_addDay_29 rfl (lv_at hl 0 rfl) ?_
    refine lv_dup hx hb dX8_addDay_30 rfl ?_
    refine x_gi hx hb hu in_X8 hown hK hW (hA.o (k := 22) rfl) (kX_22 _ _ _ _) rfl 2 (by decide) uF_X8_18 dX8_addDay_31 ?_
    refine n_topi (y := nI c0) (h1) ?_
    refine n_iconst (v := 1) hx hb dX8_addDay_34 (by decide) ?_
    refine n_iadd hx hb dX8_addDay_35 ?_
    refine x_pi hx hb hu in_X8 tyX8 tyX8_ok nmX8 hown hK hW hS (hA.o (k := 22) rfl) (kI_22 _ _ _ _) rfl 2 (ty := .int) (by decide +kernel) uF_X8_18 ⟨rfl, rfl⟩ dX8_addDay_36 (fun H locs hW hS => ?_)
    exact o_vret hx hb hr hlocks hW hS (rfl) dX8_addDay_39

set_option maxHeartbeats 400000 in
set_option maxRecDepth 100000 in
theorem c_X8_shutDays (l : Launch) (D : va_G) (cA : Nat → ClassId) (B0 : Nat) (ad : kA) (hal : mAl ad) (S : sS) (d0 : kD) (hX : XB cA ad S d0) (sh : Nat) (bb : Nat) (aa : Nat) (nn : Nat) (hWt : WT S bb aa nn d0) (hn : nn ≤ 60) (hsh : sh ≤ 1000) : oM l yX8_shutDays wX8_shutDays 1 0 0 D cA B0 ad d0 ([.ref (ad.1 22 0), .int (nI sh)] : List Value) (oQi D cA B0 ad (fun r d1 => r = nI ((gdL S bb sh aa nn).1) ∧ d0 = d1)) := by
  refine o_ofW (cc := cX8_shutDays) (maxL := 4) (ret := some .int) (by decide) rfl (Nat.le_of_ble_eq_true rfl) ?_
  intro p e s m below meth c hx hb hr hml hts hown hlocks hnm hK hW hB hS ls hl
  have hu : ∀ w ∈ UW, w.before _ s = true := fun w h => hts w (uw_c w h)
  have hl : lv_has ls 4 [(0, .ref (ad.1 22 0)), (1, .int (nI sh))] := hl
  have hA := hX.1
  have hG := hX.2.2
  have hb7 : S 7 0 ≤ 8 := hG.f 7 (mx := 8) (by decide)
  have hb11 : S 11 0 ≤ 20 := hG.f 11 (mx := 20) (by decide)
  have hb18 : S 18 0 ≤ 40 := hG.f 18 (mx := 40) (by decide)
  refine n_iconst (v := 0) hx hb dX8_shutDays_0 (by decide) ?_
  refine lv_istore_n (lv' := [(2, .int (nI 0)), (0, .ref (ad.1 22 0)), (1, .int (nI sh))]) hx hb dX8_shutDays_1 rfl hl (by decide) rfl (fun ls hl => ?_)
  refine n_iconst (v := 0) hx hb dX8_shutDays_2 (by decide) ?_
  refine lv_istore_n (lv' := [(3, .int (nI 0)), (2, .int (nI 0)), (0, .ref (ad.1 22 0)), (1, .int (nI sh))]) hx hb dX8_shutDays_3 rfl hl (by decide) rfl (fun ls hl => ?_)
  have lp4 : ∀ (n : Nat) (n0 : Nat) (k : Nat)  (H : Heap) (locs : List Loc) (ls : Array Slot), nn - k < n → (k ≤ nn) → (n0 = (gdL S bb sh aa k).1) → oW D cA B0 ad d0 H → va_S (oA B0) s.heap H locs → lv_has ls 4 [(0, .ref (ad.1 22 0)), (1, .int (nI sh)), (2, .int (nI n0)), (3, .int (nI k))] → W p l e (oR 1 0 0) s m ([.ref (ad.1 22 0), .int (nI sh)] : List Value).toArray below meth c H locs 0 0 (MQ below (oQi D cA B0 ad (fun r d1 => r = nI ((gdL S bb sh aa nn).1) ∧ d0 = d1)) ([.ref (ad.1 22 0), .int (nI sh)] : List Value).toArray s 0 0 (oA B0)) (F0 m 4 ls []) := by
    intro n
    induction n with
    | zero => intro n0 k  H locs ls hmu; exact absurd hmu (Nat.not_lt_zero _)
    | succ n ih_lp4 =>
      intro n0 k  H locs ls hmu hk hn0 hW hS hl
      have hgl := gdL_le S bb sh aa k
      refine lv_iload_n hx hb dX8_shutDays_4 rfl (lv_at hl 3 rfl) ?_
      refine lv_aload_n hx hb dX8_shutDays_5 rfl (lv_at hl 0 rfl) ?_
      refine x_gi hx hb hu in_X8 hown hK hW (hA.o (k := 22) rfl) (kX_22 _ _ _ _) rfl 2 (by decide) uF_X8_18 dX8_shutDays_6 ?_
      refine n_topi (y := nI nn) (hWt.1) ?_
      refine n_icmp_ge (tgt := 31) hx hb (by omega) (by omega) dX8_shutDays_9 (by decide) (fun c_1 => ?_) (fun c_1 => ?_)
      · refine lv_iload_n hx hb dX8_shutDays_31 rfl (lv_at hl 2 rfl) ?_
        exact o_iret hx hb hr hlocks hW hS (⟨by rw [hn0, show k = nn by omega], rfl⟩) dX8_shutDays_32
      · refine lv_iload_n hx hb dX8_shutDays_12 rfl (lv_at hl 1 rfl) ?_
        refine lv_aload_n hx hb dX8_shutDays_13 rfl (lv_at hl 0 rfl) ?_
        refine x_gr hx hb hu in_X8 hown hK hW (hA.o (k := 22) rfl) (kX_22 _ _ _ _) rfl 0 (by decide) uF_X8_9 (hA.wa 0 (k := 23) (by decide)) dX8_shutDays_14 ?_
        refine lv_iload_n hx hb dX8_shutDays_17 rfl (lv_at hl 3 rfl) ?_
        refine x_il hx hb hK hW (hA.o (k := 23) rfl) (kX_23 _ _ _ _) (by decide) (by omega) dX8_shutDays_18 ?_
        refine n_topi (y := nI (opL S bb (aa + k) (S 7 0))) ((hWt.2 k (by omega)).1) ?_
        have hol := opL_le S bb (aa + k) (S 7 0)
        refine n_icmp_ge (tgt := 25) hx hb (by omega) (by omega) dX8_shutDays_19 (by decide) (fun c_a => ?_) (fun c_a => ?_)
        · have hst : (gdL S bb sh aa (k + 1)).1 = (gdL S bb sh aa k).1 := by rw [gd_1 hsh, if_neg (by omega)]
          refine n_iinc (q := 1) (lv' := [(3, .int (nI (k + 1))), (0, .ref (ad.1 22 0)), (1, .int (nI sh)), (2, .int (nI n0))]) hx hb dX8_shutDays_25 hl (k := 3) rfl (by decide) (by decide) rfl (fun ls hl => ?_)
          refine lv_goto (tgt := 4) hx hb dX8_shutDays_28 (by decide) ?_
          exact ih_lp4 n0 (k + 1) _ _ ls (by omega) (by omega) (by rw [hst, ← hn0]) hW hS (lv_sub hl [1, 2, 3, 0] rfl)
        · have hst : (gdL S bb sh aa (k + 1)).1 = (gdL S bb sh aa k).1 + 1 := by rw [gd_1 hsh, if_pos (by omega)]
          refine n_iinc (q := 1) (lv' := [(2, .int (nI (n0 + 1))), (0, .ref (ad.1 22 0)), (1, .int (nI sh)), (3, .int (nI k))]) hx hb dX8_shutDays_22 hl (k := 2) rfl (by decide) (by decide) rfl (fun ls hl => ?_)
          refine n_iinc (q := 1) (lv' := [(3, .int (nI (k + 1))), (2, .int (nI (n0 + 1))), (0, .ref (ad.1 22 0)), (1, .int (nI sh))]) hx hb dX8_shutDays_25 hl (k := 3) rfl (by decide) (by decide) rfl (fun ls hl => ?_)
          refine lv_goto (tgt := 4) hx hb dX8_shutDays_28 (by decide) ?_
          exact ih_lp4 (n0 + 1) (k + 1) _ _ ls (by omega) (by omega) (by rw [hst, ← hn0]) hW hS (lv_sub hl [2, 3, 1, 0] rfl)
  exact lp4 (nn + 1) 0 0 _ _ ls (by omega) (by omega) rfl hW hS (lv_sub hl [2, 3, 1, 0] rfl)

set_option maxHeartbeats 400000 in
set_option maxRecDepth 100000 in
theorem c_X8_lateDays (l : Launch) (D : va_G) (cA : Nat → ClassId) (B0 : Nat) (ad : kA) (hal : mAl ad) (S : sS) (d0 : kD) (hX : XB cA ad S d0) (sh : Nat) (bb : Nat) (aa : Nat) (nn : Nat) (hWt : WT S bb aa nn d0) (hn : nn ≤ 60) (hsh : sh ≤ 1000) : oM l yX8_lateDays wX8_lateDays 1 0 0 D cA B0 ad d0 ([.ref (ad.1 22 0), .int (nI sh)] : List Value) (oQi D cA B0 ad (fun r d1 => r = nI ((gdL S bb sh aa nn).2.1) ∧ d0 = d1)) := by
  refine o_ofW (cc := cX8_lateDays) (maxL := 4) (ret := some .int) (by decide) rfl (Nat.le_of_ble_eq_true rfl) ?_
  intro p e s m below meth c hx hb hr hml hts hown hlocks hnm hK hW hB hS ls hl
  have hu : ∀ w ∈ UW, w.before _ s = true := fun w h => hts w (uw_c w h)
  have hl : lv_has ls 4 [(0, .ref (ad.1 22 0)), (1, .int (nI sh))] := hl
  have hA := hX.1
  have hG := hX.2.2
  have hb7 : S 7 0 ≤ 8 := hG.f 7 (mx := 8) (by decide)
  have hb11 : S 11 0 ≤ 20 := hG.f 11 (mx := 20) (by decide)
  have hb18 : S 18 0 ≤ 40 := hG.f 18 (mx := 40) (by decide)
  refine n_iconst (v := 0) hx hb dX8_lateDays_0 (by decide) ?_
  refine lv_istore_n (lv' := [(2, .int (nI 0)), (0, .ref (ad.1 22 0)), (1, .int (nI sh))]) hx hb dX8_lateDays_1 rfl hl (by decide) rfl (fun ls hl => ?_)
  refine n_iconst (v := 0) hx hb dX8_lateDays_2 (by decide) ?_
  refine lv_istore_n (lv' := [(3, .int (nI 0)), (2, .int (nI 0)), (0, .ref (ad.1 22 0)), (1, .int (nI sh))]) hx hb dX8_lateDays_3 rfl hl (by decide) rfl (fun ls hl => ?_)
  have lp4 : ∀ (n : Nat) (n0 : Nat) (k : Nat)  (H : Heap) (locs : List Loc) (ls : Array Slot), nn - k < n → (k ≤ nn) → (n0 = (gdL S bb sh aa k).2.1) → oW D cA B0 ad d0 H → va_S (oA B0) s.heap H locs → lv_has ls 4 [(0, .ref (ad.1 22 0)), (1, .int (nI sh)), (2, .int (nI n0)), (3, .int (nI k))] → W p l e (oR 1 0 0) s m ([.ref (ad.1 22 0), .int (nI sh)] : List Value).toArray below meth c H locs 0 0 (MQ below (oQi D cA B0 ad (fun r d1 => r = nI ((gdL S bb sh aa nn).2.1) ∧ d0 = d1)) ([.ref (ad.1 22 0), .int (nI sh)] : List Value).toArray s 0 0 (oA B0)) (F0 m 4 ls []) := by
    intro n
    induction n with
    | zero => intro n0 k  H locs ls hmu; exact absurd hmu (Nat.not_lt_zero _)
    | succ n ih_lp4 =>
      intro n0 k  H locs ls hmu hk hn0 hW hS hl
      have hgl := gdL_le S bb sh aa k
      refine lv_iload_n hx hb dX8_lateDays_4 rfl (lv_at hl 3 rfl) ?_
      refine lv_aload_n hx hb dX8_lateDays_5 rfl (lv_at hl 0 rfl) ?_
      refine x_gi hx hb hu in_X8 hown hK hW (hA.o (k := 22) rfl) (kX_22 _ _ _ _) rfl 2 (by decide) uF_X8_18 dX8_lateDays_6 ?_
      refine n_topi (y := nI nn) (hWt.1) ?_
      refine n_icmp_ge (tgt := 41) hx hb (by omega) (by omega) dX8_lateDays_9 (by decide) (fun c_1 => ?_) (fun c_1 => ?_)
      · refine lv_iload_n hx hb dX8_lateDays_41 rfl (lv_at hl 2 rfl) ?_
        exact o_iret hx hb hr hlocks hW hS (⟨by rw [hn0, show k = nn by omega], rfl⟩) dX8_lateDays_42
      · refine lv_iload_n hx hb dX8_lateDays_12 rfl (lv_at hl 1 rfl) ?_
        refine lv_aload_n hx hb dX8_lateDays_13 rfl (lv_at hl 0 rfl) ?_
        refine x_gr hx hb hu in_X8 hown hK hW (hA.o (k := 22) rfl) (kX_22 _ _ _ _) rfl 0 (by decide) uF_X8_9 (hA.wa 0 (k := 23) (by decide)) dX8_lateDays_14 ?_
        refine lv_iload_n hx hb dX8_lateDays_17 rfl (lv_at hl 3 rfl) ?_
        refine x_il hx hb hK hW (hA.o (k := 23) rfl) (kX_23 _ _ _ _) (by decide) (by omega) dX8_lateDays_18 ?_
        refine n_topi (y := nI (opL S bb (aa + k) (S 7 0))) ((hWt.2 k (by omega)).1) ?_
        have hol := opL_le S bb (aa + k) (S 7 0)
        refine n_icmp_lt (tgt := 35) hx hb (by omega) (by omega) dX8_lateDays_19 (by decide) (fun c_a => ?_) (fun c_a => ?_)
        · have hst : (gdL S bb sh aa (k + 1)).2.1 = (gdL S bb sh aa k).2.1 := by rw [gd_2 hsh, if_neg (fun q => q.1 (by omega))]
          refine n_iinc (q := 1) (lv' := [(3, .int (nI (k + 1))), (0, .ref (ad.1 22 0)), (1, .int (nI sh)), (2, .int (nI n0))]) hx hb dX8_lateDays_35 hl (k := 3) rfl (by decide) (by decide) rfl (fun ls hl => ?_)
          refine lv_goto (tgt := 4) hx hb dX8_lateDays_38 (by decide) ?_
          exact ih_lp4 n0 (k + 1) _ _ ls (by omega) (by omega) (by rw [hst, ← hn0]) hW hS (lv_sub hl [1, 2, 3, 0] rfl)
        · refine lv_aload_n hx hb dX8_lateDays_22 rfl (lv_at hl 0 rfl) ?_
          refine x_gr hx hb hu in_X8 hown hK hW (hA.o (k := 22) rfl) (kX_22 _ _ _ _) rfl 1 (by decide) uF_X8_15 (hA.wa 1 (k := 24) (by decide)) dX8_lateDays_23 ?_
          refine lv_iload_n hx hb dX8_lateDays_26 rfl (lv_at hl 3 rfl) ?_
          refine x_il hx hb hK hW (hA.o (k := 24) rfl) (kX_24 _ _ _ _) (by decide) (by omega) dX8_lateDays_27 ?_
          refine n_topi (y := nI (twL S bb (aa + k) (S 7 0))) ((hWt.2 k (by omega)).2) ?_
          have htl := twL_le S bb (aa + k) (S 7 0)
          refine n_iconst (v := 2) hx hb dX8_lateDays_28 (by decide) ?_
          refine n_icmp_ne (tgt := 35) hx hb (by omega) (by omega) dX8_lateDays_29 (by decide) (fun c_b => ?_) (fun c_b => ?_)
          · have hst : (gdL S bb sh aa (k + 1)).2.1 = (gdL S bb sh aa k).2.1 := by rw [gd_2 hsh, if_neg (fun q => c_b q.2)]
            refine n_iinc (q := 1) (lv' := [(3, .int (nI (k + 1))), (0, .ref (ad.1 22 0)), (1, .int (nI sh)), (2, .int (nI n0))]) hx hb dX8_lateDays_35 hl (k := 3) rfl (by decide) (by decide) rfl (fun ls hl => ?_)
            refine lv_goto (tgt := 4) hx hb dX8_lateDays_38 (by decide) ?_
            exact ih_lp4 n0 (k + 1) _ _ ls (by omega) (by omega) (by rw [hst, ← hn0]) hW hS (lv_sub hl [1, 2, 3, 0] rfl)
          · have hst : (gdL S bb sh aa (k + 1)).2.1 = (gdL S bb sh aa k).2.1 + 1 := by rw [gd_2 hsh, if_pos ⟨by omega, by omega⟩]
            refine n_iinc (q := 1) (lv' := [(2, .int (nI (n0 + 1))), (0, .ref (ad.1 22 0)), (1, .int (nI sh)), (3, .int (nI k))]) hx hb dX8_lateDays_32 hl (k := 2) rfl (by decide) (by decide) rfl (fun ls hl => ?_)
            refine n_iinc (q := 1) (lv' := [(3, .int (nI (k + 1))), (2, .int (nI (n0 + 1))), (0, .ref (ad.1 22 0)), (1, .int (nI sh))]) hx hb dX8_lateDays_35 hl (k := 3) rfl (by decide) (by decide) rfl (fun ls hl => ?_)
            refine lv_goto (tgt := 4) hx hb dX8_lateDays_38 (by decide) ?_
            exact ih_lp4 (n0 + 1) (k + 1) _ _ ls (by omega) (by omega) (by rw [hst, ← hn0]) hW hS (lv_sub hl [2, 3, 1, 0] rfl)
  exact lp4 (nn + 1) 0 0 _ _ ls (by omega) (by omega) rfl hW hS (lv_sub hl [2, 3, 1, 0] rfl)

set_option maxHeartbeats 400000 in
set_option maxRecDepth 100000 in
theorem c_X8_falseDays (l : Launch) (D : va_G) (cA : Nat → ClassId) (B0 : Nat) (ad : kA) (hal : mAl ad) (S : sS) (d0 : kD) (hX : XB cA ad S d0) (sh : Nat) (bb : Nat) (aa : Nat) (nn : Nat) (hWt : WT S bb aa nn d0) (hn : nn ≤ 60) (hsh : sh ≤ 1000) : oM l yX8_falseDays wX8_falseDays 1 0 0 D cA B0 ad d0 ([.ref (ad.1 22 0), .int (nI sh)] : List Value) (oQi D cA B0 ad (fun r d1 => r = nI ((gdL S bb sh aa nn).2.2) ∧ d0 = d1)) := by
  refine o_ofW (cc := cX8_falseDays) (maxL := 4) (ret := some .int) (by decide) rfl (Nat.le_of_ble_eq_true rfl) ?_
  intro p e s m below meth c hx hb hr hml hts hown hlocks hnm hK hW hB hS ls hl
  have hu : ∀ w ∈ UW, w.before _ s = true := fun w h => hts w (uw_c w h)
  have hl : lv_has ls 4 [(0, .ref (ad.1 22 0)), (1, .int (nI sh))] := hl
  have hA := hX.1
  have hG := hX.2.2
  have hb7 : S 7 0 ≤ 8 := hG.f 7 (mx := 8) (by decide)
  have hb11 : S 11 0 ≤ 20 := hG.f 11 (mx := 20) (by decide)
  have hb18 : S 18 0 ≤ 40 := hG.f 18 (mx := 40) (by decide)
  refine n_iconst (v := 0) hx hb dX8_falseDays_0 (by decide) ?_
  refine lv_istore_n (lv' := [(2, .int (nI 0)), (0, .ref (ad.1 22 0)), (1, .int (nI sh))]) hx hb dX8_falseDays_1 rfl hl (by decide) rfl (fun ls hl => ?_)
  refine n_iconst (v := 0) hx hb dX8_falseDays_2 (by decide) ?_
  refine lv_istore_n (lv' := [(3, .int (nI 0)), (2, .int (nI 0)), (0, .ref (ad.1 22 0)), (1, .int (nI sh))]) hx hb dX8_falseDays_3 rfl hl (by decide) rfl (fun ls hl => ?_)
  have lp4 : ∀ (n : Nat) (n0 : Nat) (k : Nat)  (H : Heap) (locs : List Loc) (ls : Array Slot), nn - k < n → (k ≤ nn) → (n0 = (gdL S bb sh aa k).2.2) → oW D cA B0 ad d0 H → va_S (oA B0) s.heap H locs → lv_has ls 4 [(0, .ref (ad.1 22 0)), (1, .int (nI sh)), (2, .int (nI n0)), (3, .int (nI k))] → W p l e (oR 1 0 0) s m ([.ref (ad.1 22 0), .int (nI sh)] : List Value).toArray below meth c H locs 0 0 (MQ below (oQi D cA B0 ad (fun r d1 => r = nI ((gdL S bb sh aa nn).2.2) ∧ d0 = d1)) ([.ref (ad.1 22 0), .int (nI sh)] : List Value).toArray s 0 0 (oA B0)) (F0 m 4 ls []) := by
    intro n
    induction n with
    | zero => intro n0 k  H locs ls hmu; exact absurd hmu (Nat.not_lt_zero _)
    | succ n ih_lp4 =>
      intro n0 k  H locs ls hmu hk hn0 hW hS hl
      have hgl := gdL_le S bb sh aa k
      refine lv_iload_n hx hb dX8_falseDays_4 rfl (lv_at hl 3 rfl) ?_
      refine lv_aload_n hx hb dX8_falseDays_5 rfl (lv_at hl 0 rfl) ?_
      refine x_gi hx hb hu in_X8 hown hK hW (hA.o (k := 22) rfl) (kX_22 _ _ _ _) rfl 2 (by decide) uF_X8_18 dX8_falseDays_6 ?_
      refine n_topi (y := nI nn) (hWt.1) ?_
      refine n_icmp_ge (tgt := 40) hx hb (by omega) (by omega) dX8_falseDays_9 (by decide) (fun c_1 => ?_) (fun c_1 => ?_)
      · refine lv_iload_n hx hb dX8_falseDays_40 rfl (lv_at hl 2 rfl) ?_
        exact o_iret hx hb hr hlocks hW hS (⟨by rw [hn0, show k = nn by omega], rfl⟩) dX8_falseDays_41
      · refine lv_iload_n hx hb dX8_falseDays_12 rfl (lv_at hl 1 rfl) ?_
        refine lv_aload_n hx hb dX8_falseDays_13 rfl (lv_at hl 0 rfl) ?_
        refine x_gr hx hb hu in_X8 hown hK hW (hA.o (k := 22) rfl) (kX_22 _ _ _ _) rfl 0 (by decide) uF_X8_9 (hA.wa 0 (k := 23) (by decide)) dX8_falseDays_14 ?_
        refine lv_iload_n hx hb dX8_falseDays_17 rfl (lv_at hl 3 rfl) ?_
        refine x_il hx hb hK hW (hA.o (k := 23) rfl) (kX_23 _ _ _ _) (by decide) (by omega) dX8_falseDays_18 ?_
        refine n_topi (y := nI (opL S bb (aa + k) (S 7 0))) ((hWt.2 k (by omega)).1) ?_
        have hol := opL_le S bb (aa + k) (S 7 0)
        refine n_icmp_ge (tgt := 34) hx hb (by omega) (by omega) dX8_falseDays_19 (by decide) (fun c_a => ?_) (fun c_a => ?_)
        · have hst : (gdL S bb sh aa (k + 1)).2.2 = (gdL S bb sh aa k).2.2 := by rw [gd_3 hsh, if_neg (fun q => absurd q.1 (by omega))]
          refine n_iinc (q := 1) (lv' := [(3, .int (nI (k + 1))), (0, .ref (ad.1 22 0)), (1, .int (nI sh)), (2, .int (nI n0))]) hx hb dX8_falseDays_34 hl (k := 3) rfl (by decide) (by decide) rfl (fun ls hl => ?_)
          refine lv_goto (tgt := 4) hx hb dX8_falseDays_37 (by decide) ?_
          exact ih_lp4 n0 (k + 1) _ _ ls (by omega) (by omega) (by rw [hst, ← hn0]) hW hS (lv_sub hl [1, 2, 3, 0] rfl)
        · refine lv_aload_n hx hb dX8_falseDays_22 rfl (lv_at hl 0 rfl) ?_
          refine x_gr hx hb hu in_X8 hown hK hW (hA.o (k := 22) rfl) (kX_22 _ _ _ _) rfl 1 (by decide) uF_X8_15 (hA.wa 1 (k := 24) (by decide)) dX8_falseDays_23 ?_
          refine lv_iload_n hx hb dX8_falseDays_26 rfl (lv_at hl 3 rfl) ?_
          refine x_il hx hb hK hW (hA.o (k := 24) rfl) (kX_24 _ _ _ _) (by decide) (by omega) dX8_falseDays_27 ?_
          refine n_topi (y := nI (twL S bb (aa + k) (S 7 0))) ((hWt.2 k (by omega)).2) ?_
          have htl := twL_le S bb (aa + k) (S 7 0)
          refine n_if_ne (tgt := 34) hx hb (by omega) dX8_falseDays_28 (by decide) (fun c_b => ?_) (fun c_b => ?_)
          · have hst : (gdL S bb sh aa (k + 1)).2.2 = (gdL S bb sh aa k).2.2 := by rw [gd_3 hsh, if_neg (fun q => absurd q.2 (by omega))]
            refine n_iinc (q := 1) (lv' := [(3, .int (nI (k + 1))), (0, .ref (ad.1 22 0)), (1, .int (nI sh)), (2, .int (nI n0))]) hx hb dX8_falseDays_34 hl (k := 3) rfl (by decide) (by decide) rfl (fun ls hl => ?_)
            refine lv_goto (tgt := 4) hx hb dX8_falseDays_37 (by decide) ?_
            exact ih_lp4 n0 (k + 1) _ _ ls (by omega) (by omega) (by rw [hst, ← hn0]) hW hS (lv_sub hl [1, 2, 3, 0] rfl)
          · have hst : (gdL S bb sh aa (k + 1)).2.2 = (gdL S bb sh aa k).2.2 + 1 := by rw [gd_3 hsh, if_pos ⟨by omega, by omega⟩]
            refine n_iinc (q := 1) (lv' := [(2, .int (nI (n0 + 1))), (0, .ref (ad.1 22 0)), (1, .int (nI sh)), (3, .int (nI k))]) hx hb dX8_falseDays_31 hl (k := 2) rfl (by decide) (by decide) rfl (fun ls hl => ?_)
            refine n_iinc (q := 1) (lv' := [(3, .int (nI (k + 1))), (2, .int (nI (n0 + 1))), (0, .ref (ad.1 22 0)), (1, .int (nI sh))]) hx hb dX8_falseDays_34 hl (k := 3) rfl (by decide) (by decide) rfl (fun ls hl => ?_)
            refine lv_goto (tgt := 4) hx hb dX8_falseDays_37 (by decide) ?_
            exact ih_lp4 (n0 + 1) (k + 1) _ _ ls (by omega) (by omega) (by rw [hst, ← hn0]) hW hS (lv_sub hl [2, 3, 1, 0] rfl)
  exact lp4 (nn + 1) 0 0 _ _ ls (by omega) (by omega) rfl hW hS (lv_sub hl [2, 3, 1, 0] rfl)

set_option maxHeartbeats 400000 in
set_option maxRecDepth 100000 in
theorem c_X9_worstByTruth (l : Launch) (D : va_G) (cA : Nat → ClassId) (B0 : Nat) (ad : kA) (hal : mAl ad) (S : sS) (d0 : kD) (hM : InvX cA ad S d0) (bb dd : Nat) (hbb : bb < S 25 0) (hd : dd < 400) : oM l yX9_worstByTruth wX9_worstByTruth 5 0 0 D cA B0 ad d0 ([.ref (ad.1 0 0), .ref (ad.1 9 bb), .int (nI dd)] : List Value) (oQi D cA B0 ad (fun r d1 => r = nI (twL S bb dd (S 7 0)) ∧ XW cA ad S d0 d1)) := by
  refine o_ofW (cc := cX9_worstByTruth) (maxL := 6) (ret := some .int) (by decide) rfl (Nat.le_of_ble_eq_true rfl) ?_
  intro p e s m below meth c hx hb hr hml hts hown hlocks hnm hK hW hB hS ls hl
  have hu : ∀ w ∈ UW, w.before _ s = true := fun w h => hts w (uw_c w h)
  have hl : lv_has ls 6 [(0, .ref (ad.1 0 0)), (1, .ref (ad.1 9 bb)), (2, .int (nI dd))] := hl
  have hX := hM.1
  have hA := hX.1
  have hG := hX.2.2
  have hb7 : S 7 0 ≤ 8 := hG.f 7 (mx := 8) (by decide)
  have hb11 : S 11 0 ≤ 20 := hG.f 11 (mx := 20) (by decide)
  have hb18 : S 18 0 ≤ 40 := hG.f 18 (mx := 40) (by decide)
  have hI : XW cA ad S d0 d0 := XW.start hM
  refine n_iconst (v := 0) hx hb dX9_worstByTruth_0 (by decide) ?_
  refine lv_istore_n (lv' := [(3, .int (nI 0)), (0, .ref (ad.1 0 0)), (1, .ref (ad.1 9 bb)), (2, .int (nI dd))]) hx hb dX9_worstByTruth_1 rfl hl (by decide) rfl (fun ls hl => ?_)
  refine n_iconst (v := 0) hx hb dX9_worstByTruth_2 (by decide) ?_
  refine lv_istore (lv' := [(4, .int (nI 0)), (3, .int (nI 0)), (0, .ref (ad.1 0 0)), (1, .ref (ad.1 9 bb)), (2, .int (nI dd))]) hx hb dX9_worstByTruth_3 hl (by decide) rfl (fun ls hl => ?_)
  have lp5 : ∀ (n : Nat) (w : Nat) (k : Nat)  (d : kD) (H : Heap) (locs : List Loc) (ls : Array Slot), S 7 0 - k < n → (k ≤ S 7 0) → (XW cA ad S d0 d) → (w = twL S bb dd k) → oW D cA B0 ad d H → va_S (oA B0) s.heap H locs → lv_has ls 6 [(0, .ref (ad.1 0 0)), (1, .ref (ad.1 9 bb)), (2, .int (nI dd)), (3, .int (nI w)), (4, .int (nI k))] → W p l e (oR 5 0 0) s m ([.ref (ad.1 0 0), .ref (ad.1 9 bb), .int (nI dd)] : List Value).toArray below meth c H locs 0 0 (MQ below (oQi D cA B0 ad (fun r d1 => r = nI (twL S bb dd (S 7 0)) ∧ XW cA ad S d0 d1)) ([.ref (ad.1 0 0), .ref (ad.1 9 bb), .int (nI dd)] : List Value).toArray s 0 0 (oA B0)) (F0 m 5 ls []) := by
    intro n
    induction n with
    | zero => intro w k  d H locs ls hmu; exact absurd hmu (Nat.not_lt_zero _)
    | succ n ih_lp5 =>
      intro w k  d H locs ls hmu hk hI hw hW hS hl
      have htl := twL_le S bb dd k
      refine lv_iload hx hb dX9_worstByTruth_5 (lv_at hl 4 rfl) ?_
      refine lv_aload_n hx hb dX9_worstByTruth_7 rfl (lv_at hl 0 rfl) ?_
      refine x_gr hx hb hu in_X9 hown hK hW (hA.o (k := 0) rfl) (kX_0 _ _ _ _) rfl 2 (by decide) uF_X9_21 (hA.f 2 (k := 4) (i := 0) (by decide) (hA.li (by omega))) dX9_worstByTruth_8 ?_
      refine o_calli (o_runV (As := []) (rest := [.int (nI k)]) ⟨hx, hb, hml, hown, hu⟩ (c_Jx4a65c_size_8abf5 l D cA B0 ad hal S d hI.1.1 0 (by decide)) (gV_X9_105 (fun _ h => h)) (n0 := 0) rfl (by decide +kernel) rfl ⟨Nat.le_of_ble_eq_true rfl, Nat.le_of_ble_eq_true rfl⟩ (o_recv hK hW (hA.li (by omega)) (kX_4 _ _ _ _) rfl) hK hW hB hS hl.1 rfl (lv_room (Nat.le_of_ble_eq_true rfl)) ⟨Nat.zero_le _, Nat.zero_le _⟩ dX9_worstByTruth_11) hS (fun r_2 d_1 q_3 H locs hW hS => ?_)
      obtain ⟨rfl, rfl⟩ := q_3
      refine n_topi (y := nI (S 7 0)) rfl ?_
      refine n_icmp_ge (tgt := 67) hx hb (by omega) (by omega) dX9_worstByTruth_14 (by decide) (fun c_4 => ?_) (fun c_4 => ?_)
      · refine lv_iload_n hx hb dX9_worstByTruth_67 rfl (lv_at hl 3 rfl) ?_
        exact o_iret hx hb hr hlocks hW hS (⟨by rw [hw, show k = S 7 0 by omega], hI⟩) dX9_worstByTruth_68
      · refine lv_aload_n hx hb dX9_worstByTruth_17 rfl (lv_at hl 1 rfl) ?_
        refine lv_iload hx hb dX9_worstByTruth_18 (lv_at hl 4 rfl) ?_
        refine o_calli (o_runV (As := [.int (nI k)]) (rest := []) ⟨hx, hb, hml, hown, hu⟩ (c_X1_has l D cA B0 ad hal S d hI.1.1 bb k (by omega)) (gV_X9_331 (fun _ h => h)) (n0 := 1) rfl (by decide +kernel) rfl ⟨Nat.le_of_ble_eq_true rfl, Nat.le_of_ble_eq_true rfl⟩ (o_recv hK hW (hA.brid (by omega)) (kX_9 _ _ _ _) rfl) hK hW hB hS hl.1 rfl (lv_room (Nat.le_of_ble_eq_true rfl)) ⟨Nat.zero_le _, Nat.zero_le _⟩ dX9_worstByTruth_20) hS (fun r_6 d_5 q_7 H locs hW hS => ?_)
        obtain ⟨rfl, rfl⟩ := q_7
        refine lv_if_eq (tgt := 61) hx hb dX9_worstByTruth_23 (by decide) (fun c_b => ?_) (fun c_b => ?_)
        · have hst : twL S bb dd (k + 1) = twL S bb dd k := by rw [twL_br, if_neg (by rw [bI_z c_b]; decide)]
          refine n_iinc (q := 1) (lv' := [(4, .int (nI (k + 1))), (0, .ref (ad.1 0 0)), (1, .ref (ad.1 9 bb)), (2, .int (nI dd)), (3, .int (nI w))]) hx hb dX9_worstByTruth_61 hl (k := 4) rfl (by decide) (by decide) rfl (fun ls hl => ?_)
          refine lv_goto (tgt := 5) hx hb dX9_worstByTruth_64 (by decide) ?_
          exact ih_lp5 w (k + 1) d _ _ ls (by omega) (by omega) hI (by first | (rw [hst, ← hw]; done) | (rw [hst, ← hw]; rfl)) hW hS (lv_sub hl [1, 2, 3, 4, 0] rfl)
        · have hst : twL S bb dd (k + 1) = max (twL S bb dd k) (sState S k (S 26 k) dd) := by rw [twL_br, if_pos (bI_n c_b)]
          refine lv_aload_n hx hb dX9_worstByTruth_26 rfl (lv_at hl 0 rfl) ?_
          refine x_gr hx hb hu in_X9 hown hK hW (hA.o (k := 0) rfl) (kX_0 _ _ _ _) rfl 2 (by decide) uF_X9_21 (hA.f 2 (k := 4) (i := 0) (by decide) (hA.li (by omega))) dX9_worstByTruth_27 ?_
          refine lv_iload hx hb dX9_worstByTruth_30 (lv_at hl 4 rfl) ?_
          refine o_callq (o_runV (As := [.int (nI k)]) (rest := []) ⟨hx, hb, hml, hown, hu⟩ (c_Jx4a65c_get_915e3 l D cA B0 ad hal S d hI.1.1 0 k (by decide) (show k < S 7 0 by omega)) (gV_X9_109 (fun _ h => h)) (n0 := 1) rfl (by decide +kernel) rfl ⟨Nat.le_of_ble_eq_true rfl, Nat.le_of_ble_eq_true rfl⟩ (o_recv hK hW (hA.li (by omega)) (kX_4 _ _ _ _) rfl) hK hW hB hS hl.1 rfl (lv_room (Nat.le_of_ble_eq_true rfl)) ⟨Nat.zero_le _, Nat.zero_le _⟩ dX9_worstByTruth_32) hS (fun r_9 d_8 q_10 H locs hW hS => ?_)
          obtain ⟨rfl, rfl⟩ := q_10
          refine W.eq (g2 := F0 m 35 ls [.ref (ad.1 6 k)]) rfl ?_
          refine x_cast hx hb hu hown uL_X9_113 hK hW (hA.pier (by omega)) (kX_6 _ _ _ _) rfl dX9_worstByTruth_35 ?_
          refine lv_astore (lv' := [(5, .ref (ad.1 6 k)), (0, .ref (ad.1 0 0)), (1, .ref (ad.1 9 bb)), (2, .int (nI dd)), (3, .int (nI w)), (4, .int (nI k))]) hx hb dX9_worstByTruth_38 hl (by decide) rfl (fun ls hl => ?_)
          refine lv_aload hx hb dX9_worstByTruth_40 (lv_at hl 0 rfl) ?_
          refine lv_iload_n hx hb dX9_worstByTruth_42 rfl (lv_at hl 3 rfl) ?_
          refine o_callv (o_runV (As := [.int (nI dd)]) (rest := []) ⟨hx, hb, hml, hown, hu⟩ (c_X5_goTo l D cA B0 ad hal S d hI.1 k dd (by omega) (by omega)) (gV_X9_141 (fun _ h => h)) (n0 := 1) rfl (by decide +kernel) rfl ⟨Nat.le_of_ble_eq_true rfl, Nat.le_of_ble_eq_true rfl⟩ (o_recv hK hW (hA.pier (by omega)) (kX_6 _ _ _ _) rfl) hK hW hB hS hl.1 rfl (lv_room (Nat.le_of_ble_eq_true rfl)) ⟨Nat.zero_le _, Nat.zero_le _⟩ dX9_worstByTruth_43) hS (fun dG q_12 H locs hW hS => ?_)
          obtain ⟨hq, hat, hF1⟩ := q_12
          have hI := hI.trans hq
          refine lv_iload_n hx hb dX9_worstByTruth_46 rfl (lv_at hl 4 rfl) ?_
          refine lv_aload hx hb dX9_worstByTruth_47 (lv_at hl 0 rfl) ?_
          refine lv_aload hx hb dX9_worstByTruth_49 (lv_at hl 0 rfl) ?_
          refine x_gi hx hb hu in_X5 hown hK hW (hA.pier (by omega)) (kX_6 _ _ _ _) rfl 10 (by decide) uF_X9_294 dX9_worstByTruth_51 ?_
          refine n_topi (y := nI (S 26 k)) (hI.1.1.2.1.truth (by omega)) ?_
          have b_13 : S 26 k ≤ 63 := hG.a 26 k (n := 8) (mx := 63) (by decide) (by omega)
          refine o_calli (o_runV (As := [.int (nI (S 26 k))]) (rest := [.int (nI w)]) ⟨hx, hb, hml, hown, hu⟩ (c_X5_stateBy l D cA B0 ad hal S dG hI.1.1 k (S 26 k) (dd + 1) (by omega) (by omega) hat) (gV_X9_154 (fun _ h => h)) (n0 := 1) rfl (by decide +kernel) rfl ⟨Nat.le_of_ble_eq_true rfl, Nat.le_of_ble_eq_true rfl⟩ (o_recv hK hW (hA.pier (by omega)) (kX_6 _ _ _ _) rfl) hK hW hB hS hl.1 rfl (lv_room (Nat.le_of_ble_eq_true rfl)) ⟨Nat.zero_le _, Nat.zero_le _⟩ dX9_worstByTruth_54) hS (fun r_15 d_14 q_16 H locs hW hS => ?_)
          obtain ⟨rfl, rfl⟩ := q_16
          have hs2 := stW_le S k (sHE S k (S 26 k) (dd + 1)).2
          refine va_mmax hx hb (hml.trans hl.1.symm) hown (hu _ uM_X9_98) (hu _ uT_J9_max_7cf53) (hu _ uI_J9) (hu _ uC_J9_max_7cf53) (Nat.le_of_ble_eq_true rfl) (Nat.le_of_ble_eq_true rfl) (Nat.le_of_ble_eq_true rfl) (Nat.le_of_ble_eq_true rfl) dX9_worstByTruth_57 ?_
          refine n_topi (y := nI (max w (stW S k (sHE S k (S 26 k) (dd + 1)).2))) (n_max (by omega) (by omega)) ?_
          refine lv_istore_n (lv' := [(3, .int (nI (max w (stW S k (sHE S k (S 26 k) (dd + 1)).2)))), (5, .ref (ad.1 6 k)), (0, .ref (ad.1 0 0)), (1, .ref (ad.1 9 bb)), (2, .int (nI dd)), (4, .int (nI k))]) hx hb dX9_worstByTruth_60 rfl hl (by decide) rfl (fun ls hl => ?_)
          refine n_iinc (q := 1) (lv' := [(4, .int (nI (k + 1))), (3, .int (nI (max w (stW S k (sHE S k (S 26 k) (dd + 1)).2)))), (5, .ref (ad.1 6 k)), (0, .ref (ad.1 0 0)), (1, .ref (ad.1 9 bb)), (2, .int (nI dd))]) hx hb dX9_worstByTruth_61 hl (k := 5) rfl (by decide) (by decide) rfl (fun ls hl => ?_)
          refine lv_goto (tgt := 5) hx hb dX9_worstByTruth_64 (by decide) ?_
          exact ih_lp5 (max w (stW S k (sHE S k (S 26 k) (dd + 1)).2)) (k + 1) dG _ _ ls (by omega) (by omega) hI (by first | (rw [hst, ← hw]; done) | (rw [hst, ← hw]; rfl)) hW hS (lv_sub hl [3, 4, 5, 1, 0] rfl)
  exact lp5 (S 7 0 + 1) 0 0 d0 _ _ ls (by omega) (by omega) hI rfl hW hS (lv_sub hl [2, 3, 4, 1, 0] rfl)

set_option maxHeartbeats 400000 in
set_option maxRecDepth 100000 in
theorem c_X9_watchDays (l : Launch) (D : va_G) (cA : Nat → ClassId) (B0 : Nat) (ad : kA) (hal : mAl ad) (S : sS) (d0 : kD) (hM : InvX cA ad S d0) (bb aa zz : Nat) (hbb : bb < S 25 0) (haz : aa ≤ zz) (hz : zz < 400) (hz6 : zz < aa + 60) : oM l yX9_watchDays wX9_watchDays 7 0 0 D cA B0 ad d0 ([.ref (ad.1 0 0), .ref (ad.1 9 bb), .int (nI aa), .int (nI zz)] : List Value) (oQv D cA B0 ad (fun d1 => XX cA ad S d0 d1 ∧ WT S bb aa (zz + 1 - aa) d1)) := by
  refine o_ofW (cc := cX9_watchDays) (maxL := 5) (ret := none) (by decide) rfl (Nat.le_of_ble_eq_true rfl) ?_
  intro p e s m below meth c hx hb hr hml hts hown hlocks hnm hK hW hB hS ls hl
  have hu : ∀ w ∈ UW, w.before _ s = true := fun w h => hts w (uw_c w h)
  have hl : lv_has ls 5 [(0, .ref (ad.1 0 0)), (1, .ref (ad.1 9 bb)), (2, .int (nI aa)), (3, .int (nI zz))] := hl
  have hX := hM.1
  have hA := hX.1
  have hG := hX.2.2
  have hb7 : S 7 0 ≤ 8 := hG.f 7 (mx := 8) (by decide)
  have hb11 : S 11 0 ≤ 20 := hG.f 11 (mx := 20) (by decide)
  have hb18 : S 18 0 ≤ 40 := hG.f 18 (mx := 40) (by decide)
  have hI : XX cA ad S d0 d0 := XX.start hM
  have hb1 : S 1 0 ≤ 4 := hG.f 1 (mx := 4) (by decide)
  have hb19 : S 19 0 ≤ 399 := hG.f 19 (mx := 399) (by decide)
  have hb22 : S 22 0 ≤ 64 := hG.f 22 (mx := 64) (by decide)
  have hb25 : S 25 0 ≤ 4 := hG.f 25 (mx := 4) (by decide)
  have hb30 : S 30 0 ≤ 10 := hG.f 30 (mx := 10) (by decide)
  have hb32 : S 32 0 ≤ 64 := hG.f 32 (mx := 64) (by decide)
  refine lv_aload_n hx hb dX9_watchDays_0 rfl (lv_at hl 0 rfl) ?_
  refine x_gr hx hb hu in_X9 hown hK hW (hA.o (k := 0) rfl) (kX_0 _ _ _ _) rfl 9 (by decide) uF_X9_58 (hA.f 9 (k := 22) (i := 0) (by decide) (hA.o (k := 22) rfl)) dX9_watchDays_1 ?_
  refine o_callv (o_runV (As := []) (rest := []) ⟨hx, hb, hml, hown, hu⟩ (c_X8_clear l D cA B0 ad hal S d0 hI.1.1) (gV_X9_325 (fun _ h => h)) (n0 := 0) rfl (by decide +kernel) rfl ⟨Nat.le_of_ble_eq_true rfl, Nat.le_of_ble_eq_true rfl⟩ (o_recv hK hW (hA.o (k := 22) rfl) (kX_22 _ _ _ _) rfl) hK hW hB hS hl.1 rfl (lv_room (Nat.le_of_ble_eq_true rfl)) ⟨Nat.zero_le _, Nat.zero_le _⟩ dX9_watchDays_4) hS (fun d_1 q_3 H locs hW hS => ?_)
  subst q_3
  have hI := hI.uIk 22 0 2 (nI 0) (by decide)
  have hWt : WT S bb aa 0 (uI d0 22 0 2 (nI 0)) := ⟨uI_s _ _ _ _ _, fun _ h => absurd h (Nat.not_lt_zero _)⟩
  refine lv_iload_n hx hb dX9_watchDays_7 rfl (lv_at hl 2 rfl) ?_
  refine lv_istore (lv' := [(4, .int (nI aa)), (0, .ref (ad.1 0 0)), (1, .ref (ad.1 9 bb)), (2, .int (nI aa)), (3, .int (nI zz))]) hx hb dX9_watchDays_8 hl (by decide) rfl (fun ls hl => ?_)
  have lp10 : ∀ (n : Nat) (dy : Nat)  (d : kD) (H : Heap) (locs : List Loc) (ls : Array Slot), zz + 1 - dy < n → (aa ≤ dy) → (dy ≤ zz + 1) → (XX cA ad S d0 d) → (WT S bb aa (dy - aa) d) → oW D cA B0 ad d H → va_S (oA B0) s.heap H locs → lv_has ls 5 [(0, .ref (ad.1 0 0)), (1, .ref (ad.1 9 bb)), (2, .int (nI aa)), (3, .int (nI zz)), (4, .int (nI dy))] → W p l e (oR 7 0 0) s m ([.ref (ad.1 0 0), .ref (ad.1 9 bb), .int (nI aa), .int (nI zz)] : List Value).toArray below meth c H locs 0 0 (MQ below (oQv D cA B0 ad (fun d1 => XX cA ad S d0 d1 ∧ WT S bb aa (zz + 1 - aa) d1)) ([.ref (ad.1 0 0), .ref (ad.1 9 bb), .int (nI aa), .int (nI zz)] : List Value).toArray s 0 0 (oA B0)) (F0 m 10 ls []) := by
    intro n
    induction n with
    | zero => intro dy  d H locs ls hmu; exact absurd hmu (Nat.not_lt_zero _)
    | succ n ih_lp10 =>
      intro dy  d H locs ls hmu hd1 hd2 hI hWt hW hS hl
      refine lv_iload hx hb dX9_watchDays_10 (lv_at hl 4 rfl) ?_
      refine lv_iload_n hx hb dX9_watchDays_12 rfl (lv_at hl 3 rfl) ?_
      refine n_icmp_gt (tgt := 49) hx hb (by omega) (by omega) dX9_watchDays_13 (by decide) (fun c_4 => ?_) (fun c_4 => ?_)
      · exact o_vret hx hb hr hlocks hW hS (⟨hI, (show dy = zz + 1 by omega) ▸ hWt⟩) dX9_watchDays_49
      · refine lv_aload_n hx hb dX9_watchDays_16 rfl (lv_at hl 0 rfl) ?_
        refine lv_iload hx hb dX9_watchDays_17 (lv_at hl 4 rfl) ?_
        refine o_callv (o_runV (As := [.int (nI dy)]) (rest := []) ⟨hx, hb, hml, hown, hu⟩ (c_X9_findKept l D cA B0 ad hal S d hI.1 dy (by omega)) (gV_X9_160 (fun _ h => h)) (n0 := 1) rfl (by decide +kernel) rfl ⟨Nat.le_of_ble_eq_true rfl, Nat.le_of_ble_eq_true rfl⟩ (o_recv hK hW (hA.o (k := 0) rfl) (kX_0 _ _ _ _) rfl) hK hW hB hS hl.1 rfl (lv_room (Nat.le_of_ble_eq_true rfl)) ⟨Nat.zero_le _, Nat.zero_le _⟩ dX9_watchDays_19) hS (fun d_5 q_7 H locs hW hS => ?_)
        obtain ⟨hq, hKP⟩ := q_7
        have hI := hI.k hq
        have hWt := hWt.fk hq.2
        refine lv_aload_n hx hb dX9_watchDays_22 rfl (lv_at hl 0 rfl) ?_
        refine x_gr hx hb hu in_X9 hown hK hW (hA.o (k := 0) rfl) (kX_0 _ _ _ _) rfl 9 (by decide) uF_X9_58 (hA.f 9 (k := 22) (i := 0) (by decide) (hA.o (k := 22) rfl)) dX9_watchDays_23 ?_
        refine lv_aload_n hx hb dX9_watchDays_26 rfl (lv_at hl 0 rfl) ?_
        refine lv_aload_n hx hb dX9_watchDays_27 rfl (lv_at hl 1 rfl) ?_
        refine lv_iload hx hb dX9_watchDays_28 (lv_at hl 4 rfl) ?_
        refine o_calli (o_runV (As := [.ref (ad.1 9 bb), .int (nI dy)]) (rest := [.ref (ad.1 22 0)]) ⟨hx, hb, hml, hown, hu⟩ (c_X9_openFrom l D cA B0 ad hal S d_5 hI.1 bb dy (by omega) (by omega) hKP) (gV_X9_301 (fun _ h => h)) (n0 := 2) rfl (by decide +kernel) rfl ⟨Nat.le_of_ble_eq_true rfl, Nat.le_of_ble_eq_true rfl⟩ (o_recv hK hW (hA.o (k := 0) rfl) (kX_0 _ _ _ _) rfl) hK hW hB hS hl.1 rfl (lv_room (Nat.le_of_ble_eq_true rfl)) ⟨Nat.zero_le _, Nat.zero_le _⟩ dX9_watchDays_30) hS (fun r_9 d_8 q_10 H locs hW hS => ?_)
        obtain ⟨rfl, hq⟩ := q_10
        have hI := hI.w hq
        have hWt := hWt.fk hq.2.wk
        have hKP := hKP.fr hq.2
        refine lv_aload_n hx hb dX9_watchDays_33 rfl (lv_at hl 0 rfl) ?_
        refine lv_aload_n hx hb dX9_watchDays_34 rfl (lv_at hl 1 rfl) ?_
        refine lv_iload hx hb dX9_watchDays_35 (lv_at hl 4 rfl) ?_
        refine o_calli (o_runV (As := [.ref (ad.1 9 bb), .int (nI dy)]) (rest := [.int (nI (opL S bb dy (S 7 0))), .ref (ad.1 22 0)]) ⟨hx, hb, hml, hown, hu⟩ (c_X9_worstByTruth l D cA B0 ad hal S d_8 hI.1 bb dy (by omega) (by omega)) (gV_X9_326 (fun _ h => h)) (n0 := 2) rfl (by decide +kernel) rfl ⟨Nat.le_of_ble_eq_true rfl, Nat.le_of_ble_eq_true rfl⟩ (o_recv hK hW (hA.o (k := 0) rfl) (kX_0 _ _ _ _) rfl) hK hW hB hS hl.1 rfl (lv_room (Nat.le_of_ble_eq_true rfl)) ⟨Nat.zero_le _, Nat.zero_le _⟩ dX9_watchDays_37) hS (fun r_12 d_11 q_13 H locs hW hS => ?_)
        obtain ⟨rfl, hq⟩ := q_13
        have hI := hI.w hq
        have hWt := hWt.fk hq.2.wk
        refine o_callv (o_runV (As := [.int (nI (opL S bb dy (S 7 0))), .int (nI (twL S bb dy (S 7 0)))]) (rest := []) ⟨hx, hb, hml, hown, hu⟩ (c_X8_addDay l D cA B0 ad hal S d_11 hI.1.1 (dy - aa) (opL S bb dy (S 7 0)) (twL S bb dy (S 7 0)) (by omega) hWt.1) (gV_X9_329 (fun _ h => h)) (n0 := 2) rfl (by decide +kernel) rfl ⟨Nat.le_of_ble_eq_true rfl, Nat.le_of_ble_eq_true rfl⟩ (o_recv hK hW (hA.o (k := 22) rfl) (kX_22 _ _ _ _) rfl) hK hW hB hS hl.1 rfl (lv_room (Nat.le_of_ble_eq_true rfl)) ⟨Nat.zero_le _, Nat.zero_le _⟩ dX9_watchDays_40) hS (fun d_14 q_16 H locs hW hS => ?_)
        subst q_16
        have hI := ((hI.uIk 23 0 (dy - aa) (nI (opL S bb dy (S 7 0))) (by decide)).uIk 24 0 (dy - aa) (nI (twL S bb dy (S 7 0))) (by decide)).uIk 22 0 2 (nI (dy - aa + 1)) (by decide)
        have hWt := hWt.add (v := opL S bb dy (S 7 0)) (w := twL S bb dy (S 7 0)) (by rw [show aa + (dy - aa) = dy by omega]) (by rw [show aa + (dy - aa) = dy by omega])
        refine n_iinc (q := 1) (lv' := [(4, .int (nI (dy + 1))), (0, .ref (ad.1 0 0)), (1, .ref (ad.1 9 bb)), (2, .int (nI aa)), (3, .int (nI zz))]) hx hb dX9_watchDays_43 hl (k := 4) rfl (by decide) (by decide) rfl (fun ls hl => ?_)
        refine lv_goto (tgt := 10) hx hb dX9_watchDays_46 (by decide) ?_
        exact ih_lp10 (dy + 1) (uI (uI (uI d_11 23 0 (dy - aa) (nI (opL S bb dy (S 7 0)))) 24 0 (dy - aa) (nI (twL S bb dy (S 7 0)))) 22 0 2 (nI (dy - aa + 1))) _ _ ls (by omega) (by omega) (by omega) hI (by rw [show dy + 1 - aa = (dy - aa) + 1 by omega]; exact hWt) hW hS (lv_sub hl [1, 2, 3, 4, 0] rfl)
  exact lp10 (zz + 2) aa (uI d0 22 0 2 (nI 0)) _ _ ls (by omega) (by omega) (by omega) hI (by rw [Nat.sub_self]; exact hWt) hW hS (lv_sub hl [1, 2, 3, 4, 0] rfl)
