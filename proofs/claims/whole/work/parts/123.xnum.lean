set_option maxHeartbeats 400000 in
set_option maxRecDepth 100000 in
theorem c_X9_within (l : Launch) (D : va_G) (cA : Nat → ClassId) (B0 : Nat) (ad : kA) (hal : mAl ad) (d0 : kD) (v a b : Int32) : oM l yX9_within wX9_within 1 0 0 D cA B0 ad d0 ([.int v, .int a, .int b] : List Value) (oQi D cA B0 ad (fun r d1 => r = (if v < a then 0 else if b < v then 0 else 1) ∧ d0 = d1)) := by
  refine o_ofW (cc := cX9_within) (maxL := 3) (ret := some .boolean) (by decide) rfl (Nat.le_of_ble_eq_true rfl) ?_
  intro p e s m below meth c hx hb hr hml hts hown hlocks hnm hK hW hB hS ls hl
  have hu : ∀ w ∈ UW, w.before _ s = true := fun w h => hts w (uw_c w h)
  have hl : lv_has ls 3 [(0, .int v), (1, .int a), (2, .int b)] := hl
  refine lv_iload_n hx hb dX9_within_0 rfl (lv_at hl 0 rfl) ?_
  refine lv_iload_n hx hb dX9_within_1 rfl (lv_at hl 1 rfl) ?_
  refine lv_icmp_lt (tgt := 14) hx hb dX9_within_2 (by decide) (fun c_1 => ?_) (fun c_1 => ?_)
  · refine n_iconst (v := 0) hx hb dX9_within_14 (by decide) ?_
    exact o_zret hx hb hr hlocks (by first | rfl | exact z_bI _ | (split <;> first | rfl | (split <;> rfl))) hW hS (⟨by first | (rw [if_pos (by assumption)]; rfl) | (rw [if_neg (by assumption), if_pos (by assumption)]; rfl) | (rw [if_neg (by assumption), if_neg (by assumption)]; rfl), rfl⟩) dX9_within_15
  · refine lv_iload_n hx hb dX9_within_5 rfl (lv_at hl 0 rfl) ?_
    refine lv_iload_n hx hb dX9_within_6 rfl (lv_at hl 2 rfl) ?_
    refine lv_icmp_gt (tgt := 14) hx hb dX9_within_7 (by decide) (fun c_2 => ?_) (fun c_2 => ?_)
    · refine n_iconst (v := 0) hx hb dX9_within_14 (by decide) ?_
      exact o_zret hx hb hr hlocks (by first | rfl | exact z_bI _ | (split <;> first | rfl | (split <;> rfl))) hW hS (⟨by first | (rw [if_pos (by assumption)]; rfl) | (rw [if_neg (by assumption), if_pos (by assumption)]; rfl) | (rw [if_neg (by assumption), if_neg (by assumption)]; rfl), rfl⟩) dX9_within_15
    · refine n_iconst (v := 1) hx hb dX9_within_10 (by decide) ?_
      refine lv_goto (tgt := 15) hx hb dX9_within_11 (by decide) ?_
      exact o_zret hx hb hr hlocks (by first | rfl | exact z_bI _ | (split <;> first | rfl | (split <;> rfl))) hW hS (⟨by first | (rw [if_pos (by assumption)]; rfl) | (rw [if_neg (by assumption), if_pos (by assumption)]; rfl) | (rw [if_neg (by assumption), if_neg (by assumption)]; rfl), rfl⟩) dX9_within_15

set_option maxHeartbeats 400000 in
set_option maxRecDepth 100000 in
theorem c_X9_isDay (l : Launch) (D : va_G) (cA : Nat → ClassId) (B0 : Nat) (ad : kA) (hal : mAl ad) (d0 : kD) (v : Int32) : oM l yX9_isDay wX9_isDay 2 0 0 D cA B0 ad d0 ([.int v] : List Value) (oQi D cA B0 ad (fun r d1 => r = bI (ix v 400) ∧ d0 = d1)) := by
  refine o_ofW (cc := cX9_isDay) (maxL := 1) (ret := some .boolean) (by decide) rfl (Nat.le_of_ble_eq_true rfl) ?_
  intro p e s m below meth c hx hb hr hml hts hown hlocks hnm hK hW hB hS ls hl
  have hu : ∀ w ∈ UW, w.before _ s = true := fun w h => hts w (uw_c w h)
  have hl : lv_has ls 1 [(0, .int v)] := hl
  refine lv_iload_n hx hb dX9_isDay_0 rfl (lv_at hl 0 rfl) ?_
  refine n_iconst (v := 0) hx hb dX9_isDay_1 (by decide) ?_
  refine n_sipush (v := 399) hx hb dX9_isDay_2 (by decide) ?_
  refine o_calli (o_runS (As := [.int v, .int (nI 0), .int (nI 399)]) (rest := []) ⟨hx, hb, hml, hown, hu⟩ (c_X9_within l D cA B0 ad hal d0 v (nI 0) (nI 399)) (gS_X9_85 (fun _ h => h)) (n0 := 3) rfl (by decide +kernel) rfl ⟨Nat.le_of_ble_eq_true rfl, Nat.le_of_ble_eq_true rfl⟩ hK hW hB hS hl.1 rfl (lv_room (Nat.le_of_ble_eq_true rfl)) ⟨Nat.zero_le _, Nat.zero_le _⟩ dX9_isDay_5) hS (fun r_2 d_1 q_3 H locs hW hS => ?_)
  obtain ⟨rfl, rfl⟩ := q_3
  exact o_zret hx hb hr hlocks (by first | rfl | exact z_bI _ | (split <;> first | rfl | (split <;> rfl))) hW hS (⟨in_ixc 400 rfl (by decide), rfl⟩) dX9_isDay_8

set_option maxHeartbeats 400000 in
set_option maxRecDepth 100000 in
theorem c_X9_isMind (l : Launch) (D : va_G) (cA : Nat → ClassId) (B0 : Nat) (ad : kA) (hal : mAl ad) (d0 : kD) (v : Int32) : oM l yX9_isMind wX9_isMind 2 0 0 D cA B0 ad d0 ([.int v] : List Value) (oQi D cA B0 ad (fun r d1 => r = bI (ix v 64) ∧ d0 = d1)) := by
  refine o_ofW (cc := cX9_isMind) (maxL := 1) (ret := some .boolean) (by decide) rfl (Nat.le_of_ble_eq_true rfl) ?_
  intro p e s m below meth c hx hb hr hml hts hown hlocks hnm hK hW hB hS ls hl
  have hu : ∀ w ∈ UW, w.before _ s = true := fun w h => hts w (uw_c w h)
  have hl : lv_has ls 1 [(0, .int v)] := hl
  refine lv_iload_n hx hb dX9_isMind_0 rfl (lv_at hl 0 rfl) ?_
  refine n_iconst (v := 0) hx hb dX9_isMind_1 (by decide) ?_
  refine n_bipush (v := 63) hx hb dX9_isMind_2 (by decide) ?_
  refine o_calli (o_runS (As := [.int v, .int (nI 0), .int (nI 63)]) (rest := []) ⟨hx, hb, hml, hown, hu⟩ (c_X9_within l D cA B0 ad hal d0 v (nI 0) (nI 63)) (gS_X9_85 (fun _ h => h)) (n0 := 3) rfl (by decide +kernel) rfl ⟨Nat.le_of_ble_eq_true rfl, Nat.le_of_ble_eq_true rfl⟩ hK hW hB hS hl.1 rfl (lv_room (Nat.le_of_ble_eq_true rfl)) ⟨Nat.zero_le _, Nat.zero_le _⟩ dX9_isMind_4) hS (fun r_2 d_1 q_3 H locs hW hS => ?_)
  obtain ⟨rfl, rfl⟩ := q_3
  exact o_zret hx hb hr hlocks (by first | rfl | exact z_bI _ | (split <;> first | rfl | (split <;> rfl))) hW hS (⟨in_ixc 64 rfl (by decide), rfl⟩) dX9_isMind_7

set_option maxHeartbeats 400000 in
set_option maxRecDepth 100000 in
theorem c_X9_holds (l : Launch) (D : va_G) (cA : Nat → ClassId) (B0 : Nat) (ad : kA) (hal : mAl ad) (d0 : kD) (x : Int64) (mm : Nat) (hm : mm < 64) : oM l yX9_holds wX9_holds 1 0 0 D cA B0 ad d0 ([.long x, .int (nI mm)] : List Value) (oQi D cA B0 ad (fun r d1 => r = bI (hasB x mm) ∧ d0 = d1)) := by
  refine o_ofW (cc := cX9_holds) (maxL := 3) (ret := some .boolean) (by decide) rfl (Nat.le_of_ble_eq_true rfl) ?_
  intro p e s m below meth c hx hb hr hml hts hown hlocks hnm hK hW hB hS ls hl
  have hu : ∀ w ∈ UW, w.before _ s = true := fun w h => hts w (uw_c w h)
  have hl : lv_has ls 3 [(0, .long x), (2, .int (nI mm))] := hl
  refine lv_lload_n hx hb dX9_holds_0 rfl (lv_at hl 0 rfl) ?_
  refine lv_iload_n hx hb dX9_holds_1 rfl (lv_at hl 1 rfl) ?_
  refine lv_lushr (v := lsr x mm) hx hb dX9_holds_2 rfl ?_
  refine lv_lconst (v := 1) hx hb dX9_holds_3 (by decide) ?_
  refine lv_land hx hb dX9_holds_4 ?_
  refine lv_lconst (v := 0) hx hb dX9_holds_5 (by decide) ?_
  refine W.lcmp hx hb dX9_holds_6 ?_
  refine lv_if_eq (tgt := 14) hx hb dX9_holds_7 (by decide) (fun c_1 => ?_) (fun c_1 => ?_)
  · refine n_iconst (v := 0) hx hb dX9_holds_14 (by decide) ?_
    exact o_zret hx hb hr hlocks (by first | rfl | exact z_bI _ | (split <;> first | rfl | (split <;> rfl))) hW hS (⟨by first | (rw [hasB_1 hm (lg0n c_1)]; rfl) | (rw [hasB_0 hm (lg0 c_1)]; rfl), rfl⟩) dX9_holds_15
  · refine n_iconst (v := 1) hx hb dX9_holds_10 (by decide) ?_
    refine lv_goto (tgt := 15) hx hb dX9_holds_11 (by decide) ?_
    exact o_zret hx hb hr hlocks (by first | rfl | exact z_bI _ | (split <;> first | rfl | (split <;> rfl))) hW hS (⟨by first | (rw [hasB_1 hm (lg0n c_1)]; rfl) | (rw [hasB_0 hm (lg0 c_1)]; rfl), rfl⟩) dX9_holds_15

set_option maxHeartbeats 400000 in
set_option maxRecDepth 100000 in
theorem c_X9_bitsOfA (l : Launch) (D : va_G) (cA : Nat → ClassId) (B0 : Nat) (ad : kA) (hal : mAl ad) (d0 : kD) (x : Int64)  : oM l yX9_bitsOfA wX9_bitsOfA 1 0 0 D cA B0 ad d0 ([.long x] : List Value) (oQi D cA B0 ad (fun r d1 => r = sMi x 8 ∧ d0 = d1)) := by
  refine o_ofW (cc := cX9_bitsOfA) (maxL := 4) (ret := some .int) (by decide) rfl (Nat.le_of_ble_eq_true rfl) ?_
  intro p e s m below meth c hx hb hr hml hts hown hlocks hnm hK hW hB hS ls hl
  have hu : ∀ w ∈ UW, w.before _ s = true := fun w h => hts w (uw_c w h)
  have hl : lv_has ls 4 [(0, .long x)] := hl
  refine n_iconst (v := 0) hx hb dX9_bitsOfA_0 (by decide) ?_
  refine lv_istore_n (lv' := [(2, .int (nI 0)), (0, .long x)]) hx hb dX9_bitsOfA_1 rfl hl (by decide) rfl (fun ls hl => ?_)
  refine n_iconst (v := 0) hx hb dX9_bitsOfA_2 (by decide) ?_
  refine lv_istore_n (lv' := [(3, .int (nI 0)), (2, .int (nI 0)), (0, .long x)]) hx hb dX9_bitsOfA_3 rfl hl (by decide) rfl (fun ls hl => ?_)
  have lp4 : ∀ (n : Nat) (mi : Int32) (k : Nat)  (H : Heap) (locs : List Loc) (ls : Array Slot), 8 - k < n → (k ≤ 8) → (mi = sMi x k) → oW D cA B0 ad d0 H → va_S (oA B0) s.heap H locs → lv_has ls 4 [(0, .long x), (2, .int mi), (3, .int (nI k))] → W p l e (oR 1 0 0) s m ([.long x] : List Value).toArray below meth c H locs 0 0 (MQ below (oQi D cA B0 ad (fun r d1 => r = sMi x 8 ∧ d0 = d1)) ([.long x] : List Value).toArray s 0 0 (oA B0)) (F0 m 4 ls []) := by
    intro n
    induction n with
    | zero => intro mi k  H locs ls hmu; exact absurd hmu (Nat.not_lt_zero _)
    | succ n ih_lp4 =>
      intro mi k  H locs ls hmu hk hmi hW hS hl
      refine lv_iload_n hx hb dX9_bitsOfA_4 rfl (lv_at hl 2 rfl) ?_
      refine n_bipush (v := 8) hx hb dX9_bitsOfA_5 (by decide) ?_
      refine n_icmp_ge (tgt := 37) hx hb (by omega) (by omega) dX9_bitsOfA_7 (by decide) (fun c_1 => ?_) (fun c_1 => ?_)
      · refine lv_iload_n hx hb dX9_bitsOfA_37 rfl (lv_at hl 1 rfl) ?_
        exact o_iret hx hb hr hlocks hW hS (⟨by rw [hmi, show k = 8 by omega], rfl⟩) dX9_bitsOfA_38
      · refine lv_lload_n hx hb dX9_bitsOfA_10 rfl (lv_at hl 0 rfl) ?_
        refine n_bipush (v := 8) hx hb dX9_bitsOfA_11 (by decide) ?_
        refine lv_iload_n hx hb dX9_bitsOfA_13 rfl (lv_at hl 2 rfl) ?_
        refine n_imul hx hb dX9_bitsOfA_14 ?_
        refine lv_lushr (v := lsr x (8 * k)) hx hb dX9_bitsOfA_15 rfl ?_
        refine lv_ldc2 (v := (255)) hx hb hown (hu _ uK_X9_217) dX9_bitsOfA_16 ?_
        refine lv_land hx hb dX9_bitsOfA_19 ?_
        refine lv_lconst (v := 0) hx hb dX9_bitsOfA_20 (by decide) ?_
        refine W.lcmp hx hb dX9_bitsOfA_21 ?_
        refine lv_if_eq (tgt := 31) hx hb dX9_bitsOfA_22 (by decide) (fun c_b => ?_) (fun c_b => ?_)
        · have hst2 : sMi x (k + 1) = sMi x k := by rw [sMi, if_pos (lg0 c_b)]
          refine n_iinc (q := 1) (lv' := [(3, .int (nI (k + 1))), (0, .long x), (2, .int mi)]) hx hb dX9_bitsOfA_31 hl (k := 2) rfl (by decide) (by decide) rfl (fun ls hl => ?_)
          refine lv_goto (tgt := 4) hx hb dX9_bitsOfA_34 (by decide) ?_
          exact ih_lp4 mi (k + 1) _ _ ls (by omega) (by omega) (by rw [hst2, ← hmi]) hW hS (lv_sub hl [1, 2, 0] rfl)
        · have hst2 : sMi x (k + 1) = sMi x k ||| (nI 1 <<< (nI k &&& 31)) := by rw [sMi, if_neg (lg0n c_b)]
          refine lv_iload_n hx hb dX9_bitsOfA_25 rfl (lv_at hl 1 rfl) ?_
          refine n_iconst (v := 1) hx hb dX9_bitsOfA_26 (by decide) ?_
          refine lv_iload_n hx hb dX9_bitsOfA_27 rfl (lv_at hl 2 rfl) ?_
          refine lv_ishl hx hb dX9_bitsOfA_28 ?_
          refine lv_ior hx hb dX9_bitsOfA_29 ?_
          refine lv_istore_n (lv' := [(2, .int (mi ||| ((nI 1) <<< ((nI k) &&& 31)))), (0, .long x), (3, .int (nI k))]) hx hb dX9_bitsOfA_30 rfl hl (by decide) rfl (fun ls hl => ?_)
          refine n_iinc (q := 1) (lv' := [(3, .int (nI (k + 1))), (2, .int (mi ||| ((nI 1) <<< ((nI k) &&& 31)))), (0, .long x)]) hx hb dX9_bitsOfA_31 hl (k := 2) rfl (by decide) (by decide) rfl (fun ls hl => ?_)
          refine lv_goto (tgt := 4) hx hb dX9_bitsOfA_34 (by decide) ?_
          exact ih_lp4 (mi ||| ((nI 1) <<< ((nI k) &&& 31))) (k + 1) _ _ ls (by omega) (by omega) (by rw [hst2, ← hmi]) hW hS (lv_sub hl [2, 1, 0] rfl)
  exact lp4 (9) (nI 0) 0 _ _ ls (by omega) (by omega) rfl hW hS (lv_sub hl [2, 1, 0] rfl)

set_option maxHeartbeats 400000 in
set_option maxRecDepth 100000 in
theorem c_X9_mindsOfA (l : Launch) (D : va_G) (cA : Nat → ClassId) (B0 : Nat) (ad : kA) (hal : mAl ad) (d0 : kD) (b : Int32)  : oM l yX9_mindsOfA wX9_mindsOfA 1 0 0 D cA B0 ad d0 ([.int b] : List Value) (oQl D cA B0 ad (fun r d1 => r = mA b 8 ∧ d0 = d1)) := by
  refine o_ofW (cc := cX9_mindsOfA) (maxL := 4) (ret := some .long) (by decide) rfl (Nat.le_of_ble_eq_true rfl) ?_
  intro p e s m below meth c hx hb hr hml hts hown hlocks hnm hK hW hB hS ls hl
  have hu : ∀ w ∈ UW, w.before _ s = true := fun w h => hts w (uw_c w h)
  have hl : lv_has ls 4 [(0, .int b)] := hl
  refine lv_lconst (v := 0) hx hb dX9_mindsOfA_0 (by decide) ?_
  refine lv_lstore_n (lv' := [(1, .long 0), (0, .int b)]) hx hb dX9_mindsOfA_1 rfl hl (by decide) rfl (fun ls hl => ?_)
  refine n_iconst (v := 0) hx hb dX9_mindsOfA_2 (by decide) ?_
  refine lv_istore_n (lv' := [(3, .int (nI 0)), (1, .long 0), (0, .int b)]) hx hb dX9_mindsOfA_3 rfl hl (by decide) rfl (fun ls hl => ?_)
  have lp4 : ∀ (n : Nat) (mi : Int64) (k : Nat)  (H : Heap) (locs : List Loc) (ls : Array Slot), 8 - k < n → (k ≤ 8) → (mi = mA b k) → oW D cA B0 ad d0 H → va_S (oA B0) s.heap H locs → lv_has ls 4 [(0, .int b), (1, .long mi), (3, .int (nI k))] → W p l e (oR 1 0 0) s m ([.int b] : List Value).toArray below meth c H locs 0 0 (MQ below (oQl D cA B0 ad (fun r d1 => r = mA b 8 ∧ d0 = d1)) ([.int b] : List Value).toArray s 0 0 (oA B0)) (F0 m 4 ls []) := by
    intro n
    induction n with
    | zero => intro mi k  H locs ls hmu; exact absurd hmu (Nat.not_lt_zero _)
    | succ n ih_lp4 =>
      intro mi k  H locs ls hmu hk hmi hW hS hl
      refine lv_iload_n hx hb dX9_mindsOfA_4 rfl (lv_at hl 2 rfl) ?_
      refine n_bipush (v := 8) hx hb dX9_mindsOfA_5 (by decide) ?_
      refine n_icmp_ge (tgt := 35) hx hb (by omega) (by omega) dX9_mindsOfA_7 (by decide) (fun c_1 => ?_) (fun c_1 => ?_)
      · refine lv_lload_n hx hb dX9_mindsOfA_35 rfl (lv_at hl 1 rfl) ?_
        exact o_lret hx hb hr hlocks hW hS (⟨by rw [hmi, show k = 8 by omega], rfl⟩) dX9_mindsOfA_36
      · refine lv_iload_n hx hb dX9_mindsOfA_10 rfl (lv_at hl 0 rfl) ?_
        refine lv_iload_n hx hb dX9_mindsOfA_11 rfl (lv_at hl 2 rfl) ?_
        refine lv_ishr hx hb dX9_mindsOfA_12 ?_
        refine n_iconst (v := 1) hx hb dX9_mindsOfA_13 (by decide) ?_
        refine lv_iand hx hb dX9_mindsOfA_14 ?_
        refine lv_if_eq (tgt := 29) hx hb dX9_mindsOfA_15 (by decide) (fun c_b => ?_) (fun c_b => ?_)
        · have hst2 : mA b (k + 1) = mA b k := by rw [mA, if_pos c_b]
          refine n_iinc (q := 1) (lv' := [(3, .int (nI (k + 1))), (0, .int b), (1, .long mi)]) hx hb dX9_mindsOfA_29 hl (k := 2) rfl (by decide) (by decide) rfl (fun ls hl => ?_)
          refine lv_goto (tgt := 4) hx hb dX9_mindsOfA_32 (by decide) ?_
          exact ih_lp4 mi (k + 1) _ _ ls (by omega) (by omega) (by rw [hst2, ← hmi]) hW hS (lv_sub hl [1, 2, 0] rfl)
        · have hst2 : mA b (k + 1) = mA b k ||| lsl 255 (8 * k) := by rw [mA, if_neg c_b]
          refine lv_lload_n hx hb dX9_mindsOfA_18 rfl (lv_at hl 1 rfl) ?_
          refine lv_ldc2 (v := (255)) hx hb hown (hu _ uK_X9_217) dX9_mindsOfA_19 ?_
          refine n_bipush (v := 8) hx hb dX9_mindsOfA_22 (by decide) ?_
          refine lv_iload_n hx hb dX9_mindsOfA_24 rfl (lv_at hl 2 rfl) ?_
          refine n_imul hx hb dX9_mindsOfA_25 ?_
          refine lv_lshl (v := lsl (255) (8 * k)) hx hb dX9_mindsOfA_26 rfl ?_
          refine lv_lor hx hb dX9_mindsOfA_27 ?_
          refine lv_lstore_n (lv' := [(1, .long (mi ||| (lsl (255) (8 * k)))), (0, .int b), (3, .int (nI k))]) hx hb dX9_mindsOfA_28 rfl hl (by decide) rfl (fun ls hl => ?_)
          refine n_iinc (q := 1) (lv' := [(3, .int (nI (k + 1))), (1, .long (mi ||| (lsl (255) (8 * k)))), (0, .int b)]) hx hb dX9_mindsOfA_29 hl (k := 2) rfl (by decide) (by decide) rfl (fun ls hl => ?_)
          refine lv_goto (tgt := 4) hx hb dX9_mindsOfA_32 (by decide) ?_
          exact ih_lp4 (mi ||| (lsl (255) (8 * k))) (k + 1) _ _ ls (by omega) (by omega) (by rw [hst2, ← hmi]) hW hS (lv_sub hl [2, 1, 0] rfl)
  exact lp4 (9) 0 0 _ _ ls (by omega) (by omega) rfl hW hS (lv_sub hl [2, 1, 0] rfl)

set_option maxHeartbeats 400000 in
set_option maxRecDepth 100000 in
theorem c_X5_behindDay (l : Launch) (D : va_G) (cA : Nat → ClassId) (B0 : Nat) (ad : kA) (hal : mAl ad) (d0 : kD) (q : Nat × Nat) (gg b : Nat) (h1 : q.1 ≤ 200) (h2 : q.2 ≤ 200) (hg : gg ≤ 200) (hb8 : b < 8) : oM l yX5_behindDay wX5_behindDay 1 0 0 D cA B0 ad d0 ([.int (nI (pkd q)), .int (nI gg), .int (nI b)] : List Value) (oQi D cA B0 ad (fun r d1 => r = nI (pkd (sStep q.1 gg b, max q.2 (sStep q.1 gg b))) ∧ d0 = d1)) := by
  refine o_ofW (cc := cX5_behindDay) (maxL := 5) (ret := some .int) (by decide) rfl (Nat.le_of_ble_eq_true rfl) ?_
  intro p e s m below meth c hx hb hr hml hts hown hlocks hnm hK hW hB hS ls hl
  have hu : ∀ w ∈ UW, w.before _ s = true := fun w h => hts w (uw_c w h)
  have hl : lv_has ls 5 [(0, .int (nI (pkd q))), (1, .int (nI gg)), (2, .int (nI b))] := hl
  refine lv_iload_n hx hb dX5_behindDay_0 rfl (lv_at hl 0 rfl) ?_
  refine n_sipush (v := 255) hx hb dX5_behindDay_1 (by decide) ?_
  refine lv_iand hx hb dX5_behindDay_4 ?_
  refine n_topi (y := nI q.1) (pkd_lo h1 h2) ?_
  refine lv_istore_n (lv' := [(3, .int (nI q.1)), (0, .int (nI (pkd q))), (1, .int (nI gg)), (2, .int (nI b))]) hx hb dX5_behindDay_5 rfl hl (by decide) rfl (fun ls hl => ?_)
  refine lv_iload_n hx hb dX5_behindDay_6 rfl (lv_at hl 1 rfl) ?_
  refine n_bipush (v := 8) hx hb dX5_behindDay_7 (by decide) ?_
  refine lv_ishr hx hb dX5_behindDay_9 ?_
  refine n_topi (y := nI q.2) (pkd_hi h1 h2) ?_
  refine lv_istore (lv' := [(4, .int (nI q.2)), (3, .int (nI q.1)), (0, .int (nI (pkd q))), (1, .int (nI gg)), (2, .int (nI b))]) hx hb dX5_behindDay_10 hl (by decide) rfl (fun ls hl => ?_)
  refine lv_iload_n hx hb dX5_behindDay_12 rfl (lv_at hl 3 rfl) ?_
  refine lv_iload_n hx hb dX5_behindDay_13 rfl (lv_at hl 1 rfl) ?_
  have j41 : ∀ (hh : Nat)  (H : Heap) (locs : List Loc) (ls : Array Slot), (hh = sStep q.1 gg b) → oW D cA B0 ad d0 H → va_S (oA B0) s.heap H locs → lv_has ls 5 [(0, .int (nI (pkd q))), (1, .int (nI gg)), (2, .int (nI b)), (3, .int (nI hh)), (4, .int (nI q.2))] → W p l e (oR 1 0 0) s m ([.int (nI (pkd q)), .int (nI gg), .int (nI b)] : List Value).toArray below meth c H locs 0 0 (MQ below (oQi D cA B0 ad (fun r d1 => r = nI (pkd (sStep q.1 gg b, max q.2 (sStep q.1 gg b))) ∧ d0 = d1)) ([.int (nI (pkd q)), .int (nI gg), .int (nI b)] : List Value).toArray s 0 0 (oA B0)) (F0 m 41 ls []) := by
    intro hh  H locs ls hhh hW hS hl
    have hb2 : hh ≤ 200 := by rw [hhh]; exact sStep_le (by omega) hg (by omega)
    refine lv_iload_n hx hb dX5_behindDay_41 rfl (lv_at hl 3 rfl) ?_
    refine lv_iload hx hb dX5_behindDay_42 (lv_at hl 4 rfl) ?_
    have j53 : ∀ (mx : Nat)  (H : Heap) (locs : List Loc) (ls : Array Slot), (mx = max q.2 hh) → oW D cA B0 ad d0 H → va_S (oA B0) s.heap H locs → lv_has ls 5 [(0, .int (nI (pkd q))), (1, .int (nI gg)), (2, .int (nI b)), (3, .int (nI hh)), (4, .int (nI q.2))] → W p l e (oR 1 0 0) s m ([.int (nI (pkd q)), .int (nI gg), .int (nI b)] : List Value).toArray below meth c H locs 0 0 (MQ below (oQi D cA B0 ad (fun r d1 => r = nI (pkd (sStep q.1 gg b, max q.2 (sStep q.1 gg b))) ∧ d0 = d1)) ([.int (nI (pkd q)), .int (nI gg), .int (nI b)] : List Value).toArray s 0 0 (oA B0)) (F0 m 53 ls [.int (nI mx)]) := by
      intro mx  H locs ls hmx hW hS hl
      refine n_bipush (v := 8) hx hb dX5_behindDay_53 (by decide) ?_
      refine lv_ishl hx hb dX5_behindDay_55 ?_
      refine lv_iload_n hx hb dX5_behindDay_56 rfl (lv_at hl 3 rfl) ?_
      refine lv_ior hx hb dX5_behindDay_57 ?_
      refine n_topi (y := nI (pkd (hh, mx))) (pkd_mk (by omega) (by omega)) ?_
      exact o_iret hx hb hr hlocks hW hS (⟨by rw [hmx, hhh], rfl⟩) dX5_behindDay_58
    refine n_icmp_le (tgt := 51) hx hb (by omega) (by omega) dX5_behindDay_44 (by decide) (fun c_1 => ?_) (fun c_1 => ?_)
    · refine lv_iload hx hb dX5_behindDay_51 (lv_at hl 4 rfl) ?_
      exact j53 q.2 _ _ ls (by omega) hW hS (lv_sub hl [0, 1, 2, 3, 4] rfl)
    · refine lv_iload_n hx hb dX5_behindDay_47 rfl (lv_at hl 3 rfl) ?_
      refine lv_goto (tgt := 53) hx hb dX5_behindDay_48 (by decide) ?_
      exact j53 hh _ _ ls (by omega) hW hS (lv_sub hl [0, 1, 2, 3, 4] rfl)
  refine n_icmp_le (tgt := 30) hx hb (by omega) (by omega) dX5_behindDay_14 (by decide) (fun c_2 => ?_) (fun c_2 => ?_)
  · refine lv_iload_n hx hb dX5_behindDay_30 rfl (lv_at hl 1 rfl) ?_
    refine lv_iload_n hx hb dX5_behindDay_31 rfl (lv_at hl 1 rfl) ?_
    refine lv_iload_n hx hb dX5_behindDay_32 rfl (lv_at hl 3 rfl) ?_
    refine n_isub hx hb (by omega) dX5_behindDay_33 ?_
    refine lv_iload_n hx hb dX5_behindDay_34 rfl (lv_at hl 4 rfl) ?_
    refine n_imul hx hb dX5_behindDay_35 ?_
    refine n_bipush (v := 8) hx hb dX5_behindDay_36 (by decide) ?_
    refine n_idiv hx hb (make_prod (by omega) (by omega)) (by omega) (by omega) dX5_behindDay_38 ?_
    refine n_isub hx hb (make_sub (by omega)) dX5_behindDay_39 ?_
    refine lv_istore_n (lv' := [(3, .int (nI (q.1 - (((q.1 - gg) * b) / 8)))), (4, .int (nI q.2)), (0, .int (nI (pkd q))), (1, .int (nI gg)), (2, .int (nI b))]) hx hb dX5_behindDay_40 rfl hl (by decide) rfl (fun ls hl => ?_)
    exact j41 (q.1 - (((q.1 - gg) * b) / 8)) _ _ ls (by unfold sStep; split <;> first | omega | rfl) hW hS (lv_sub hl [2, 3, 4, 0, 1] rfl)
  · refine lv_iload_n hx hb dX5_behindDay_17 rfl (lv_at hl 1 rfl) ?_
    refine lv_iload_n hx hb dX5_behindDay_18 rfl (lv_at hl 3 rfl) ?_
    refine lv_iload_n hx hb dX5_behindDay_19 rfl (lv_at hl 1 rfl) ?_
    refine n_isub hx hb (by omega) dX5_behindDay_20 ?_
    refine n_iconst (v := 1) hx hb dX5_behindDay_21 (by decide) ?_
    refine n_iadd hx hb dX5_behindDay_22 ?_
    refine n_iconst (v := 2) hx hb dX5_behindDay_23 (by decide) ?_
    refine n_idiv hx hb (by omega) (by omega) (by omega) dX5_behindDay_24 ?_
    refine n_iadd hx hb dX5_behindDay_25 ?_
    refine lv_istore_n (lv' := [(3, .int (nI (q.1 + (((gg - q.1) + 1) / 2)))), (4, .int (nI q.2)), (0, .int (nI (pkd q))), (1, .int (nI gg)), (2, .int (nI b))]) hx hb dX5_behindDay_26 rfl hl (by decide) rfl (fun ls hl => ?_)
    refine lv_goto (tgt := 41) hx hb dX5_behindDay_27 (by decide) ?_
    exact j41 (q.1 + (((gg - q.1) + 1) / 2)) _ _ ls (by unfold sStep; split <;> first | omega | rfl) hW hS (lv_sub hl [2, 3, 4, 0, 1] rfl)
