set_option maxHeartbeats 400000 in
set_option maxRecDepth 100000 in
theorem c_Jx4a65c_size_8abf5 (l : Launch) (D : va_G) (cA : Nat → ClassId) (B0 : Nat) (ad : kA) (hal : mAl ad) (S : sS) (d0 : kD) (hX : XB cA ad S d0) (jj : Nat) (hj : jj < 4) : oM l yJx4a65c_size_8abf5 wJx4a65c_size_8abf5 1 0 0 D cA B0 ad d0 ([.ref (ad.1 4 jj)] : List Value) (oQi D cA B0 ad (fun r d1 => r = nI (xCt S jj) ∧ d0 = d1)) := by
  refine o_ofW (cc := cJx4a65c_size_8abf5) (maxL := 1) (ret := some .int) (by decide) rfl (Nat.le_of_ble_eq_true rfl) ?_
  intro p e s m below meth c hx hb hr hml hts hown hlocks hnm hK hW hB hS ls hl
  have hu : ∀ w ∈ UW, w.before _ s = true := fun w h => hts w (uw_c w h)
  have hl : lv_has ls 1 [(0, .ref (ad.1 4 jj))] := hl
  have hA := hX.1
  have hG := hX.2.2
  have hb7 : S 7 0 ≤ 8 := hG.f 7 (mx := 8) (by decide)
  have hb11 : S 11 0 ≤ 20 := hG.f 11 (mx := 20) (by decide)
  have hb18 : S 18 0 ≤ 40 := hG.f 18 (mx := 40) (by decide)
  refine lv_aload_n hx hb dJx4a65c_size_8abf5_0 rfl (lv_at hl 0 rfl) ?_
  refine x_gi hx hb hu in_Jx4a65c hown hK hW (hA.li (by omega)) (kX_4 _ _ _ _) rfl 2 (by decide) uF_Jx4a65c_48 dJx4a65c_size_8abf5_1 ?_
  refine n_topi (y := nI (xCt S jj)) (hX.2.1.size (by omega)) ?_
  exact o_iret hx hb hr hlocks hW hS (⟨rfl, rfl⟩) dJx4a65c_size_8abf5_4

set_option maxHeartbeats 400000 in
set_option maxRecDepth 100000 in
theorem c_J3_checkIndex_8e157 (l : Launch) (D : va_G) (cA : Nat → ClassId) (B0 : Nat) (ad : kA) (hal : mAl ad) (d0 : kD) (i n : Nat) (hin : i < n) (hn : n < 2 ^ 31) : oM l yJ3_checkIndex_8e157 wJ3_checkIndex_8e157 1 0 0 D cA B0 ad d0 ([.int (nI i), .int (nI n), .null] : List Value) (oQi D cA B0 ad (fun r d1 => r = nI i ∧ d0 = d1)) := by
  refine o_ofW (cc := cJ3_checkIndex_8e157) (maxL := 3) (ret := some .int) (by decide) rfl (Nat.le_of_ble_eq_true rfl) ?_
  intro p e s m below meth c hx hb hr hml hts hown hlocks hnm hK hW hB hS ls hl
  have hu : ∀ w ∈ UW, w.before _ s = true := fun w h => hts w (uw_c w h)
  have hl : lv_has ls 3 [(0, .int (nI i)), (1, .int (nI n)), (2, .null)] := hl
  refine lv_iload_n hx hb dJ3_checkIndex_8e157_0 rfl (lv_at hl 0 rfl) ?_
  refine lv_if_lt (tgt := 9) hx hb dJ3_checkIndex_8e157_1 (by decide) (fun c_0 => ?_) (fun c_0 => ?_)
  · exact absurd c_0 (nI_pos (by omega))
  · refine lv_iload_n hx hb dJ3_checkIndex_8e157_4 rfl (lv_at hl 0 rfl) ?_
    refine lv_iload_n hx hb dJ3_checkIndex_8e157_5 rfl (lv_at hl 1 rfl) ?_
    refine n_icmp_lt (tgt := 16) hx hb (by omega) (by omega) dJ3_checkIndex_8e157_6 (by decide) (fun c_1 => ?_) (fun c_1 => ?_)
    · refine lv_iload_n hx hb dJ3_checkIndex_8e157_16 rfl (lv_at hl 0 rfl) ?_
      exact o_iret hx hb hr hlocks hW hS (⟨rfl, rfl⟩) dJ3_checkIndex_8e157_17
    · exfalso; omega

set_option maxHeartbeats 400000 in
set_option maxRecDepth 100000 in
theorem c_J15_checkIndex_7cf53 (l : Launch) (D : va_G) (cA : Nat → ClassId) (B0 : Nat) (ad : kA) (hal : mAl ad) (d0 : kD) (i n : Nat) (hin : i < n) (hn : n < 2 ^ 31) : oM l yJ15_checkIndex_7cf53 wJ15_checkIndex_7cf53 2 0 0 D cA B0 ad d0 ([.int (nI i), .int (nI n)] : List Value) (oQi D cA B0 ad (fun r d1 => r = nI i ∧ d0 = d1)) := by
  refine o_ofW (cc := cJ15_checkIndex_7cf53) (maxL := 2) (ret := some .int) (by decide) rfl (Nat.le_of_ble_eq_true rfl) ?_
  intro p e s m below meth c hx hb hr hml hts hown hlocks hnm hK hW hB hS ls hl
  have hu : ∀ w ∈ UW, w.before _ s = true := fun w h => hts w (uw_c w h)
  have hl : lv_has ls 2 [(0, .int (nI i)), (1, .int (nI n))] := hl
  refine lv_iload_n hx hb dJ15_checkIndex_7cf53_0 rfl (lv_at hl 0 rfl) ?_
  refine lv_iload_n hx hb dJ15_checkIndex_7cf53_1 rfl (lv_at hl 1 rfl) ?_
  refine lv_null hx hb dJ15_checkIndex_7cf53_2 ?_
  refine o_calli (o_runS (As := [.int (nI i), .int (nI n), .null]) (rest := []) ⟨hx, hb, hml, hown, hu⟩ (c_J3_checkIndex_8e157 l D cA B0 ad hal d0 i n (by omega) (by omega)) (gS_J15_105 (fun _ h => h)) (n0 := 3) rfl (by decide +kernel) rfl ⟨Nat.le_of_ble_eq_true rfl, Nat.le_of_ble_eq_true rfl⟩ hK hW hB hS hl.1 rfl (lv_room (Nat.le_of_ble_eq_true rfl)) ⟨Nat.zero_le _, Nat.zero_le _⟩ dJ15_checkIndex_7cf53_3) hS (fun r_2 d_1 q_3 H locs hW hS => ?_)
  obtain ⟨rfl, rfl⟩ := q_3
  exact o_iret hx hb hr hlocks hW hS (⟨rfl, rfl⟩) dJ15_checkIndex_7cf53_6

set_option maxHeartbeats 400000 in
set_option maxRecDepth 100000 in
theorem c_Jx4a65c_elementData_915e3 (l : Launch) (D : va_G) (cA : Nat → ClassId) (B0 : Nat) (ad : kA) (hal : mAl ad) (S : sS) (d0 : kD) (hX : XB cA ad S d0) (jj q : Nat) (hj : jj < 4) (hq : q < xCt S jj) : oM l yJx4a65c_elementData_915e3 wJx4a65c_elementData_915e3 1 0 0 D cA B0 ad d0 ([.ref (ad.1 4 jj), .int (nI q)] : List Value) (oQq D cA B0 ad (fun r d1 => r = some (ad.1 (xKd jj) q) ∧ d0 = d1)) := by
  refine o_ofW (cc := cJx4a65c_elementData_915e3) (maxL := 2) (ret := some (.object "java/lang/Object")) (by decide) rfl (Nat.le_of_ble_eq_true rfl) ?_
  intro p e s m below meth c hx hb hr hml hts hown hlocks hnm hK hW hB hS ls hl
  have hu : ∀ w ∈ UW, w.before _ s = true := fun w h => hts w (uw_c w h)
  have hl : lv_has ls 2 [(0, .ref (ad.1 4 jj)), (1, .int (nI q))] := hl
  have hA := hX.1
  have hG := hX.2.2
  have hb7 : S 7 0 ≤ 8 := hG.f 7 (mx := 8) (by decide)
  have hb11 : S 11 0 ≤ 20 := hG.f 11 (mx := 20) (by decide)
  have hb18 : S 18 0 ≤ 40 := hG.f 18 (mx := 40) (by decide)
  have hcp := hA.cap hj hq
  refine lv_aload_n hx hb dJx4a65c_elementData_915e3_0 rfl (lv_at hl 0 rfl) ?_
  refine x_gz hx hb hu in_Jx4a65c hown hK hW (hA.li (by omega)) (kX_4 _ _ _ _) rfl 1 (by decide) uF_Jx4a65c_9 (hA.arr hj hq) dJx4a65c_elementData_915e3_1 ?_
  refine lv_iload_n hx hb dJx4a65c_elementData_915e3_4 rfl (lv_at hl 1 rfl) ?_
  refine x_al hx hb hK hW (hA.arr hj hq).2 3 (kX_5 _ _ _ _) rfl (by omega) hcp.1 (hA.el hj hq) dJx4a65c_elementData_915e3_5 ?_
  exact o_qret (r := some (ad.1 (xKd jj) q)) rfl hx hb hr hlocks (Or.inl ⟨_, rfl⟩) hW hS (⟨rfl, rfl⟩) dJx4a65c_elementData_915e3_6

set_option maxHeartbeats 400000 in
set_option maxRecDepth 100000 in
theorem c_Jx4a65c_get_915e3 (l : Launch) (D : va_G) (cA : Nat → ClassId) (B0 : Nat) (ad : kA) (hal : mAl ad) (S : sS) (d0 : kD) (hX : XB cA ad S d0) (jj q : Nat) (hj : jj < 4) (hq : q < xCt S jj) : oM l yJx4a65c_get_915e3 wJx4a65c_get_915e3 3 0 0 D cA B0 ad d0 ([.ref (ad.1 4 jj), .int (nI q)] : List Value) (oQq D cA B0 ad (fun r d1 => r = some (ad.1 (xKd jj) q) ∧ d0 = d1)) := by
  refine o_ofW (cc := cJx4a65c_get_915e3) (maxL := 2) (ret := some (.object "java/lang/Object")) (by decide) rfl (Nat.le_of_ble_eq_true rfl) ?_
  intro p e s m below meth c hx hb hr hml hts hown hlocks hnm hK hW hB hS ls hl
  have hu : ∀ w ∈ UW, w.before _ s = true := fun w h => hts w (uw_c w h)
  have hl : lv_has ls 2 [(0, .ref (ad.1 4 jj)), (1, .int (nI q))] := hl
  have hA := hX.1
  have hG := hX.2.2
  have hb7 : S 7 0 ≤ 8 := hG.f 7 (mx := 8) (by decide)
  have hb11 : S 11 0 ≤ 20 := hG.f 11 (mx := 20) (by decide)
  have hb18 : S 18 0 ≤ 40 := hG.f 18 (mx := 40) (by decide)
  have hcp := hA.cap hj hq
  have hc60 : xCt S jj ≤ 60 := by rcases (hA.ls hj).1 with z | z <;> omega
  refine lv_iload_n hx hb dJx4a65c_get_915e3_0 rfl (lv_at hl 1 rfl) ?_
  refine lv_aload_n hx hb dJx4a65c_get_915e3_1 rfl (lv_at hl 0 rfl) ?_
  refine x_gi hx hb hu in_Jx4a65c hown hK hW (hA.li (by omega)) (kX_4 _ _ _ _) rfl 2 (by decide) uF_Jx4a65c_48 dJx4a65c_get_915e3_2 ?_
  refine n_topi (y := nI (xCt S jj)) (hX.2.1.size (by omega)) ?_
  refine o_calli (o_runS (As := [.int (nI q), .int (nI (xCt S jj))]) (rest := []) ⟨hx, hb, hml, hown, hu⟩ (c_J15_checkIndex_7cf53 l D cA B0 ad hal d0 q (xCt S jj) (by omega) (by omega)) (gS_Jx4a65c_118 (fun _ h => h)) (n0 := 2) rfl (by decide +kernel) rfl ⟨Nat.le_of_ble_eq_true rfl, Nat.le_of_ble_eq_true rfl⟩ hK hW hB hS hl.1 rfl (lv_room (Nat.le_of_ble_eq_true rfl)) ⟨Nat.zero_le _, Nat.zero_le _⟩ dJx4a65c_get_915e3_5) hS (fun r_2 d_1 q_3 H locs hW hS => ?_)
  obtain ⟨rfl, rfl⟩ := q_3
  refine lv_pop hx hb dJx4a65c_get_915e3_8 rfl ?_
  refine lv_aload_n hx hb dJx4a65c_get_915e3_9 rfl (lv_at hl 0 rfl) ?_
  refine lv_iload_n hx hb dJx4a65c_get_915e3_10 rfl (lv_at hl 1 rfl) ?_
  refine o_callq (o_runV (As := [.int (nI q)]) (rest := []) ⟨hx, hb, hml, hown, hu⟩ (c_Jx4a65c_elementData_915e3 l D cA B0 ad hal S d0 hX jj q hj hq) (gV_Jx4a65c_123 (fun _ h => h)) (n0 := 1) rfl (by decide +kernel) rfl ⟨Nat.le_of_ble_eq_true rfl, Nat.le_of_ble_eq_true rfl⟩ (o_recv hK hW (hA.li (by omega)) (kX_4 _ _ _ _) rfl) hK hW hB hS hl.1 rfl (lv_room (Nat.le_of_ble_eq_true rfl)) ⟨Nat.zero_le _, Nat.zero_le _⟩ dJx4a65c_get_915e3_11) hS (fun r_5 d_4 q_6 H locs hW hS => ?_)
  obtain ⟨rfl, rfl⟩ := q_6
  refine W.eq (g2 := F0 m 14 ls [.ref (ad.1 (xKd jj) q)]) rfl ?_
  exact o_qret (r := some (ad.1 (xKd jj) q)) rfl hx hb hr hlocks (Or.inl ⟨_, rfl⟩) hW hS (⟨rfl, rfl⟩) dJx4a65c_get_915e3_14

set_option maxHeartbeats 400000 in
set_option maxRecDepth 100000 in
theorem c_X9_pierOf (l : Launch) (D : va_G) (cA : Nat → ClassId) (B0 : Nat) (ad : kA) (hal : mAl ad) (S : sS) (d0 : kD) (hX : XB cA ad S d0) (v : Int32) : oM l yX9_pierOf wX9_pierOf 4 0 0 D cA B0 ad d0 ([.ref (ad.1 0 0), .int v] : List Value) (oQq D cA B0 ad (fun r d1 => r = (if ix v (S 7 0) = true then some (ad.1 6 (nx v)) else none) ∧ d0 = d1)) := by
  refine o_ofW (cc := cX9_pierOf) (maxL := 2) (ret := some (.object "RiverFeet$Pier")) (by decide) rfl (Nat.le_of_ble_eq_true rfl) ?_
  intro p e s m below meth c hx hb hr hml hts hown hlocks hnm hK hW hB hS ls hl
  have hu : ∀ w ∈ UW, w.before _ s = true := fun w h => hts w (uw_c w h)
  have hl : lv_has ls 2 [(0, .ref (ad.1 0 0)), (1, .int v)] := hl
  have hA := hX.1
  have hG := hX.2.2
  have hb7 : S 7 0 ≤ 8 := hG.f 7 (mx := 8) (by decide)
  have hb11 : S 11 0 ≤ 20 := hG.f 11 (mx := 20) (by decide)
  have hb18 : S 18 0 ≤ 40 := hG.f 18 (mx := 40) (by decide)
  have hb25 : S 25 0 ≤ 4 := hG.f 25 (mx := 4) (by decide)
  have hb30 : S 30 0 ≤ 10 := hG.f 30 (mx := 10) (by decide)
  refine lv_iload_n hx hb dX9_pierOf_0 rfl (lv_at hl 1 rfl) ?_
  refine n_iconst (v := 0) hx hb dX9_pierOf_1 (by decide) ?_
  refine lv_aload_n hx hb dX9_pierOf_2 rfl (lv_at hl 0 rfl) ?_
  refine x_gr hx hb hu in_X9 hown hK hW (hA.o (k := 0) rfl) (kX_0 _ _ _ _) rfl 2 (by decide) uF_X9_21 (hA.f 2 (k := 4) (i := 0) (by decide) (hA.li (by omega))) dX9_pierOf_3 ?_
  refine o_calli (o_runV (As := []) (rest := [.int (nI 0), .int v]) ⟨hx, hb, hml, hown, hu⟩ (c_Jx4a65c_size_8abf5 l D cA B0 ad hal S d0 hX 0 (by decide)) (gV_X9_105 (fun _ h => h)) (n0 := 0) rfl (by decide +kernel) rfl ⟨Nat.le_of_ble_eq_true rfl, Nat.le_of_ble_eq_true rfl⟩ (o_recv hK hW (hA.li (by omega)) (kX_4 _ _ _ _) rfl) hK hW hB hS hl.1 rfl (lv_room (Nat.le_of_ble_eq_true rfl)) ⟨Nat.zero_le _, Nat.zero_le _⟩ dX9_pierOf_6) hS (fun r_2 d_1 q_3 H locs hW hS => ?_)
  obtain ⟨rfl, rfl⟩ := q_3
  refine n_topi (y := nI (S 7 0)) rfl ?_
  refine n_iconst (v := 1) hx hb dX9_pierOf_9 (by decide) ?_
  refine lv_isub hx hb dX9_pierOf_10 ?_
  refine o_calli (o_runS (As := [.int v, .int (nI 0), .int ((nI (S 7 0)) - (nI 1))]) (rest := []) ⟨hx, hb, hml, hown, hu⟩ (c_X9_within l D cA B0 ad hal d0 v (nI 0) ((nI (S 7 0)) - (nI 1))) (gS_X9_85 (fun _ h => h)) (n0 := 3) rfl (by decide +kernel) rfl ⟨Nat.le_of_ble_eq_true rfl, Nat.le_of_ble_eq_true rfl⟩ hK hW hB hS hl.1 rfl (lv_room (Nat.le_of_ble_eq_true rfl)) ⟨Nat.zero_le _, Nat.zero_le _⟩ dX9_pierOf_11) hS (fun r_5 d_4 q_6 H locs hW hS => ?_)
  obtain ⟨rfl, rfl⟩ := q_6
  refine n_topi (y := bI (ix v (S 7 0))) (in_ix (by omega)) ?_
  refine lv_if_eq (tgt := 31) hx hb dX9_pierOf_14 (by decide) (fun c_7 => ?_) (fun c_7 => ?_)
  · refine lv_null hx hb dX9_pierOf_31 ?_
    exact o_qret (r := none) rfl hx hb hr hlocks (Or.inl ⟨_, rfl⟩) hW hS (⟨by simp only [bI_z c_7, eq_self, ↓reduceIte, Bool.false_eq_true], rfl⟩) dX9_pierOf_32
  · obtain ⟨vn, hvn, rfl⟩ := ix_t (bI_n c_7) (by omega)
    refine lv_aload_n hx hb dX9_pierOf_17 rfl (lv_at hl 0 rfl) ?_
    refine x_gr hx hb hu in_X9 hown hK hW (hA.o (k := 0) rfl) (kX_0 _ _ _ _) rfl 2 (by decide) uF_X9_21 (hA.f 2 (k := 4) (i := 0) (by decide) (hA.li (by omega))) dX9_pierOf_18 ?_
    refine lv_iload_n hx hb dX9_pierOf_21 rfl (lv_at hl 1 rfl) ?_
    refine o_callq (o_runV (As := [.int (nI vn)]) (rest := []) ⟨hx, hb, hml, hown, hu⟩ (c_Jx4a65c_get_915e3 l D cA B0 ad hal S d0 hX 0 vn (by decide) (show vn < S 7 0 by omega)) (gV_X9_109 (fun _ h => h)) (n0 := 1) rfl (by decide +kernel) rfl ⟨Nat.le_of_ble_eq_true rfl, Nat.le_of_ble_eq_true rfl⟩ (o_recv hK hW (hA.li (by omega)) (kX_4 _ _ _ _) rfl) hK hW hB hS hl.1 rfl (lv_room (Nat.le_of_ble_eq_true rfl)) ⟨Nat.zero_le _, Nat.zero_le _⟩ dX9_pierOf_22) hS (fun r_9 d_8 q_10 H locs hW hS => ?_)
    obtain ⟨rfl, rfl⟩ := q_10
    refine W.eq (g2 := F0 m 25 ls [.ref (ad.1 6 vn)]) rfl ?_
    refine x_cast hx hb hu hown uL_X9_113 hK hW (hA.pier (by omega)) (kX_6 _ _ _ _) rfl dX9_pierOf_25 ?_
    refine lv_goto (tgt := 32) hx hb dX9_pierOf_28 (by decide) ?_
    exact o_qret (r := some (ad.1 6 vn)) rfl hx hb hr hlocks (Or.inl ⟨_, rfl⟩) hW hS (⟨by simp only [ix_nI hvn (by omega), nx_nI (j := vn) (by omega), eq_self, ↓reduceIte, Bool.false_eq_true], rfl⟩) dX9_pierOf_32

set_option maxHeartbeats 400000 in
set_option maxRecDepth 100000 in
theorem c_X9_lookOf (l : Launch) (D : va_G) (cA : Nat → ClassId) (B0 : Nat) (ad : kA) (hal : mAl ad) (S : sS) (d0 : kD) (hX : XB cA ad S d0) (v : Int32) : oM l yX9_lookOf wX9_lookOf 4 0 0 D cA B0 ad d0 ([.ref (ad.1 0 0), .int v] : List Value) (oQq D cA B0 ad (fun r d1 => r = (if ix v (S 18 0) = true then some (ad.1 8 (nx v)) else none) ∧ d0 = d1)) := by
  refine o_ofW (cc := cX9_lookOf) (maxL := 2) (ret := some (.object "RiverFeet$Look")) (by decide) rfl (Nat.le_of_ble_eq_true rfl) ?_
  intro p e s m below meth c hx hb hr hml hts hown hlocks hnm hK hW hB hS ls hl
  have hu : ∀ w ∈ UW, w.before _ s = true := fun w h => hts w (uw_c w h)
  have hl : lv_has ls 2 [(0, .ref (ad.1 0 0)), (1, .int v)] := hl
  have hA := hX.1
  have hG := hX.2.2
  have hb7 : S 7 0 ≤ 8 := hG.f 7 (mx := 8) (by decide)
  have hb11 : S 11 0 ≤ 20 := hG.f 11 (mx := 20) (by decide)
  have hb18 : S 18 0 ≤ 40 := hG.f 18 (mx := 40) (by decide)
  have hb25 : S 25 0 ≤ 4 := hG.f 25 (mx := 4) (by decide)
  have hb30 : S 30 0 ≤ 10 := hG.f 30 (mx := 10) (by decide)
  refine lv_iload_n hx hb dX9_lookOf_0 rfl (lv_at hl 1 rfl) ?_
  refine n_iconst (v := 0) hx hb dX9_lookOf_1 (by decide) ?_
  refine lv_aload_n hx hb dX9_lookOf_2 rfl (lv_at hl 0 rfl) ?_
  refine x_gr hx hb hu in_X9 hown hK hW (hA.o (k := 0) rfl) (kX_0 _ _ _ _) rfl 3 (by decide) uF_X9_25 (hA.f 3 (k := 4) (i := 1) (by decide) (hA.li (by omega))) dX9_lookOf_3 ?_
  refine o_calli (o_runV (As := []) (rest := [.int (nI 0), .int v]) ⟨hx, hb, hml, hown, hu⟩ (c_Jx4a65c_size_8abf5 l D cA B0 ad hal S d0 hX 1 (by decide)) (gV_X9_105 (fun _ h => h)) (n0 := 0) rfl (by decide +kernel) rfl ⟨Nat.le_of_ble_eq_true rfl, Nat.le_of_ble_eq_true rfl⟩ (o_recv hK hW (hA.li (by omega)) (kX_4 _ _ _ _) rfl) hK hW hB hS hl.1 rfl (lv_room (Nat.le_of_ble_eq_true rfl)) ⟨Nat.zero_le _, Nat.zero_le _⟩ dX9_lookOf_6) hS (fun r_2 d_1 q_3 H locs hW hS => ?_)
  obtain ⟨rfl, rfl⟩ := q_3
  refine n_topi (y := nI (S 18 0)) rfl ?_
  refine n_iconst (v := 1) hx hb dX9_lookOf_9 (by decide) ?_
  refine lv_isub hx hb dX9_lookOf_10 ?_
  refine o_calli (o_runS (As := [.int v, .int (nI 0), .int ((nI (S 18 0)) - (nI 1))]) (rest := []) ⟨hx, hb, hml, hown, hu⟩ (c_X9_within l D cA B0 ad hal d0 v (nI 0) ((nI (S 18 0)) - (nI 1))) (gS_X9_85 (fun _ h => h)) (n0 := 3) rfl (by decide +kernel) rfl ⟨Nat.le_of_ble_eq_true rfl, Nat.le_of_ble_eq_true rfl⟩ hK hW hB hS hl.1 rfl (lv_room (Nat.le_of_ble_eq_true rfl)) ⟨Nat.zero_le _, Nat.zero_le _⟩ dX9_lookOf_11) hS (fun r_5 d_4 q_6 H locs hW hS => ?_)
  obtain ⟨rfl, rfl⟩ := q_6
  refine n_topi (y := bI (ix v (S 18 0))) (in_ix (by omega)) ?_
  refine lv_if_eq (tgt := 31) hx hb dX9_lookOf_14 (by decide) (fun c_7 => ?_) (fun c_7 => ?_)
  · refine lv_null hx hb dX9_lookOf_31 ?_
    exact o_qret (r := none) rfl hx hb hr hlocks (Or.inl ⟨_, rfl⟩) hW hS (⟨by simp only [bI_z c_7, eq_self, ↓reduceIte, Bool.false_eq_true], rfl⟩) dX9_lookOf_32
  · obtain ⟨vn, hvn, rfl⟩ := ix_t (bI_n c_7) (by omega)
    refine lv_aload_n hx hb dX9_lookOf_17 rfl (lv_at hl 0 rfl) ?_
    refine x_gr hx hb hu in_X9 hown hK hW (hA.o (k := 0) rfl) (kX_0 _ _ _ _) rfl 3 (by decide) uF_X9_25 (hA.f 3 (k := 4) (i := 1) (by decide) (hA.li (by omega))) dX9_lookOf_18 ?_
    refine lv_iload_n hx hb dX9_lookOf_21 rfl (lv_at hl 1 rfl) ?_
    refine o_callq (o_runV (As := [.int (nI vn)]) (rest := []) ⟨hx, hb, hml, hown, hu⟩ (c_Jx4a65c_get_915e3 l D cA B0 ad hal S d0 hX 1 vn (by decide) (show vn < S 18 0 by omega)) (gV_X9_109 (fun _ h => h)) (n0 := 1) rfl (by decide +kernel) rfl ⟨Nat.le_of_ble_eq_true rfl, Nat.le_of_ble_eq_true rfl⟩ (o_recv hK hW (hA.li (by omega)) (kX_4 _ _ _ _) rfl) hK hW hB hS hl.1 rfl (lv_room (Nat.le_of_ble_eq_true rfl)) ⟨Nat.zero_le _, Nat.zero_le _⟩ dX9_lookOf_22) hS (fun r_9 d_8 q_10 H locs hW hS => ?_)
    obtain ⟨rfl, rfl⟩ := q_10
    refine W.eq (g2 := F0 m 25 ls [.ref (ad.1 8 vn)]) rfl ?_
    refine x_cast hx hb hu hown uL_X9_116 hK hW (hA.look (by omega)) (kX_8 _ _ _ _) rfl dX9_lookOf_25 ?_
    refine lv_goto (tgt := 32) hx hb dX9_lookOf_28 (by decide) ?_
    exact o_qret (r := some (ad.1 8 vn)) rfl hx hb hr hlocks (Or.inl ⟨_, rfl⟩) hW hS (⟨by simp only [ix_nI hvn (by omega), nx_nI (j := vn) (by omega), eq_self, ↓reduceIte, Bool.false_eq_true], rfl⟩) dX9_lookOf_32

set_option maxHeartbeats 400000 in
set_option maxRecDepth 100000 in
theorem c_X9_bridgeOf (l : Launch) (D : va_G) (cA : Nat → ClassId) (B0 : Nat) (ad : kA) (hal : mAl ad) (S : sS) (d0 : kD) (hX : XB cA ad S d0) (v : Int32) : oM l yX9_bridgeOf wX9_bridgeOf 4 0 0 D cA B0 ad d0 ([.ref (ad.1 0 0), .int v] : List Value) (oQq D cA B0 ad (fun r d1 => r = (if ix v (S 25 0) = true then some (ad.1 9 (nx v)) else none) ∧ d0 = d1)) := by
  refine o_ofW (cc := cX9_bridgeOf) (maxL := 2) (ret := some (.object "RiverFeet$Bridge")) (by decide) rfl (Nat.le_of_ble_eq_true rfl) ?_
  intro p e s m below meth c hx hb hr hml hts hown hlocks hnm hK hW hB hS ls hl
  have hu : ∀ w ∈ UW, w.before _ s = true := fun w h => hts w (uw_c w h)
  have hl : lv_has ls 2 [(0, .ref (ad.1 0 0)), (1, .int v)] := hl
  have hA := hX.1
  have hG := hX.2.2
  have hb7 : S 7 0 ≤ 8 := hG.f 7 (mx := 8) (by decide)
  have hb11 : S 11 0 ≤ 20 := hG.f 11 (mx := 20) (by decide)
  have hb18 : S 18 0 ≤ 40 := hG.f 18 (mx := 40) (by decide)
  have hb25 : S 25 0 ≤ 4 := hG.f 25 (mx := 4) (by decide)
  have hb30 : S 30 0 ≤ 10 := hG.f 30 (mx := 10) (by decide)
  refine lv_iload_n hx hb dX9_bridgeOf_0 rfl (lv_at hl 1 rfl) ?_
  refine n_iconst (v := 0) hx hb dX9_bridgeOf_1 (by decide) ?_
  refine lv_aload_n hx hb dX9_bridgeOf_2 rfl (lv_at hl 0 rfl) ?_
  refine x_gr hx hb hu in_X9 hown hK hW (hA.o (k := 0) rfl) (kX_0 _ _ _ _) rfl 4 (by decide) uF_X9_28 (hA.f 4 (k := 4) (i := 2) (by decide) (hA.li (by omega))) dX9_bridgeOf_3 ?_
  refine o_calli (o_runV (As := []) (rest := [.int (nI 0), .int v]) ⟨hx, hb, hml, hown, hu⟩ (c_Jx4a65c_size_8abf5 l D cA B0 ad hal S d0 hX 2 (by decide)) (gV_X9_105 (fun _ h => h)) (n0 := 0) rfl (by decide +kernel) rfl ⟨Nat.le_of_ble_eq_true rfl, Nat.le_of_ble_eq_true rfl⟩ (o_recv hK hW (hA.li (by omega)) (kX_4 _ _ _ _) rfl) hK hW hB hS hl.1 rfl (lv_room (Nat.le_of_ble_eq_true rfl)) ⟨Nat.zero_le _, Nat.zero_le _⟩ dX9_bridgeOf_6) hS (fun r_2 d_1 q_3 H locs hW hS => ?_)
  obtain ⟨rfl, rfl⟩ := q_3
  refine n_topi (y := nI (S 25 0)) rfl ?_
  refine n_iconst (v := 1) hx hb dX9_bridgeOf_9 (by decide) ?_
  refine lv_isub hx hb dX9_bridgeOf_10 ?_
  refine o_calli (o_runS (As := [.int v, .int (nI 0), .int ((nI (S 25 0)) - (nI 1))]) (rest := []) ⟨hx, hb, hml, hown, hu⟩ (c_X9_within l D cA B0 ad hal d0 v (nI 0) ((nI (S 25 0)) - (nI 1))) (gS_X9_85 (fun _ h => h)) (n0 := 3) rfl (by decide +kernel) rfl ⟨Nat.le_of_ble_eq_true rfl, Nat.le_of_ble_eq_true rfl⟩ hK hW hB hS hl.1 rfl (lv_room (Nat.le_of_ble_eq_true rfl)) ⟨Nat.zero_le _, Nat.zero_le _⟩ dX9_bridgeOf_11) hS (fun r_5 d_4 q_6 H locs hW hS => ?_)
  obtain ⟨rfl, rfl⟩ := q_6
  refine n_topi (y := bI (ix v (S 25 0))) (in_ix (by omega)) ?_
  refine lv_if_eq (tgt := 31) hx hb dX9_bridgeOf_14 (by decide) (fun c_7 => ?_) (fun c_7 => ?_)
  · refine lv_null hx hb dX9_bridgeOf_31 ?_
    exact o_qret (r := none) rfl hx hb hr hlocks (Or.inl ⟨_, rfl⟩) hW hS (⟨by simp only [bI_z c_7, eq_self, ↓reduceIte, Bool.false_eq_true], rfl⟩) dX9_bridgeOf_32
  · obtain ⟨vn, hvn, rfl⟩ := ix_t (bI_n c_7) (by omega)
    refine lv_aload_n hx hb dX9_bridgeOf_17 rfl (lv_at hl 0 rfl) ?_
    refine x_gr hx hb hu in_X9 hown hK hW (hA.o (k := 0) rfl) (kX_0 _ _ _ _) rfl 4 (by decide) uF_X9_28 (hA.f 4 (k := 4) (i := 2) (by decide) (hA.li (by omega))) dX9_bridgeOf_18 ?_
    refine lv_iload_n hx hb dX9_bridgeOf_21 rfl (lv_at hl 1 rfl) ?_
    refine o_callq (o_runV (As := [.int (nI vn)]) (rest := []) ⟨hx, hb, hml, hown, hu⟩ (c_Jx4a65c_get_915e3 l D cA B0 ad hal S d0 hX 2 vn (by decide) (show vn < S 25 0 by omega)) (gV_X9_109 (fun _ h => h)) (n0 := 1) rfl (by decide +kernel) rfl ⟨Nat.le_of_ble_eq_true rfl, Nat.le_of_ble_eq_true rfl⟩ (o_recv hK hW (hA.li (by omega)) (kX_4 _ _ _ _) rfl) hK hW hB hS hl.1 rfl (lv_room (Nat.le_of_ble_eq_true rfl)) ⟨Nat.zero_le _, Nat.zero_le _⟩ dX9_bridgeOf_22) hS (fun r_9 d_8 q_10 H locs hW hS => ?_)
    obtain ⟨rfl, rfl⟩ := q_10
    refine W.eq (g2 := F0 m 25 ls [.ref (ad.1 9 vn)]) rfl ?_
    refine x_cast hx hb hu hown uL_X9_290 hK hW (hA.brid (by omega)) (kX_9 _ _ _ _) rfl dX9_bridgeOf_25 ?_
    refine lv_goto (tgt := 32) hx hb dX9_bridgeOf_28 (by decide) ?_
    exact o_qret (r := some (ad.1 9 vn)) rfl hx hb hr hlocks (Or.inl ⟨_, rfl⟩) hW hS (⟨by simp only [ix_nI hvn (by omega), nx_nI (j := vn) (by omega), eq_self, ↓reduceIte, Bool.false_eq_true], rfl⟩) dX9_bridgeOf_32
