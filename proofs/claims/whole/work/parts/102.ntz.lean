set_option maxHeartbeats 400000 in
set_option maxRecDepth 100000 in
theorem c_J6_numberOfTrailingZeros_0f7a4 (l : Launch) (D : va_G) (cA : Nat → ClassId) (B0 : Nat) (ad : kA) (hal : mAl ad) (d0 : kD) (n m0 : Nat) (hm : m0 < 32) (hbt : n.testBit m0 = true) (hlo : ∀ j, j < m0 → n.testBit j = false) : oM l yJ6_numberOfTrailingZeros_0f7a4 wJ6_numberOfTrailingZeros_0f7a4 1 0 0 D cA B0 ad d0 ([.int (nI n)] : List Value) (oQi D cA B0 ad (fun r d1 => r = nI m0 ∧ d0 = d1)) := by
  refine o_ofW (cc := cJ6_numberOfTrailingZeros_0f7a4) (maxL := 2) (ret := some .int) (by decide) rfl (Nat.le_of_ble_eq_true rfl) ?_
  intro p e s m below meth c hx hb hr hml hts hown hlocks hnm hK hW hB hS ls hl
  have hu : ∀ w ∈ UW, w.before _ s = true := fun w h => hts w (uw_c w h)
  have hl : lv_has ls 2 [(0, .int (nI n))] := hl
  obtain ⟨q, hq⟩ : ∃ q, q = 2 ^ m0 - 1 := ⟨_, rfl⟩
  have hq31 : q < 2 ^ 31 := by have := Nat.pow_le_pow_right (n := 2) (by decide) (show m0 ≤ 31 by omega); omega
  refine lv_iload_n hx hb dJ6_numberOfTrailingZeros_0f7a4_0 rfl (lv_at hl 0 rfl) ?_
  refine lv_iconst (v := -1) hx hb dJ6_numberOfTrailingZeros_0f7a4_1 (by decide) ?_
  refine lv_ixor hx hb dJ6_numberOfTrailingZeros_0f7a4_2 ?_
  refine lv_iload_n hx hb dJ6_numberOfTrailingZeros_0f7a4_3 rfl (lv_at hl 0 rfl) ?_
  refine n_iconst (v := 1) hx hb dJ6_numberOfTrailingZeros_0f7a4_4 (by decide) ?_
  refine lv_isub hx hb dJ6_numberOfTrailingZeros_0f7a4_5 ?_
  refine lv_iand hx hb dJ6_numberOfTrailingZeros_0f7a4_6 ?_
  refine n_topi (y := nI q) (by rw [hq]; exact ntz_q hm hbt hlo) ?_
  refine lv_istore_n (lv' := [(0, .int (nI q))]) hx hb dJ6_numberOfTrailingZeros_0f7a4_7 rfl hl (by decide) rfl (fun ls hl => ?_)
  refine lv_iload_n hx hb dJ6_numberOfTrailingZeros_0f7a4_8 rfl (lv_at hl 0 rfl) ?_
  refine n_if_gt (tgt := 17) hx hb (by omega) dJ6_numberOfTrailingZeros_0f7a4_9 (by decide) (fun c_0 => ?_) (fun c_0 => ?_)
  · refine n_iconst (v := 1) hx hb dJ6_numberOfTrailingZeros_0f7a4_17 (by decide) ?_
    refine lv_istore_n (lv' := [(1, .int (nI 1)), (0, .int (nI q))]) hx hb dJ6_numberOfTrailingZeros_0f7a4_18 rfl hl (by decide) rfl (fun ls hl => ?_)
    refine lv_iload_n hx hb dJ6_numberOfTrailingZeros_0f7a4_19 rfl (lv_at hl 1 rfl) ?_
    refine lv_ldcw (v := (65536)) hx hb hown (hu _ uK_J6_264) dJ6_numberOfTrailingZeros_0f7a4_20 ?_
    refine n_topi (y := nI 65536) (by decide) ?_
    have j34 : ∀ (n1 : Nat) (i1 : Nat)  (H : Heap) (locs : List Loc) (ls : Array Slot), ((n1, i1) = zs 16 (1, q)) → oW D cA B0 ad d0 H → va_S (oA B0) s.heap H locs → lv_has ls 2 [(0, .int (nI i1)), (1, .int (nI n1))] → W p l e (oR 1 0 0) s m ([.int (nI n)] : List Value).toArray below meth c H locs 0 0 (MQ below (oQi D cA B0 ad (fun r d1 => r = nI m0 ∧ d0 = d1)) ([.int (nI n)] : List Value).toArray s 0 0 (oA B0)) (F0 m 34 ls []) := by
      intro n1 i1  H locs ls hz1 hW hS hl
      have hi1 : i1 ≤ q := by have := zs_le 16 (1, q); rw [← hz1] at this; exact this
      refine lv_iload_n hx hb dJ6_numberOfTrailingZeros_0f7a4_34 rfl (lv_at hl 0 rfl) ?_
      refine n_sipush (v := 256) hx hb dJ6_numberOfTrailingZeros_0f7a4_35 (by decide) ?_
      have j49 : ∀ (n2 : Nat) (i2 : Nat)  (H : Heap) (locs : List Loc) (ls : Array Slot), ((n2, i2) = zs 8 (n1, i1)) → oW D cA B0 ad d0 H → va_S (oA B0) s.heap H locs → lv_has ls 2 [(0, .int (nI i2)), (1, .int (nI n2))] → W p l e (oR 1 0 0) s m ([.int (nI n)] : List Value).toArray below meth c H locs 0 0 (MQ below (oQi D cA B0 ad (fun r d1 => r = nI m0 ∧ d0 = d1)) ([.int (nI n)] : List Value).toArray s 0 0 (oA B0)) (F0 m 49 ls []) := by
        intro n2 i2  H locs ls hz2 hW hS hl
        have hi2 : i2 ≤ i1 := by have := zs_le 8 (n1, i1); rw [← hz2] at this; exact this
        refine lv_iload_n hx hb dJ6_numberOfTrailingZeros_0f7a4_49 rfl (lv_at hl 0 rfl) ?_
        refine n_bipush (v := 16) hx hb dJ6_numberOfTrailingZeros_0f7a4_50 (by decide) ?_
        have j62 : ∀ (n3 : Nat) (i3 : Nat)  (H : Heap) (locs : List Loc) (ls : Array Slot), ((n3, i3) = zs 4 (n2, i2)) → oW D cA B0 ad d0 H → va_S (oA B0) s.heap H locs → lv_has ls 2 [(0, .int (nI i3)), (1, .int (nI n3))] → W p l e (oR 1 0 0) s m ([.int (nI n)] : List Value).toArray below meth c H locs 0 0 (MQ below (oQi D cA B0 ad (fun r d1 => r = nI m0 ∧ d0 = d1)) ([.int (nI n)] : List Value).toArray s 0 0 (oA B0)) (F0 m 62 ls []) := by
          intro n3 i3  H locs ls hz3 hW hS hl
          have hi3 : i3 ≤ i2 := by have := zs_le 4 (n2, i2); rw [← hz3] at this; exact this
          refine lv_iload_n hx hb dJ6_numberOfTrailingZeros_0f7a4_62 rfl (lv_at hl 0 rfl) ?_
          refine n_iconst (v := 4) hx hb dJ6_numberOfTrailingZeros_0f7a4_63 (by decide) ?_
          have j74 : ∀ (n4 : Nat) (i4 : Nat)  (H : Heap) (locs : List Loc) (ls : Array Slot), ((n4, i4) = zs 2 (n3, i3)) → oW D cA B0 ad d0 H → va_S (oA B0) s.heap H locs → lv_has ls 2 [(0, .int (nI i4)), (1, .int (nI n4))] → W p l e (oR 1 0 0) s m ([.int (nI n)] : List Value).toArray below meth c H locs 0 0 (MQ below (oQi D cA B0 ad (fun r d1 => r = nI m0 ∧ d0 = d1)) ([.int (nI n)] : List Value).toArray s 0 0 (oA B0)) (F0 m 74 ls []) := by
            intro n4 i4  H locs ls hz4 hW hS hl
            have hi4 : i4 ≤ i3 := by have := zs_le 2 (n3, i3); rw [← hz4] at this; exact this
            refine lv_iload_n hx hb dJ6_numberOfTrailingZeros_0f7a4_74 rfl (lv_at hl 1 rfl) ?_
            refine lv_iload_n hx hb dJ6_numberOfTrailingZeros_0f7a4_75 rfl (lv_at hl 0 rfl) ?_
            refine n_iconst (v := 1) hx hb dJ6_numberOfTrailingZeros_0f7a4_76 (by decide) ?_
            refine lv_iushr (v := nI (i4 / 2 ^ 1)) hx hb dJ6_numberOfTrailingZeros_0f7a4_77 (pk_ushrN (by omega) _ 1 (by decide)) ?_
            refine n_iadd hx hb dJ6_numberOfTrailingZeros_0f7a4_78 ?_
            exact o_iret hx hb hr hlocks hW hS (⟨by have := zs_ok m0 hm (by rintro rfl; omega); rw [← hq, ← hz1, ← hz2, ← hz3, ← hz4] at this; exact congrArg nI this, rfl⟩) dJ6_numberOfTrailingZeros_0f7a4_79
          refine n_icmp_le (tgt := 74) hx hb (by omega) (by omega) dJ6_numberOfTrailingZeros_0f7a4_64 (by decide) (fun c_4 => ?_) (fun c_4 => ?_)
          · exact j74 n3 i3 _ _ ls (by unfold zs; first | rw [if_pos c_4] | rw [if_neg c_4]) hW hS (lv_sub hl [0, 1] rfl)
          · refine n_iinc (q := 2) (lv' := [(1, .int (nI (n3 + 2))), (0, .int (nI i3))]) hx hb dJ6_numberOfTrailingZeros_0f7a4_67 hl (k := 1) rfl (by decide) (by decide) rfl (fun ls hl => ?_)
            refine lv_iload_n hx hb dJ6_numberOfTrailingZeros_0f7a4_70 rfl (lv_at hl 1 rfl) ?_
            refine n_iconst (v := 2) hx hb dJ6_numberOfTrailingZeros_0f7a4_71 (by decide) ?_
            refine lv_iushr (v := nI (i3 / 2 ^ 2)) hx hb dJ6_numberOfTrailingZeros_0f7a4_72 (pk_ushrN (by omega) _ 2 (by decide)) ?_
            refine lv_istore_n (lv' := [(0, .int (nI (i3 / 2 ^ 2))), (1, .int (nI (n3 + 2)))]) hx hb dJ6_numberOfTrailingZeros_0f7a4_73 rfl hl (by decide) rfl (fun ls hl => ?_)
            exact j74 (n3 + 2) (i3 / 2 ^ 2) _ _ ls (by unfold zs; first | rw [if_pos c_4] | rw [if_neg c_4]) hW hS (lv_sub hl [0, 1] rfl)
        refine n_icmp_le (tgt := 62) hx hb (by omega) (by omega) dJ6_numberOfTrailingZeros_0f7a4_52 (by decide) (fun c_3 => ?_) (fun c_3 => ?_)
        · exact j62 n2 i2 _ _ ls (by unfold zs; first | rw [if_pos c_3] | rw [if_neg c_3]) hW hS (lv_sub hl [0, 1] rfl)
        · refine n_iinc (q := 4) (lv' := [(1, .int (nI (n2 + 4))), (0, .int (nI i2))]) hx hb dJ6_numberOfTrailingZeros_0f7a4_55 hl (k := 1) rfl (by decide) (by decide) rfl (fun ls hl => ?_)
          refine lv_iload_n hx hb dJ6_numberOfTrailingZeros_0f7a4_58 rfl (lv_at hl 1 rfl) ?_
          refine n_iconst (v := 4) hx hb dJ6_numberOfTrailingZeros_0f7a4_59 (by decide) ?_
          refine lv_iushr (v := nI (i2 / 2 ^ 4)) hx hb dJ6_numberOfTrailingZeros_0f7a4_60 (pk_ushrN (by omega) _ 4 (by decide)) ?_
          refine lv_istore_n (lv' := [(0, .int (nI (i2 / 2 ^ 4))), (1, .int (nI (n2 + 4)))]) hx hb dJ6_numberOfTrailingZeros_0f7a4_61 rfl hl (by decide) rfl (fun ls hl => ?_)
          exact j62 (n2 + 4) (i2 / 2 ^ 4) _ _ ls (by unfold zs; first | rw [if_pos c_3] | rw [if_neg c_3]) hW hS (lv_sub hl [0, 1] rfl)
      refine n_icmp_le (tgt := 49) hx hb (by omega) (by omega) dJ6_numberOfTrailingZeros_0f7a4_38 (by decide) (fun c_2 => ?_) (fun c_2 => ?_)
      · exact j49 n1 i1 _ _ ls (by unfold zs; first | rw [if_pos c_2] | rw [if_neg c_2]) hW hS (lv_sub hl [0, 1] rfl)
      · refine n_iinc (q := 8) (lv' := [(1, .int (nI (n1 + 8))), (0, .int (nI i1))]) hx hb dJ6_numberOfTrailingZeros_0f7a4_41 hl (k := 1) rfl (by decide) (by decide) rfl (fun ls hl => ?_)
        refine lv_iload_n hx hb dJ6_numberOfTrailingZeros_0f7a4_44 rfl (lv_at hl 1 rfl) ?_
        refine n_bipush (v := 8) hx hb dJ6_numberOfTrailingZeros_0f7a4_45 (by decide) ?_
        refine lv_iushr (v := nI (i1 / 2 ^ 8)) hx hb dJ6_numberOfTrailingZeros_0f7a4_47 (pk_ushrN (by omega) _ 8 (by decide)) ?_
        refine lv_istore_n (lv' := [(0, .int (nI (i1 / 2 ^ 8))), (1, .int (nI (n1 + 8)))]) hx hb dJ6_numberOfTrailingZeros_0f7a4_48 rfl hl (by decide) rfl (fun ls hl => ?_)
        exact j49 (n1 + 8) (i1 / 2 ^ 8) _ _ ls (by unfold zs; first | rw [if_pos c_2] | rw [if_neg c_2]) hW hS (lv_sub hl [0, 1] rfl)
    refine n_icmp_le (tgt := 34) hx hb (by omega) (by omega) dJ6_numberOfTrailingZeros_0f7a4_23 (by decide) (fun c_1 => ?_) (fun c_1 => ?_)
    · exact j34 1 q _ _ ls (by unfold zs; first | rw [if_pos c_1] | rw [if_neg c_1]) hW hS (lv_sub hl [1, 0] rfl)
    · refine n_iinc (q := 16) (lv' := [(1, .int (nI (1 + 16))), (0, .int (nI q))]) hx hb dJ6_numberOfTrailingZeros_0f7a4_26 hl (k := 0) rfl (by decide) (by decide) rfl (fun ls hl => ?_)
      refine lv_iload_n hx hb dJ6_numberOfTrailingZeros_0f7a4_29 rfl (lv_at hl 1 rfl) ?_
      refine n_bipush (v := 16) hx hb dJ6_numberOfTrailingZeros_0f7a4_30 (by decide) ?_
      refine lv_iushr (v := nI (q / 2 ^ 16)) hx hb dJ6_numberOfTrailingZeros_0f7a4_32 (pk_ushrN (by omega) _ 16 (by decide)) ?_
      refine lv_istore_n (lv' := [(0, .int (nI (q / 2 ^ 16))), (1, .int (nI (1 + 16)))]) hx hb dJ6_numberOfTrailingZeros_0f7a4_33 rfl hl (by decide) rfl (fun ls hl => ?_)
      exact j34 (1 + 16) (q / 2 ^ 16) _ _ ls (by unfold zs; first | rw [if_pos c_1] | rw [if_neg c_1]) hW hS (lv_sub hl [0, 1] rfl)
  · refine lv_iload_n hx hb dJ6_numberOfTrailingZeros_0f7a4_12 rfl (lv_at hl 0 rfl) ?_
    refine n_bipush (v := 32) hx hb dJ6_numberOfTrailingZeros_0f7a4_13 (by decide) ?_
    refine lv_iand hx hb dJ6_numberOfTrailingZeros_0f7a4_15 ?_
    exact o_iret hx hb hr hlocks hW hS (⟨ntz_0 hq (by omega), rfl⟩) dJ6_numberOfTrailingZeros_0f7a4_16

set_option maxHeartbeats 400000 in
set_option maxRecDepth 100000 in
theorem c_J13_numberOfTrailingZeros_95d88 (l : Launch) (D : va_G) (cA : Nat → ClassId) (B0 : Nat) (ad : kA) (hal : mAl ad) (d0 : kD) (x : Int64) (hx0 : ¬ x = 0) : oM l yJ13_numberOfTrailingZeros_95d88 wJ13_numberOfTrailingZeros_95d88 2 0 0 D cA B0 ad d0 ([.long x] : List Value) (oQi D cA B0 ad (fun r d1 => r = nI (ntN x) ∧ d0 = d1)) := by
  refine o_ofW (cc := cJ13_numberOfTrailingZeros_95d88) (maxL := 3) (ret := some .int) (by decide) rfl (Nat.le_of_ble_eq_true rfl) ?_
  intro p e s m below meth c hx hb hr hml hts hown hlocks hnm hK hW hB hS ls hl
  have hu : ∀ w ∈ UW, w.before _ s = true := fun w h => hts w (uw_c w h)
  have hl : lv_has ls 3 [(0, .long x)] := hl
  refine lv_lload_n hx hb dJ13_numberOfTrailingZeros_95d88_0 rfl (lv_at hl 0 rfl) ?_
  refine lv_l2i (v := x.toInt32) hx hb dJ13_numberOfTrailingZeros_95d88_1 rfl ?_
  refine n_topi (y := nI x.toBitVec.toNat) (l2i_lo x) ?_
  refine lv_istore_n (lv' := [(2, .int (nI x.toBitVec.toNat)), (0, .long x)]) hx hb dJ13_numberOfTrailingZeros_95d88_2 rfl hl (by decide) rfl (fun ls hl => ?_)
  refine lv_iload_n hx hb dJ13_numberOfTrailingZeros_95d88_3 rfl (lv_at hl 0 rfl) ?_
  refine lv_if_ne (tgt := 21) hx hb dJ13_numberOfTrailingZeros_95d88_4 (by decide) (fun c_0 => ?_) (fun c_0 => ?_)
  · refine lv_iload_n hx hb dJ13_numberOfTrailingZeros_95d88_21 rfl (lv_at hl 0 rfl) ?_
    refine o_calli (o_runS (As := [.int (nI x.toBitVec.toNat)]) (rest := []) ⟨hx, hb, hml, hown, hu⟩ (c_J6_numberOfTrailingZeros_0f7a4 l D cA B0 ad hal d0 x.toBitVec.toNat (ntN x) (nt_lo hx0 c_0) ((nt_b hx0).1) ((nt_b hx0).2)) (gS_J13_311 (fun _ h => h)) (n0 := 1) rfl (by decide +kernel) rfl ⟨Nat.le_of_ble_eq_true rfl, Nat.le_of_ble_eq_true rfl⟩ hK hW hB hS hl.1 rfl (lv_room (Nat.le_of_ble_eq_true rfl)) ⟨Nat.zero_le _, Nat.zero_le _⟩ dJ13_numberOfTrailingZeros_95d88_22) hS (fun r_2 d_1 q_3 H locs hW hS => ?_)
    obtain ⟨rfl, rfl⟩ := q_3
    exact o_iret hx hb hr hlocks hW hS (⟨rfl, rfl⟩) dJ13_numberOfTrailingZeros_95d88_25
  · have h32 := nt_hi hx0 c_0
    have h64 := (ntN_ok hx0).1
    refine n_bipush (v := 32) hx hb dJ13_numberOfTrailingZeros_95d88_7 (by decide) ?_
    refine lv_lload_n hx hb dJ13_numberOfTrailingZeros_95d88_9 rfl (lv_at hl 1 rfl) ?_
    refine n_bipush (v := 32) hx hb dJ13_numberOfTrailingZeros_95d88_10 (by decide) ?_
    refine lv_lushr (v := lsr x 32) hx hb dJ13_numberOfTrailingZeros_95d88_12 rfl ?_
    refine lv_l2i (v := (lsr x 32).toInt32) hx hb dJ13_numberOfTrailingZeros_95d88_13 rfl ?_
    refine n_topi (y := nI (x.toBitVec.toNat / 2 ^ 32)) (l2i_hi x) ?_
    refine o_calli (o_runS (As := [.int (nI (x.toBitVec.toNat / 2 ^ 32))]) (rest := [.int (nI 32)]) ⟨hx, hb, hml, hown, hu⟩ (c_J6_numberOfTrailingZeros_0f7a4 l D cA B0 ad hal d0 (x.toBitVec.toNat / 2 ^ 32) (ntN x - 32) (by omega) ((nt_bh hx0 h32).1) ((nt_bh hx0 h32).2)) (gS_J13_311 (fun _ h => h)) (n0 := 1) rfl (by decide +kernel) rfl ⟨Nat.le_of_ble_eq_true rfl, Nat.le_of_ble_eq_true rfl⟩ hK hW hB hS hl.1 rfl (lv_room (Nat.le_of_ble_eq_true rfl)) ⟨Nat.zero_le _, Nat.zero_le _⟩ dJ13_numberOfTrailingZeros_95d88_14) hS (fun r_5 d_4 q_6 H locs hW hS => ?_)
    obtain ⟨rfl, rfl⟩ := q_6
    refine n_iadd hx hb dJ13_numberOfTrailingZeros_95d88_17 ?_
    refine n_top (b := ntN x) (by omega) ?_
    refine lv_goto (tgt := 25) hx hb dJ13_numberOfTrailingZeros_95d88_18 (by decide) ?_
    exact o_iret hx hb hr hlocks hW hS (⟨rfl, rfl⟩) dJ13_numberOfTrailingZeros_95d88_25
