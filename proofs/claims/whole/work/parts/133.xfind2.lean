set_option maxHeartbeats 400000 in
set_option maxRecDepth 100000 in
theorem c_fill_25 (l : Launch) (D : va_G) (cA : Nat → ClassId) (B0 : Nat) (ad : kA) (hal : mAl ad) (S : sS) (d0 : kD) (hX : XB cA ad S d0) (v : Int32) : oM l yJ7_fill_53178 wJ7_fill_53178 1 0 0 D cA B0 ad d0 ([.ref (ad.1 25 0), .int v] : List Value) (oQv D cA B0 ad (fun d1 => FK 25 d0 d1 ∧ ∀ f, f < 4 → d1.1 25 0 f = v)) := by
  refine o_ofW (cc := cJ7_fill_53178) (maxL := 4) (ret := none) (by decide) rfl (Nat.le_of_ble_eq_true rfl) ?_
  intro p e s m below meth c hx hb hr hml hts hown hlocks hnm hK hW hB hS ls hl
  have hu : ∀ w ∈ UW, w.before _ s = true := fun w h => hts w (uw_c w h)
  have hl : lv_has ls 4 [(0, .ref (ad.1 25 0)), (1, .int v)] := hl
  have hA := hX.1
  have hG := hX.2.2
  have hb7 : S 7 0 ≤ 8 := hG.f 7 (mx := 8) (by decide)
  have hb11 : S 11 0 ≤ 20 := hG.f 11 (mx := 20) (by decide)
  have hb18 : S 18 0 ≤ 40 := hG.f 18 (mx := 40) (by decide)
  refine n_iconst (v := 0) hx hb dJ7_fill_53178_0 (by decide) ?_
  refine lv_istore_n (lv' := [(2, .int (nI 0)), (0, .ref (ad.1 25 0)), (1, .int v)]) hx hb dJ7_fill_53178_1 rfl hl (by decide) rfl (fun ls hl => ?_)
  refine lv_aload_n hx hb dJ7_fill_53178_2 rfl (lv_at hl 1 rfl) ?_
  refine x_len hx hb hK hW (hA.o (k := 25) rfl) 0 (kX_25 _ _ _ _) rfl dJ7_fill_53178_3 ?_
  refine lv_istore_n (lv' := [(3, .int (nI 4)), (2, .int (nI 0)), (0, .ref (ad.1 25 0)), (1, .int v)]) hx hb dJ7_fill_53178_4 rfl hl (by decide) rfl (fun ls hl => ?_)
  have lp5 : ∀ (n : Nat) (k : Nat)  (d : kD) (H : Heap) (locs : List Loc) (ls : Array Slot), 4 - k < n → (k ≤ 4) → (FK 25 d0 d) → (∀ f, f < k → d.1 25 0 f = v) → oW D cA B0 ad d H → va_S (oA B0) s.heap H locs → lv_has ls 4 [(0, .ref (ad.1 25 0)), (1, .int v), (2, .int (nI k)), (3, .int (nI 4))] → W p l e (oR 1 0 0) s m ([.ref (ad.1 25 0), .int v] : List Value).toArray below meth c H locs 0 0 (MQ below (oQv D cA B0 ad (fun d1 => FK 25 d0 d1 ∧ ∀ f, f < 4 → d1.1 25 0 f = v)) ([.ref (ad.1 25 0), .int v] : List Value).toArray s 0 0 (oA B0)) (F0 m 5 ls []) := by
    intro n
    induction n with
    | zero => intro k  d H locs ls hmu; exact absurd hmu (Nat.not_lt_zero _)
    | succ n ih_lp5 =>
      intro k  d H locs ls hmu hk hFK hfl hW hS hl
      refine lv_iload_n hx hb dJ7_fill_53178_5 rfl (lv_at hl 2 rfl) ?_
      refine lv_iload_n hx hb dJ7_fill_53178_6 rfl (lv_at hl 3 rfl) ?_
      refine n_icmp_ge (tgt := 20) hx hb (by omega) (by omega) dJ7_fill_53178_7 (by decide) (fun c_1 => ?_) (fun c_1 => ?_)
      · exact o_vret hx hb hr hlocks hW hS (⟨hFK, (show k = 4 by omega) ▸ hfl⟩) dJ7_fill_53178_20
      · refine lv_aload_n hx hb dJ7_fill_53178_10 rfl (lv_at hl 0 rfl) ?_
        refine lv_iload_n hx hb dJ7_fill_53178_11 rfl (lv_at hl 2 rfl) ?_
        refine lv_iload_n hx hb dJ7_fill_53178_12 rfl (lv_at hl 1 rfl) ?_
        refine x_is hx hb hK hW hS (hA.o (k := 25) rfl) (kI_25 _ _ _ _) (by decide) (by omega) dJ7_fill_53178_13 (fun H locs hW hS => ?_)
        have hFK := hFK.st k v
        have hfl := fill_st hfl
        refine n_iinc (q := 1) (lv' := [(2, .int (nI (k + 1))), (0, .ref (ad.1 25 0)), (1, .int v), (3, .int (nI 4))]) hx hb dJ7_fill_53178_14 hl (k := 2) rfl (by decide) (by decide) rfl (fun ls hl => ?_)
        refine lv_goto (tgt := 5) hx hb dJ7_fill_53178_17 (by decide) ?_
        exact ih_lp5 (k + 1) (uI d 25 0 k v) _ _ ls (by omega) (by omega) hFK hfl hW hS (lv_sub hl [1, 2, 0, 3] rfl)
  exact lp5 (5) 0 d0 _ _ ls (by omega) (by omega) (FK.refl 25 d0) (fun _ h => absurd h (Nat.not_lt_zero _)) hW hS (lv_sub hl [2, 3, 1, 0] rfl)

set_option maxHeartbeats 400000 in
set_option maxRecDepth 100000 in
theorem c_fill_27 (l : Launch) (D : va_G) (cA : Nat → ClassId) (B0 : Nat) (ad : kA) (hal : mAl ad) (S : sS) (d0 : kD) (hX : XB cA ad S d0) (v : Int32) : oM l yJ7_fill_53178 wJ7_fill_53178 1 0 0 D cA B0 ad d0 ([.ref (ad.1 27 0), .int v] : List Value) (oQv D cA B0 ad (fun d1 => FK 27 d0 d1 ∧ ∀ f, f < 8 → d1.1 27 0 f = v)) := by
  refine o_ofW (cc := cJ7_fill_53178) (maxL := 4) (ret := none) (by decide) rfl (Nat.le_of_ble_eq_true rfl) ?_
  intro p e s m below meth c hx hb hr hml hts hown hlocks hnm hK hW hB hS ls hl
  have hu : ∀ w ∈ UW, w.before _ s = true := fun w h => hts w (uw_c w h)
  have hl : lv_has ls 4 [(0, .ref (ad.1 27 0)), (1, .int v)] := hl
  have hA := hX.1
  have hG := hX.2.2
  have hb7 : S 7 0 ≤ 8 := hG.f 7 (mx := 8) (by decide)
  have hb11 : S 11 0 ≤ 20 := hG.f 11 (mx := 20) (by decide)
  have hb18 : S 18 0 ≤ 40 := hG.f 18 (mx := 40) (by decide)
  refine n_iconst (v := 0) hx hb dJ7_fill_53178_0 (by decide) ?_
  refine lv_istore_n (lv' := [(2, .int (nI 0)), (0, .ref (ad.1 27 0)), (1, .int v)]) hx hb dJ7_fill_53178_1 rfl hl (by decide) rfl (fun ls hl => ?_)
  refine lv_aload_n hx hb dJ7_fill_53178_2 rfl (lv_at hl 1 rfl) ?_
  refine x_len hx hb hK hW (hA.o (k := 27) rfl) 0 (kX_27 _ _ _ _) rfl dJ7_fill_53178_3 ?_
  refine lv_istore_n (lv' := [(3, .int (nI 8)), (2, .int (nI 0)), (0, .ref (ad.1 27 0)), (1, .int v)]) hx hb dJ7_fill_53178_4 rfl hl (by decide) rfl (fun ls hl => ?_)
  have lp5 : ∀ (n : Nat) (k : Nat)  (d : kD) (H : Heap) (locs : List Loc) (ls : Array Slot), 8 - k < n → (k ≤ 8) → (FK 27 d0 d) → (∀ f, f < k → d.1 27 0 f = v) → oW D cA B0 ad d H → va_S (oA B0) s.heap H locs → lv_has ls 4 [(0, .ref (ad.1 27 0)), (1, .int v), (2, .int (nI k)), (3, .int (nI 8))] → W p l e (oR 1 0 0) s m ([.ref (ad.1 27 0), .int v] : List Value).toArray below meth c H locs 0 0 (MQ below (oQv D cA B0 ad (fun d1 => FK 27 d0 d1 ∧ ∀ f, f < 8 → d1.1 27 0 f = v)) ([.ref (ad.1 27 0), .int v] : List Value).toArray s 0 0 (oA B0)) (F0 m 5 ls []) := by
    intro n
    induction n with
    | zero => intro k  d H locs ls hmu; exact absurd hmu (Nat.not_lt_zero _)
    | succ n ih_lp5 =>
      intro k  d H locs ls hmu hk hFK hfl hW hS hl
      refine lv_iload_n hx hb dJ7_fill_53178_5 rfl (lv_at hl 2 rfl) ?_
      refine lv_iload_n hx hb dJ7_fill_53178_6 rfl (lv_at hl 3 rfl) ?_
      refine n_icmp_ge (tgt := 20) hx hb (by omega) (by omega) dJ7_fill_53178_7 (by decide) (fun c_1 => ?_) (fun c_1 => ?_)
      · exact o_vret hx hb hr hlocks hW hS (⟨hFK, (show k = 8 by omega) ▸ hfl⟩) dJ7_fill_53178_20
      · refine lv_aload_n hx hb dJ7_fill_53178_10 rfl (lv_at hl 0 rfl) ?_
        refine lv_iload_n hx hb dJ7_fill_53178_11 rfl (lv_at hl 2 rfl) ?_
        refine lv_iload_n hx hb dJ7_fill_53178_12 rfl (lv_at hl 1 rfl) ?_
        refine x_is hx hb hK hW hS (hA.o (k := 27) rfl) (kI_27 _ _ _ _) (by decide) (by omega) dJ7_fill_53178_13 (fun H locs hW hS => ?_)
        have hFK := hFK.st k v
        have hfl := fill_st hfl
        refine n_iinc (q := 1) (lv' := [(2, .int (nI (k + 1))), (0, .ref (ad.1 27 0)), (1, .int v), (3, .int (nI 8))]) hx hb dJ7_fill_53178_14 hl (k := 2) rfl (by decide) (by decide) rfl (fun ls hl => ?_)
        refine lv_goto (tgt := 5) hx hb dJ7_fill_53178_17 (by decide) ?_
        exact ih_lp5 (k + 1) (uI d 27 0 k v) _ _ ls (by omega) (by omega) hFK hfl hW hS (lv_sub hl [1, 2, 0, 3] rfl)
  exact lp5 (9) 0 d0 _ _ ls (by omega) (by omega) (FK.refl 27 d0) (fun _ h => absurd h (Nat.not_lt_zero _)) hW hS (lv_sub hl [2, 3, 1, 0] rfl)

set_option maxHeartbeats 400000 in
set_option maxRecDepth 100000 in
theorem c_X9_findKept (l : Launch) (D : va_G) (cA : Nat → ClassId) (B0 : Nat) (ad : kA) (hal : mAl ad) (S : sS) (d0 : kD) (hM : InvX cA ad S d0) (dd : Nat) (hd : dd < 400) : oM l yX9_findKept wX9_findKept 5 0 0 D cA B0 ad d0 ([.ref (ad.1 0 0), .int (nI dd)] : List Value) (oQv D cA B0 ad (fun d1 => XK cA ad S d0 d1 ∧ KP S dd d1)) := by
  refine o_ofW (cc := cX9_findKept) (maxL := 4) (ret := none) (by decide) rfl (Nat.le_of_ble_eq_true rfl) ?_
  intro p e s m below meth c hx hb hr hml hts hown hlocks hnm hK hW hB hS ls hl
  have hu : ∀ w ∈ UW, w.before _ s = true := fun w h => hts w (uw_c w h)
  have hl : lv_has ls 4 [(0, .ref (ad.1 0 0)), (1, .int (nI dd))] := hl
  have hX := hM.1
  have hA := hX.1
  have hG := hX.2.2
  have hb7 : S 7 0 ≤ 8 := hG.f 7 (mx := 8) (by decide)
  have hb11 : S 11 0 ≤ 20 := hG.f 11 (mx := 20) (by decide)
  have hb18 : S 18 0 ≤ 40 := hG.f 18 (mx := 40) (by decide)
  have hI : XK cA ad S d0 d0 := XK.start hM
  refine n_iconst (v := 0) hx hb dX9_findKept_0 (by decide) ?_
  refine lv_istore_n (lv' := [(2, .int (nI 0)), (0, .ref (ad.1 0 0)), (1, .int (nI dd))]) hx hb dX9_findKept_1 rfl hl (by decide) rfl (fun ls hl => ?_)
  have lp2 : ∀ (n : Nat) (k1 : Nat)  (d : kD) (H : Heap) (locs : List Loc) (ls : Array Slot), S 7 0 - k1 < n → (k1 ≤ S 7 0) → (XK cA ad S d0 d) → (∀ p, p < k1 → d.2.1 6 p 11 = -1) → oW D cA B0 ad d H → va_S (oA B0) s.heap H locs → lv_has ls 4 [(0, .ref (ad.1 0 0)), (1, .int (nI dd)), (2, .int (nI k1))] → W p l e (oR 5 0 0) s m ([.ref (ad.1 0 0), .int (nI dd)] : List Value).toArray below meth c H locs 0 0 (MQ below (oQv D cA B0 ad (fun d1 => XK cA ad S d0 d1 ∧ KP S dd d1)) ([.ref (ad.1 0 0), .int (nI dd)] : List Value).toArray s 0 0 (oA B0)) (F0 m 2 ls []) := by
    intro n
    induction n with
    | zero => intro k1  d H locs ls hmu; exact absurd hmu (Nat.not_lt_zero _)
    | succ n ih_lp2 =>
      intro k1  d H locs ls hmu hk1 hI h1 hW hS hl
      refine lv_iload_n hx hb dX9_findKept_2 rfl (lv_at hl 2 rfl) ?_
      refine lv_aload_n hx hb dX9_findKept_3 rfl (lv_at hl 0 rfl) ?_
      refine x_gr hx hb hu in_X9 hown hK hW (hA.o (k := 0) rfl) (kX_0 _ _ _ _) rfl 2 (by decide) uF_X9_21 (hA.f 2 (k := 4) (i := 0) (by decide) (hA.li (by omega))) dX9_findKept_4 ?_
      refine o_calli (o_runV (As := []) (rest := [.int (nI k1)]) ⟨hx, hb, hml, hown, hu⟩ (c_Jx4a65c_size_8abf5 l D cA B0 ad hal S d hI.1.1 0 (by decide)) (gV_X9_105 (fun _ h => h)) (n0 := 0) rfl (by decide +kernel) rfl ⟨Nat.le_of_ble_eq_true rfl, Nat.le_of_ble_eq_true rfl⟩ (o_recv hK hW (hA.li (by omega)) (kX_4 _ _ _ _) rfl) hK hW hB hS hl.1 rfl (lv_room (Nat.le_of_ble_eq_true rfl)) ⟨Nat.zero_le _, Nat.zero_le _⟩ dX9_findKept_7) hS (fun r_2 d_1 q_3 H locs hW hS => ?_)
      obtain ⟨rfl, rfl⟩ := q_3
      refine n_topi (y := nI (S 7 0)) rfl ?_
      refine n_icmp_ge (tgt := 36) hx hb (by omega) (by omega) dX9_findKept_10 (by decide) (fun c_4 => ?_) (fun c_4 => ?_)
      · have hK2 : K2 S dd 0 d := ⟨fun p hp => h1 p (by omega), fun _ h => absurd h (Nat.not_lt_zero _)⟩
        refine n_iconst (v := 0) hx hb dX9_findKept_36 (by decide) ?_
        refine lv_istore_n (lv' := [(2, .int (nI 0)), (0, .ref (ad.1 0 0)), (1, .int (nI dd))]) hx hb dX9_findKept_37 rfl hl (by decide) rfl (fun ls hl => ?_)
        have lp38 : ∀ (n : Nat) (l1 : Nat)  (d : kD) (H : Heap) (locs : List Loc) (ls : Array Slot), S 18 0 - l1 < n → (l1 ≤ S 18 0) → (XK cA ad S d0 d) → (K2 S dd l1 d) → oW D cA B0 ad d H → va_S (oA B0) s.heap H locs → lv_has ls 4 [(0, .ref (ad.1 0 0)), (1, .int (nI dd)), (2, .int (nI l1))] → W p l e (oR 5 0 0) s m ([.ref (ad.1 0 0), .int (nI dd)] : List Value).toArray below meth c H locs 0 0 (MQ below (oQv D cA B0 ad (fun d1 => XK cA ad S d0 d1 ∧ KP S dd d1)) ([.ref (ad.1 0 0), .int (nI dd)] : List Value).toArray s 0 0 (oA B0)) (F0 m 38 ls []) := by
          intro n
          induction n with
          | zero => intro l1  d H locs ls hmu; exact absurd hmu (Nat.not_lt_zero _)
          | succ n ih_lp38 =>
            intro l1  d H locs ls hmu hl1 hI hK2 hW hS hl
            refine lv_iload_n hx hb dX9_findKept_38 rfl (lv_at hl 2 rfl) ?_
            refine lv_aload_n hx hb dX9_findKept_39 rfl (lv_at hl 0 rfl) ?_
            refine x_gr hx hb hu in_X9 hown hK hW (hA.o (k := 0) rfl) (kX_0 _ _ _ _) rfl 3 (by decide) uF_X9_25 (hA.f 3 (k := 4) (i := 1) (by decide) (hA.li (by omega))) dX9_findKept_40 ?_
            refine o_calli (o_runV (As := []) (rest := [.int (nI l1)]) ⟨hx, hb, hml, hown, hu⟩ (c_Jx4a65c_size_8abf5 l D cA B0 ad hal S d hI.1.1 1 (by decide)) (gV_X9_105 (fun _ h => h)) (n0 := 0) rfl (by decide +kernel) rfl ⟨Nat.le_of_ble_eq_true rfl, Nat.le_of_ble_eq_true rfl⟩ (o_recv hK hW (hA.li (by omega)) (kX_4 _ _ _ _) rfl) hK hW hB hS hl.1 rfl (lv_room (Nat.le_of_ble_eq_true rfl)) ⟨Nat.zero_le _, Nat.zero_le _⟩ dX9_findKept_43) hS (fun r_6 d_5 q_7 H locs hW hS => ?_)
            obtain ⟨rfl, rfl⟩ := q_7
            refine n_topi (y := nI (S 18 0)) rfl ?_
            refine n_icmp_ge (tgt := 99) hx hb (by omega) (by omega) dX9_findKept_46 (by decide) (fun c_8 => ?_) (fun c_8 => ?_)
            · have hK2 := K2.end ((show l1 = S 18 0 by omega) ▸ hK2)
              refine lv_aload_n hx hb dX9_findKept_99 rfl (lv_at hl 0 rfl) ?_
              refine x_gr hx hb hu in_X9 hown hK hW (hA.o (k := 0) rfl) (kX_0 _ _ _ _) rfl 10 (by decide) uF_X9_62 (hA.f 10 (k := 25) (i := 0) (by decide) (hA.o (k := 25) rfl)) dX9_findKept_100 ?_
              refine n_sipush (v := 255) hx hb dX9_findKept_103 (by decide) ?_
              refine o_callv (o_runS (As := [.ref (ad.1 25 0), .int (nI 255)]) (rest := []) ⟨hx, hb, hml, hown, hu⟩ (c_fill_25 l D cA B0 ad hal S d hI.1.1 (nI 255)) (gS_X9_201 (fun _ h => h)) (n0 := 2) rfl (by decide +kernel) rfl ⟨Nat.le_of_ble_eq_true rfl, Nat.le_of_ble_eq_true rfl⟩ hK hW hB hS hl.1 rfl (lv_room (Nat.le_of_ble_eq_true rfl)) ⟨Nat.zero_le _, Nat.zero_le _⟩ dX9_findKept_106) hS (fun d_9 q_11 H locs hW hS => ?_)
              obtain ⟨hFK, hfl⟩ := q_11
              have hI : XK cA ad S d0 d_9 := ⟨hFK.inv (by decide) hI.1, hI.2.trans ⟨fun k i f q => hFK.1 k i f (fun z => of_decide_eq_false q (by omega)), fun k i f _ => by rw [hFK.2], by rw [hFK.2]⟩⟩
              have hK3 : K3 S dd 0 d_9 := ⟨⟨fun p hp => by rw [hFK.2]; exact hK2.1 p hp, fun q hq => by rw [hFK.2]; exact hK2.2 q hq⟩, hfl⟩
              refine n_iconst (v := 0) hx hb dX9_findKept_109 (by decide) ?_
              refine lv_istore_n (lv' := [(2, .int (nI 0)), (0, .ref (ad.1 0 0)), (1, .int (nI dd))]) hx hb dX9_findKept_110 rfl hl (by decide) rfl (fun ls hl => ?_)
              have lp111 : ∀ (n : Nat) (p1 : Nat)  (d : kD) (H : Heap) (locs : List Loc) (ls : Array Slot), S 7 0 - p1 < n → (p1 ≤ S 7 0) → (XK cA ad S d0 d) → (K3 S dd p1 d) → oW D cA B0 ad d H → va_S (oA B0) s.heap H locs → lv_has ls 4 [(0, .ref (ad.1 0 0)), (1, .int (nI dd)), (2, .int (nI p1))] → W p l e (oR 5 0 0) s m ([.ref (ad.1 0 0), .int (nI dd)] : List Value).toArray below meth c H locs 0 0 (MQ below (oQv D cA B0 ad (fun d1 => XK cA ad S d0 d1 ∧ KP S dd d1)) ([.ref (ad.1 0 0), .int (nI dd)] : List Value).toArray s 0 0 (oA B0)) (F0 m 111 ls []) := by
                intro n
                induction n with
                | zero => intro p1  d H locs ls hmu; exact absurd hmu (Nat.not_lt_zero _)
                | succ n ih_lp111 =>
                  intro p1  d H locs ls hmu hp1 hI hK3 hW hS hl
                  refine lv_iload_n hx hb dX9_findKept_111 rfl (lv_at hl 2 rfl) ?_
                  refine lv_aload_n hx hb dX9_findKept_112 rfl (lv_at hl 0 rfl) ?_
                  refine x_gr hx hb hu in_X9 hown hK hW (hA.o (k := 0) rfl) (kX_0 _ _ _ _) rfl 2 (by decide) uF_X9_21 (hA.f 2 (k := 4) (i := 0) (by decide) (hA.li (by omega))) dX9_findKept_113 ?_
                  refine o_calli (o_runV (As := []) (rest := [.int (nI p1)]) ⟨hx, hb, hml, hown, hu⟩ (c_Jx4a65c_size_8abf5 l D cA B0 ad hal S d hI.1.1 0 (by decide)) (gV_X9_105 (fun _ h => h)) (n0 := 0) rfl (by decide +kernel) rfl ⟨Nat.le_of_ble_eq_true rfl, Nat.le_of_ble_eq_true rfl⟩ (o_recv hK hW (hA.li (by omega)) (kX_4 _ _ _ _) rfl) hK hW hB hS hl.1 rfl (lv_room (Nat.le_of_ble_eq_true rfl)) ⟨Nat.zero_le _, Nat.zero_le _⟩ dX9_findKept_116) hS (fun r_13 d_12 q_14 H locs hW hS => ?_)
                  obtain ⟨rfl, rfl⟩ := q_14
                  refine n_topi (y := nI (S 7 0)) rfl ?_
                  refine n_icmp_ge (tgt := 159) hx hb (by omega) (by omega) dX9_findKept_119 (by decide) (fun c_15 => ?_) (fun c_15 => ?_)
                  · have hK3 := (show p1 = S 7 0 by omega) ▸ hK3
                    have hK4 : K4 S dd 0 d := ⟨hK3, fun _ h => absurd h (Nat.not_lt_zero _)⟩
                    refine n_iconst (v := 0) hx hb dX9_findKept_159 (by decide) ?_
                    refine lv_istore_n (lv' := [(2, .int (nI 0)), (0, .ref (ad.1 0 0)), (1, .int (nI dd))]) hx hb dX9_findKept_160 rfl hl (by decide) rfl (fun ls hl => ?_)
                    have lp161 : ∀ (n : Nat) (p2 : Nat)  (d : kD) (H : Heap) (locs : List Loc) (ls : Array Slot), S 7 0 - p2 < n → (p2 ≤ S 7 0) → (XK cA ad S d0 d) → (K4 S dd p2 d) → oW D cA B0 ad d H → va_S (oA B0) s.heap H locs → lv_has ls 4 [(0, .ref (ad.1 0 0)), (1, .int (nI dd)), (2, .int (nI p2))] → W p l e (oR 5 0 0) s m ([.ref (ad.1 0 0), .int (nI dd)] : List Value).toArray below meth c H locs 0 0 (MQ below (oQv D cA B0 ad (fun d1 => XK cA ad S d0 d1 ∧ KP S dd d1)) ([.ref (ad.1 0 0), .int (nI dd)] : List Value).toArray s 0 0 (oA B0)) (F0 m 161 ls []) := by
                      intro n
                      induction n with
                      | zero => intro p2  d H locs ls hmu; exact absurd hmu (Nat.not_lt_zero _)
                      | succ n ih_lp161 =>
                        intro p2  d H locs ls hmu hp2 hI hK4 hW hS hl
                        refine lv_iload_n hx hb dX9_findKept_161 rfl (lv_at hl 2 rfl) ?_
                        refine lv_aload_n hx hb dX9_findKept_162 rfl (lv_at hl 0 rfl) ?_
                        refine x_gr hx hb hu in_X9 hown hK hW (hA.o (k := 0) rfl) (kX_0 _ _ _ _) rfl 2 (by decide) uF_X9_21 (hA.f 2 (k := 4) (i := 0) (by decide) (hA.li (by omega))) dX9_findKept_163 ?_
                        refine o_calli (o_runV (As := []) (rest := [.int (nI p2)]) ⟨hx, hb, hml, hown, hu⟩ (c_Jx4a65c_size_8abf5 l D cA B0 ad hal S d hI.1.1 0 (by decide)) (gV_X9_105 (fun _ h => h)) (n0 := 0) rfl (by decide +kernel) rfl ⟨Nat.le_of_ble_eq_true rfl, Nat.le_of_ble_eq_true rfl⟩ (o_recv hK hW (hA.li (by omega)) (kX_4 _ _ _ _) rfl) hK hW hB hS hl.1 rfl (lv_room (Nat.le_of_ble_eq_true rfl)) ⟨Nat.zero_le _, Nat.zero_le _⟩ dX9_findKept_166) hS (fun r_17 d_16 q_18 H locs hW hS => ?_)
                        obtain ⟨rfl, rfl⟩ := q_18
                        refine n_topi (y := nI (S 7 0)) rfl ?_
                        refine n_icmp_ge (tgt := 211) hx hb (by omega) (by omega) dX9_findKept_169 (by decide) (fun c_19 => ?_) (fun c_19 => ?_)
                        · exact o_vret hx hb hr hlocks hW hS (⟨hI, K4.end ((show p2 = S 7 0 by omega) ▸ hK4)⟩) dX9_findKept_211
                        · refine lv_aload_n hx hb dX9_findKept_172 rfl (lv_at hl 0 rfl) ?_
                          refine x_gr hx hb hu in_X9 hown hK hW (hA.o (k := 0) rfl) (kX_0 _ _ _ _) rfl 2 (by decide) uF_X9_21 (hA.f 2 (k := 4) (i := 0) (by decide) (hA.li (by omega))) dX9_findKept_173 ?_
                          refine lv_iload_n hx hb dX9_findKept_176 rfl (lv_at hl 2 rfl) ?_
                          refine o_callq (o_runV (As := [.int (nI p2)]) (rest := []) ⟨hx, hb, hml, hown, hu⟩ (c_Jx4a65c_get_915e3 l D cA B0 ad hal S d hI.1.1 0 p2 (by decide) (show p2 < S 7 0 by omega)) (gV_X9_109 (fun _ h => h)) (n0 := 1) rfl (by decide +kernel) rfl ⟨Nat.le_of_ble_eq_true rfl, Nat.le_of_ble_eq_true rfl⟩ (o_recv hK hW (hA.li (by omega)) (kX_4 _ _ _ _) rfl) hK hW hB hS hl.1 rfl (lv_room (Nat.le_of_ble_eq_true rfl)) ⟨Nat.zero_le _, Nat.zero_le _⟩ dX9_findKept_177) hS (fun r_21 d_20 q_22 H locs hW hS => ?_)
                          obtain ⟨rfl, rfl⟩ := q_22
                          refine W.eq (g2 := F0 m 180 ls [.ref (ad.1 6 p2)]) rfl ?_
                          refine x_cast hx hb hu hown uL_X9_113 hK hW (hA.pier (by omega)) (kX_6 _ _ _ _) rfl dX9_findKept_180 ?_
                          refine lv_astore_n (lv' := [(3, .ref (ad.1 6 p2)), (0, .ref (ad.1 0 0)), (1, .int (nI dd)), (2, .int (nI p2))]) hx hb dX9_findKept_183 rfl hl (by decide) rfl (fun ls hl => ?_)
                          refine lv_aload_n hx hb dX9_findKept_184 rfl (lv_at hl 0 rfl) ?_
                          refine lv_aload_n hx hb dX9_findKept_185 rfl (lv_at hl 0 rfl) ?_
                          refine x_gl hx hb hu in_X5 hown hK hW (hA.pier (by omega)) (kX_6 _ _ _ _) rfl 11 (by decide) uF_X9_163 dX9_findKept_186 ?_
                          refine n_topl (y := sFree S p2 dd (-1)) (hK4.1.1.1 _ (by omega)) ?_
                          refine lv_aload_n hx hb dX9_findKept_189 rfl (lv_at hl 1 rfl) ?_
                          refine x_gr hx hb hu in_X9 hown hK hW (hA.o (k := 0) rfl) (kX_0 _ _ _ _) rfl 10 (by decide) uF_X9_62 (hA.f 10 (k := 25) (i := 0) (by decide) (hA.o (k := 25) rfl)) dX9_findKept_190 ?_
                          refine lv_aload_n hx hb dX9_findKept_193 rfl (lv_at hl 0 rfl) ?_
                          refine x_gi hx hb hu in_X5 hown hK hW (hA.pier (by omega)) (kX_6 _ _ _ _) rfl 0 (by decide) uF_X9_207 dX9_findKept_194 ?_
                          refine n_topi (y := nI (S 2 p2)) (hI.1.1.2.1.pier (by omega) 0 (by decide)) ?_
                          have b_23 : S 2 p2 ≤ 3 := hG.a 2 p2 (n := 8) (mx := 3) (by decide) (by omega)
                          refine x_il hx hb hK hW (hA.o (k := 25) rfl) (kX_25 _ _ _ _) (by decide) (by omega) dX9_findKept_197 ?_
                          refine n_topi (y := sCommon S (S 2 p2) dd) (hK4.1.2 _ (by omega)) ?_
                          refine o_calll (o_runS (As := [.int (sCommon S (S 2 p2) dd)]) (rest := [.long (sFree S p2 dd (-1)), .ref (ad.1 6 p2)]) ⟨hx, hb, hml, hown, hu⟩ (c_X9_mindsOfA l D cA B0 ad hal d (sCommon S (S 2 p2) dd) ) (gS_X9_213 (fun _ h => h)) (n0 := 1) rfl (by decide +kernel) rfl ⟨Nat.le_of_ble_eq_true rfl, Nat.le_of_ble_eq_true rfl⟩ hK hW hB hS hl.1 rfl (lv_room (Nat.le_of_ble_eq_true rfl)) ⟨Nat.zero_le _, Nat.zero_le _⟩ dX9_findKept_198) hS (fun r_25 d_24 q_26 H locs hW hS => ?_)
                          obtain ⟨rfl, rfl⟩ := q_26
                          refine lv_land hx hb dX9_findKept_201 ?_
                          refine x_pl hx hb hu in_X5 tyX5 tyX5_ok nmX5 hown hK hW hS (hA.pier (by omega)) (kJ_6 _ _ _ _) rfl 12 (by decide +kernel) uF_X9_171 dX9_findKept_202 (fun H locs hW hS => ?_)
                          have hI := hI.uJ6 p2 12 (sFree S p2 dd (-1) &&& mA (sCommon S (S 2 p2) dd) 8) (Or.inr rfl)
                          have hK4 := hK4.st
                          refine n_iinc (q := 1) (lv' := [(2, .int (nI (p2 + 1))), (3, .ref (ad.1 6 p2)), (0, .ref (ad.1 0 0)), (1, .int (nI dd))]) hx hb dX9_findKept_205 hl (k := 3) rfl (by decide) (by decide) rfl (fun ls hl => ?_)
                          refine lv_goto (tgt := 161) hx hb dX9_findKept_208 (by decide) ?_
                          exact ih_lp161 (p2 + 1) (uJ d 6 p2 12 ((sFree S p2 dd (-1)) &&& (mA (sCommon S (S 2 p2) dd) 8))) _ _ ls (by omega) (by omega) hI hK4 hW hS (lv_sub hl [2, 3, 0] rfl)
                    exact lp161 (S 7 0 + 1) 0 d _ _ ls (by omega) (by omega) hI hK4 hW hS (lv_sub hl [1, 2, 0] rfl)
                  · refine lv_aload_n hx hb dX9_findKept_122 rfl (lv_at hl 0 rfl) ?_
                    refine x_gr hx hb hu in_X9 hown hK hW (hA.o (k := 0) rfl) (kX_0 _ _ _ _) rfl 2 (by decide) uF_X9_21 (hA.f 2 (k := 4) (i := 0) (by decide) (hA.li (by omega))) dX9_findKept_123 ?_
                    refine lv_iload_n hx hb dX9_findKept_126 rfl (lv_at hl 2 rfl) ?_
                    refine o_callq (o_runV (As := [.int (nI p1)]) (rest := []) ⟨hx, hb, hml, hown, hu⟩ (c_Jx4a65c_get_915e3 l D cA B0 ad hal S d hI.1.1 0 p1 (by decide) (show p1 < S 7 0 by omega)) (gV_X9_109 (fun _ h => h)) (n0 := 1) rfl (by decide +kernel) rfl ⟨Nat.le_of_ble_eq_true rfl, Nat.le_of_ble_eq_true rfl⟩ (o_recv hK hW (hA.li (by omega)) (kX_4 _ _ _ _) rfl) hK hW hB hS hl.1 rfl (lv_room (Nat.le_of_ble_eq_true rfl)) ⟨Nat.zero_le _, Nat.zero_le _⟩ dX9_findKept_127) hS (fun r_28 d_27 q_29 H locs hW hS => ?_)
                    obtain ⟨rfl, rfl⟩ := q_29
                    refine W.eq (g2 := F0 m 130 ls [.ref (ad.1 6 p1)]) rfl ?_
                    refine x_cast hx hb hu hown uL_X9_113 hK hW (hA.pier (by omega)) (kX_6 _ _ _ _) rfl dX9_findKept_130 ?_
                    refine lv_astore_n (lv' := [(3, .ref (ad.1 6 p1)), (0, .ref (ad.1 0 0)), (1, .int (nI dd)), (2, .int (nI p1))]) hx hb dX9_findKept_133 rfl hl (by decide) rfl (fun ls hl => ?_)
                    refine lv_aload_n hx hb dX9_findKept_134 rfl (lv_at hl 1 rfl) ?_
                    refine x_gr hx hb hu in_X9 hown hK hW (hA.o (k := 0) rfl) (kX_0 _ _ _ _) rfl 10 (by decide) uF_X9_62 (hA.f 10 (k := 25) (i := 0) (by decide) (hA.o (k := 25) rfl)) dX9_findKept_135 ?_
                    refine lv_aload_n hx hb dX9_findKept_138 rfl (lv_at hl 0 rfl) ?_
                    refine x_gi hx hb hu in_X5 hown hK hW (hA.pier (by omega)) (kX_6 _ _ _ _) rfl 0 (by decide) uF_X9_207 dX9_findKept_139 ?_
                    refine n_topi (y := nI (S 2 p1)) (hI.1.1.2.1.pier (by omega) 0 (by decide)) ?_
                    have b_30 : S 2 p1 ≤ 3 := hG.a 2 p1 (n := 8) (mx := 3) (by decide) (by omega)
                    refine lv_dup2_11 hx hb dX9_findKept_142 rfl rfl ?_
                    refine x_il hx hb hK hW (hA.o (k := 25) rfl) (kX_25 _ _ _ _) (by decide) (by omega) dX9_findKept_143 ?_
                    refine n_topi (y := sCm S (S 2 p1) dd p1) (hK3.2 _ (by omega)) ?_
                    refine lv_aload_n hx hb dX9_findKept_144 rfl (lv_at hl 0 rfl) ?_
                    refine x_gl hx hb hu in_X5 hown hK hW (hA.pier (by omega)) (kX_6 _ _ _ _) rfl 11 (by decide) uF_X9_163 dX9_findKept_145 ?_
                    refine n_topl (y := sFree S p1 dd (-1)) (hK3.1.1 _ (by omega)) ?_
                    refine o_calli (o_runS (As := [.long (sFree S p1 dd (-1))]) (rest := [.int (sCm S (S 2 p1) dd p1), .int (nI (S 2 p1)), .ref (ad.1 25 0)]) ⟨hx, hb, hml, hown, hu⟩ (c_X9_bitsOfA l D cA B0 ad hal d (sFree S p1 dd (-1)) ) (gS_X9_210 (fun _ h => h)) (n0 := 1) rfl (by decide +kernel) rfl ⟨Nat.le_of_ble_eq_true rfl, Nat.le_of_ble_eq_true rfl⟩ hK hW hB hS hl.1 rfl (lv_room (Nat.le_of_ble_eq_true rfl)) ⟨Nat.zero_le _, Nat.zero_le _⟩ dX9_findKept_148) hS (fun r_32 d_31 q_33 H locs hW hS => ?_)
                    obtain ⟨rfl, rfl⟩ := q_33
                    refine lv_iand hx hb dX9_findKept_151 ?_
                    refine x_is hx hb hK hW hS (hA.o (k := 25) rfl) (kI_25 _ _ _ _) (by decide) (by omega) dX9_findKept_152 (fun H locs hW hS => ?_)
                    have hI := hI.uI25 (S 2 p1) (sCm S (S 2 p1) dd p1 &&& sMi (sFree S p1 dd (-1)) 8)
                    have hK3 := hK3.st
                    refine n_iinc (q := 1) (lv' := [(2, .int (nI (p1 + 1))), (3, .ref (ad.1 6 p1)), (0, .ref (ad.1 0 0)), (1, .int (nI dd))]) hx hb dX9_findKept_153 hl (k := 3) rfl (by decide) (by decide) rfl (fun ls hl => ?_)
                    refine lv_goto (tgt := 111) hx hb dX9_findKept_156 (by decide) ?_
                    exact ih_lp111 (p1 + 1) (uI d 25 0 (S 2 p1) ((sCm S (S 2 p1) dd p1) &&& (sMi (sFree S p1 dd (-1)) 8))) _ _ ls (by omega) (by omega) hI hK3 hW hS (lv_sub hl [2, 3, 0] rfl)
              exact lp111 (S 7 0 + 1) 0 d_9 _ _ ls (by omega) (by omega) hI hK3 hW hS (lv_sub hl [1, 2, 0] rfl)
            · refine lv_aload_n hx hb dX9_findKept_49 rfl (lv_at hl 0 rfl) ?_
              refine x_gr hx hb hu in_X9 hown hK hW (hA.o (k := 0) rfl) (kX_0 _ _ _ _) rfl 3 (by decide) uF_X9_25 (hA.f 3 (k := 4) (i := 1) (by decide) (hA.li (by omega))) dX9_findKept_50 ?_
              refine lv_iload_n hx hb dX9_findKept_53 rfl (lv_at hl 2 rfl) ?_
              refine o_callq (o_runV (As := [.int (nI l1)]) (rest := []) ⟨hx, hb, hml, hown, hu⟩ (c_Jx4a65c_get_915e3 l D cA B0 ad hal S d hI.1.1 1 l1 (by decide) (show l1 < S 18 0 by omega)) (gV_X9_109 (fun _ h => h)) (n0 := 1) rfl (by decide +kernel) rfl ⟨Nat.le_of_ble_eq_true rfl, Nat.le_of_ble_eq_true rfl⟩ (o_recv hK hW (hA.li (by omega)) (kX_4 _ _ _ _) rfl) hK hW hB hS hl.1 rfl (lv_room (Nat.le_of_ble_eq_true rfl)) ⟨Nat.zero_le _, Nat.zero_le _⟩ dX9_findKept_54) hS (fun r_35 d_34 q_36 H locs hW hS => ?_)
              obtain ⟨rfl, rfl⟩ := q_36
              refine W.eq (g2 := F0 m 57 ls [.ref (ad.1 8 l1)]) rfl ?_
              refine x_cast hx hb hu hown uL_X9_116 hK hW (hA.look (by omega)) (kX_8 _ _ _ _) rfl dX9_findKept_57 ?_
              refine lv_astore_n (lv' := [(3, .ref (ad.1 8 l1)), (0, .ref (ad.1 0 0)), (1, .int (nI dd)), (2, .int (nI l1))]) hx hb dX9_findKept_60 rfl hl (by decide) rfl (fun ls hl => ?_)
              refine lv_aload_n hx hb dX9_findKept_61 rfl (lv_at hl 0 rfl) ?_
              refine o_callv (o_runV (As := []) (rest := []) ⟨hx, hb, hml, hown, hu⟩ (c_X2_freshen l D cA B0 ad hal S d hI.1 l1 (by omega)) (gV_X9_188 (fun _ h => h)) (n0 := 0) rfl (by decide +kernel) rfl ⟨Nat.le_of_ble_eq_true rfl, Nat.le_of_ble_eq_true rfl⟩ (o_recv hK hW (hA.look (by omega)) (kX_8 _ _ _ _) rfl) hK hW hB hS hl.1 rfl (lv_room (Nat.le_of_ble_eq_true rfl)) ⟨Nat.zero_le _, Nat.zero_le _⟩ dX9_findKept_62) hS (fun d_37 q_39 H locs hW hS => ?_)
              obtain ⟨hq, hfr, hbar, hF8⟩ := q_39
              have hI := hI.trans hq
              have hK2 := hK2.f8 hF8 hbar
              refine lv_aload_n hx hb dX9_findKept_65 rfl (lv_at hl 0 rfl) ?_
              refine lv_iload_n hx hb dX9_findKept_66 rfl (lv_at hl 2 rfl) ?_
              refine o_calli (o_runV (As := [.int (nI dd)]) (rest := []) ⟨hx, hb, hml, hown, hu⟩ (c_X2_isKnown l D cA B0 ad hal S d_37 hI.1.1 l1 dd (by omega) (by omega)) (gV_X9_191 (fun _ h => h)) (n0 := 1) rfl (by decide +kernel) rfl ⟨Nat.le_of_ble_eq_true rfl, Nat.le_of_ble_eq_true rfl⟩ (o_recv hK hW (hA.look (by omega)) (kX_8 _ _ _ _) rfl) hK hW hB hS hl.1 rfl (lv_room (Nat.le_of_ble_eq_true rfl)) ⟨Nat.zero_le _, Nat.zero_le _⟩ dX9_findKept_67) hS (fun r_41 d_40 q_42 H locs hW hS => ?_)
              obtain ⟨rfl, rfl⟩ := q_42
              refine lv_if_eq (tgt := 93) hx hb dX9_findKept_70 (by decide) (fun c_k => ?_) (fun c_k => ?_)
              · have hK2 := K2.no hK2 (bI_z c_k)
                refine n_iinc (q := 1) (lv' := [(2, .int (nI (l1 + 1))), (3, .ref (ad.1 8 l1)), (0, .ref (ad.1 0 0)), (1, .int (nI dd))]) hx hb dX9_findKept_93 hl (k := 3) rfl (by decide) (by decide) rfl (fun ls hl => ?_)
                refine lv_goto (tgt := 38) hx hb dX9_findKept_96 (by decide) ?_
                exact ih_lp38 (l1 + 1) d_37 _ _ ls (by omega) (by omega) hI hK2 hW hS (lv_sub hl [2, 3, 0] rfl)
              · have hlp : S 12 l1 < S 7 0 := hG.2.2.2.2.1 l1 (by omega)
                refine lv_aload_n hx hb dX9_findKept_73 rfl (lv_at hl 0 rfl) ?_
                refine x_gr hx hb hu in_X2 hown hK hW (hA.look (by omega)) (kX_8 _ _ _ _) rfl 0 (by decide) uF_X9_194 (hA.lp (by omega) (by omega)) dX9_findKept_74 ?_
                refine lv_dup hx hb dX9_findKept_77 rfl ?_
                refine x_gl hx hb hu in_X5 hown hK hW (hA.pier (by omega)) (kX_6 _ _ _ _) rfl 11 (by decide) uF_X9_163 dX9_findKept_78 ?_
                refine n_topl (y := sFr S (S 12 l1) dd (-1) l1) (hK2.1 _ hlp) ?_
                refine lv_aload_n hx hb dX9_findKept_81 rfl (lv_at hl 0 rfl) ?_
                refine x_gl hx hb hu in_X2 hown hK hW (hA.look (by omega)) (kX_8 _ _ _ _) rfl 7 (by decide) uF_X9_198 dX9_findKept_82 ?_
                refine n_topl (y := sBars S l1) (hbar) ?_
                refine lv_ldc2 (v := (-1)) hx hb hown (hu _ uK_X9_186) dX9_findKept_85 ?_
                refine lv_lxor hx hb dX9_findKept_88 ?_
                refine lv_land hx hb dX9_findKept_89 ?_
                refine x_pl hx hb hu in_X5 tyX5 tyX5_ok nmX5 hown hK hW hS (hA.pier (by omega)) (kJ_6 _ _ _ _) rfl 11 (by decide +kernel) uF_X9_163 dX9_findKept_90 (fun H locs hW hS => ?_)
                have hI := hI.uJ6 (S 12 l1) 11 (sFr S (S 12 l1) dd (-1) l1 &&& (sBars S l1 ^^^ (-1))) (Or.inl rfl)
                have hK2 := K2.yes hK2 (by omega) (bI_n c_k)
                refine n_iinc (q := 1) (lv' := [(2, .int (nI (l1 + 1))), (3, .ref (ad.1 8 l1)), (0, .ref (ad.1 0 0)), (1, .int (nI dd))]) hx hb dX9_findKept_93 hl (k := 3) rfl (by decide) (by decide) rfl (fun ls hl => ?_)
                refine lv_goto (tgt := 38) hx hb dX9_findKept_96 (by decide) ?_
                exact ih_lp38 (l1 + 1) (uJ d_37 6 (S 12 l1) 11 ((sFr S (S 12 l1) dd (-1) l1) &&& ((sBars S l1) ^^^ (-1)))) _ _ ls (by omega) (by omega) hI hK2 hW hS (lv_sub hl [2, 3, 0] rfl)
        exact lp38 (S 18 0 + 1) 0 d _ _ ls (by omega) (by omega) hI hK2 hW hS (lv_sub hl [1, 2, 0] rfl)
      · refine lv_aload_n hx hb dX9_findKept_13 rfl (lv_at hl 0 rfl) ?_
        refine x_gr hx hb hu in_X9 hown hK hW (hA.o (k := 0) rfl) (kX_0 _ _ _ _) rfl 2 (by decide) uF_X9_21 (hA.f 2 (k := 4) (i := 0) (by decide) (hA.li (by omega))) dX9_findKept_14 ?_
        refine lv_iload_n hx hb dX9_findKept_17 rfl (lv_at hl 2 rfl) ?_
        refine o_callq (o_runV (As := [.int (nI k1)]) (rest := []) ⟨hx, hb, hml, hown, hu⟩ (c_Jx4a65c_get_915e3 l D cA B0 ad hal S d hI.1.1 0 k1 (by decide) (show k1 < S 7 0 by omega)) (gV_X9_109 (fun _ h => h)) (n0 := 1) rfl (by decide +kernel) rfl ⟨Nat.le_of_ble_eq_true rfl, Nat.le_of_ble_eq_true rfl⟩ (o_recv hK hW (hA.li (by omega)) (kX_4 _ _ _ _) rfl) hK hW hB hS hl.1 rfl (lv_room (Nat.le_of_ble_eq_true rfl)) ⟨Nat.zero_le _, Nat.zero_le _⟩ dX9_findKept_18) hS (fun r_44 d_43 q_45 H locs hW hS => ?_)
        obtain ⟨rfl, rfl⟩ := q_45
        refine W.eq (g2 := F0 m 21 ls [.ref (ad.1 6 k1)]) rfl ?_
        refine x_cast hx hb hu hown uL_X9_113 hK hW (hA.pier (by omega)) (kX_6 _ _ _ _) rfl dX9_findKept_21 ?_
        refine lv_ldc2 (v := (-1)) hx hb hown (hu _ uK_X9_186) dX9_findKept_24 ?_
        refine x_pl hx hb hu in_X5 tyX5 tyX5_ok nmX5 hown hK hW hS (hA.pier (by omega)) (kJ_6 _ _ _ _) rfl 11 (by decide +kernel) uF_X9_163 dX9_findKept_27 (fun H locs hW hS => ?_)
        have hI := hI.uJ6 k1 11 (-1) (Or.inl rfl)
        have h1 := K1_st h1
        refine n_iinc (q := 1) (lv' := [(2, .int (nI (k1 + 1))), (0, .ref (ad.1 0 0)), (1, .int (nI dd))]) hx hb dX9_findKept_30 hl (k := 2) rfl (by decide) (by decide) rfl (fun ls hl => ?_)
        refine lv_goto (tgt := 2) hx hb dX9_findKept_33 (by decide) ?_
        exact ih_lp2 (k1 + 1) (uJ d 6 k1 11 (-1)) _ _ ls (by omega) (by omega) hI h1 hW hS (lv_sub hl [1, 2, 0] rfl)
  exact lp2 (S 7 0 + 1) 0 d0 _ _ ls (by omega) (by omega) hI (fun _ h => absurd h (Nat.not_lt_zero _)) hW hS (lv_sub hl [1, 2, 0] rfl)
