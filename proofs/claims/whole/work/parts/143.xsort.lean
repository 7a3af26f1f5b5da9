set_option maxHeartbeats 400000 in
set_option maxRecDepth 100000 in
theorem c_fill_20 (l : Launch) (D : va_G) (cA : Nat → ClassId) (B0 : Nat) (ad : kA) (hal : mAl ad) (S : sS) (d0 : kD) (hX : XB cA ad S d0) (v : Int64) : oM l yJ7_fill_d0a16 wJ7_fill_d0a16 1 0 0 D cA B0 ad d0 ([.ref (ad.1 20 0), .long v] : List Value) (oQv D cA B0 ad (fun d1 => FKJ 20 d0 d1 ∧ ∀ f, f < 201 → d1.2.1 20 0 f = v)) := by
  refine o_ofW (cc := cJ7_fill_d0a16) (maxL := 5) (ret := none) (by decide) rfl (Nat.le_of_ble_eq_true rfl) ?_
  intro p e s m below meth c hx hb hr hml hts hown hlocks hnm hK hW hB hS ls hl
  have hu : ∀ w ∈ UW, w.before _ s = true := fun w h => hts w (uw_c w h)
  have hl : lv_has ls 5 [(0, .ref (ad.1 20 0)), (1, .long v)] := hl
  have hA := hX.1
  have hG := hX.2.2
  have hb7 : S 7 0 ≤ 8 := hG.f 7 (mx := 8) (by decide)
  have hb11 : S 11 0 ≤ 20 := hG.f 11 (mx := 20) (by decide)
  have hb18 : S 18 0 ≤ 40 := hG.f 18 (mx := 40) (by decide)
  refine n_iconst (v := 0) hx hb dJ7_fill_d0a16_0 (by decide) ?_
  refine lv_istore_n (lv' := [(3, .int (nI 0)), (0, .ref (ad.1 20 0)), (1, .long v)]) hx hb dJ7_fill_d0a16_1 rfl hl (by decide) rfl (fun ls hl => ?_)
  refine lv_aload_n hx hb dJ7_fill_d0a16_2 rfl (lv_at hl 1 rfl) ?_
  refine x_len hx hb hK hW (hA.o (k := 20) rfl) 1 (kX_20 _ _ _ _) rfl dJ7_fill_d0a16_3 ?_
  refine lv_istore (lv' := [(4, .int (nI 201)), (3, .int (nI 0)), (0, .ref (ad.1 20 0)), (1, .long v)]) hx hb dJ7_fill_d0a16_4 hl (by decide) rfl (fun ls hl => ?_)
  have lp6 : ∀ (n : Nat) (k : Nat)  (d : kD) (H : Heap) (locs : List Loc) (ls : Array Slot), 201 - k < n → (k ≤ 201) → (FKJ 20 d0 d) → (∀ f, f < k → d.2.1 20 0 f = v) → oW D cA B0 ad d H → va_S (oA B0) s.heap H locs → lv_has ls 5 [(0, .ref (ad.1 20 0)), (1, .long v), (3, .int (nI k)), (4, .int (nI 201))] → W p l e (oR 1 0 0) s m ([.ref (ad.1 20 0), .long v] : List Value).toArray below meth c H locs 0 0 (MQ below (oQv D cA B0 ad (fun d1 => FKJ 20 d0 d1 ∧ ∀ f, f < 201 → d1.2.1 20 0 f = v)) ([.ref (ad.1 20 0), .long v] : List Value).toArray s 0 0 (oA B0)) (F0 m 6 ls []) := by
    intro n
    induction n with
    | zero => intro k  d H locs ls hmu; exact absurd hmu (Nat.not_lt_zero _)
    | succ n ih_lp6 =>
      intro k  d H locs ls hmu hk hFK hfl hW hS hl
      refine lv_iload_n hx hb dJ7_fill_d0a16_6 rfl (lv_at hl 2 rfl) ?_
      refine lv_iload hx hb dJ7_fill_d0a16_7 (lv_at hl 3 rfl) ?_
      refine n_icmp_ge (tgt := 22) hx hb (by omega) (by omega) dJ7_fill_d0a16_9 (by decide) (fun c_1 => ?_) (fun c_1 => ?_)
      · exact o_vret hx hb hr hlocks hW hS (⟨hFK, (show k = 201 by omega) ▸ hfl⟩) dJ7_fill_d0a16_22
      · refine lv_aload_n hx hb dJ7_fill_d0a16_12 rfl (lv_at hl 0 rfl) ?_
        refine lv_iload_n hx hb dJ7_fill_d0a16_13 rfl (lv_at hl 2 rfl) ?_
        refine lv_lload_n hx hb dJ7_fill_d0a16_14 rfl (lv_at hl 1 rfl) ?_
        refine x_ls hx hb hK hW hS (hA.o (k := 20) rfl) (kJ_20 _ _ _ _) (by decide) (by omega) dJ7_fill_d0a16_15 (fun H locs hW hS => ?_)
        have hFK := hFK.st k v
        have hfl := fill_stJ hfl
        refine n_iinc (q := 1) (lv' := [(3, .int (nI (k + 1))), (0, .ref (ad.1 20 0)), (1, .long v), (4, .int (nI 201))]) hx hb dJ7_fill_d0a16_16 hl (k := 2) rfl (by decide) (by decide) rfl (fun ls hl => ?_)
        refine lv_goto (tgt := 6) hx hb dJ7_fill_d0a16_19 (by decide) ?_
        exact ih_lp6 (k + 1) (uJ d 20 0 k v) _ _ ls (by omega) (by omega) hFK hfl hW hS (lv_sub hl [1, 2, 0, 3] rfl)
  exact lp6 (202) 0 d0 _ _ ls (by omega) (by omega) (FKJ.refl 20 d0) (fun _ h => absurd h (Nat.not_lt_zero _)) hW hS (lv_sub hl [2, 3, 1, 0] rfl)

set_option maxHeartbeats 400000 in
set_option maxRecDepth 100000 in
theorem c_X0_clear (l : Launch) (D : va_G) (cA : Nat → ClassId) (B0 : Nat) (ad : kA) (hal : mAl ad) (S : sS) (d0 : kD) (hX : XB cA ad S d0) : oM l yX0_clear wX0_clear 1 0 0 D cA B0 ad d0 ([.ref (ad.1 16 0)] : List Value) (oQv D cA B0 ad (fun d1 => uI d0 16 0 5 (nI 0) = d1)) := by
  refine o_ofW (cc := cX0_clear) (maxL := 1) (ret := none) (by decide) rfl (Nat.le_of_ble_eq_true rfl) ?_
  intro p e s m below meth c hx hb hr hml hts hown hlocks hnm hK hW hB hS ls hl
  have hu : ∀ w ∈ UW, w.before _ s = true := fun w h => hts w (uw_c w h)
  have hl : lv_has ls 1 [(0, .ref (ad.1 16 0))] := hl
  have hA := hX.1
  have hG := hX.2.2
  have hb7 : S 7 0 ≤ 8 := hG.f 7 (mx := 8) (by decide)
  have hb11 : S 11 0 ≤ 20 := hG.f 11 (mx := 20) (by decide)
  have hb18 : S 18 0 ≤ 40 := hG.f 18 (mx := 40) (by decide)
  refine lv_aload_n hx hb dX0_clear_0 rfl (lv_at hl 0 rfl) ?_
  refine n_iconst (v := 0) hx hb dX0_clear_1 (by decide) ?_
  refine x_pi hx hb hu in_X0 tyX0 tyX0_ok nmX0 hown hK hW hS (hA.o (k := 16) rfl) (kI_16 _ _ _ _) rfl 5 (ty := .int) (by decide +kernel) uF_X0_28 ⟨rfl, rfl⟩ dX0_clear_2 (fun H locs hW hS => ?_)
  exact o_vret hx hb hr hlocks hW hS (rfl) dX0_clear_5

set_option maxHeartbeats 400000 in
set_option maxRecDepth 100000 in
theorem c_X0_sortByHole (l : Launch) (D : va_G) (cA : Nat → ClassId) (B0 : Nat) (ad : kA) (hal : mAl ad) (S : sS) (d0 : kD) (hM : InvX cA ad S d0) (pp dd : Nat) (x : Int64) (hp : pp < S 7 0) (hd : dd < 400) (hx0 : d0.2.1 6 pp 12 = x) : oM l yX0_sortByHole wX0_sortByHole 4 0 0 D cA B0 ad d0 ([.ref (ad.1 16 0), .ref (ad.1 6 pp), .int (nI dd)] : List Value) (oQv D cA B0 ad (fun d1 => XA cA ad S d0 d1 ∧ SH S pp x dd d1 ∧ NS d0 d1)) := by
  refine o_ofW (cc := cX0_sortByHole) (maxL := 4) (ret := none) (by decide) rfl (Nat.le_of_ble_eq_true rfl) ?_
  intro p e s m below meth c hx hb hr hml hts hown hlocks hnm hK hW hB hS ls hl
  have hu : ∀ w ∈ UW, w.before _ s = true := fun w h => hts w (uw_c w h)
  have hl : lv_has ls 4 [(0, .ref (ad.1 16 0)), (1, .ref (ad.1 6 pp)), (2, .int (nI dd))] := hl
  have hX := hM.1
  have hA := hX.1
  have hG := hX.2.2
  have hb7 : S 7 0 ≤ 8 := hG.f 7 (mx := 8) (by decide)
  have hb11 : S 11 0 ≤ 20 := hG.f 11 (mx := 20) (by decide)
  have hb18 : S 18 0 ≤ 40 := hG.f 18 (mx := 40) (by decide)
  have hI : XA cA ad S d0 d0 := XA.start hM
  refine lv_aload_n hx hb dX0_sortByHole_0 rfl (lv_at hl 1 rfl) ?_
  refine lv_iload_n hx hb dX0_sortByHole_1 rfl (lv_at hl 2 rfl) ?_
  refine o_callv (o_runV (As := [.int (nI dd)]) (rest := []) ⟨hx, hb, hml, hown, hu⟩ (c_X5_goTo l D cA B0 ad hal S d0 hI.1 pp dd (by omega) (by omega)) (gV_X0_50 (fun _ h => h)) (n0 := 1) rfl (by decide +kernel) rfl ⟨Nat.le_of_ble_eq_true rfl, Nat.le_of_ble_eq_true rfl⟩ (o_recv hK hW (hA.pier (by omega)) (kX_6 _ _ _ _) rfl) hK hW hB hS hl.1 rfl (lv_room (Nat.le_of_ble_eq_true rfl)) ⟨Nat.zero_le _, Nat.zero_le _⟩ dX0_sortByHole_2) hS (fun dG q_2 H locs hW hS => ?_)
  obtain ⟨hq, hat, hF1⟩ := q_2
  have hI := hI.w hq
  refine lv_aload_n hx hb dX0_sortByHole_5 rfl (lv_at hl 0 rfl) ?_
  refine x_gr hx hb hu in_X0 hown hK hW (hA.o (k := 16) rfl) (kX_16 _ _ _ _) rfl 3 (by decide) uF_X0_22 (hA.ah 3 (k := 20) (by decide)) dX0_sortByHole_6 ?_
  refine lv_lconst (v := 0) hx hb dX0_sortByHole_9 (by decide) ?_
  refine o_callv (o_runS (As := [.ref (ad.1 20 0), .long 0]) (rest := []) ⟨hx, hb, hml, hown, hu⟩ (c_fill_20 l D cA B0 ad hal S dG hI.1.1 0) (gS_X0_56 (fun _ h => h)) (n0 := 2) rfl (by decide +kernel) rfl ⟨Nat.le_of_ble_eq_true rfl, Nat.le_of_ble_eq_true rfl⟩ hK hW hB hS hl.1 rfl (lv_room (Nat.le_of_ble_eq_true rfl)) ⟨Nat.zero_le _, Nat.zero_le _⟩ dX0_sortByHole_10) hS (fun d_3 q_5 H locs hW hS => ?_)
  obtain ⟨hFK, hfl⟩ := q_5
  have hI := FKJ.a hI hFK
  have hNS := (NS.of1 hF1).fkj hFK
  have hat : At S d_3 pp (dd + 1) := ⟨by rw [hFK.1]; exact hat.1, fun m hm => by rw [hFK.1]; exact hat.2 m hm⟩
  have hkx : d_3.2.1 6 pp 12 = x := by rw [hFK.2.1 _ _ _ (by omega), hF1.2]; exact hx0
  have hWH : WH S pp x dd 0 d_3 := fun h hh => hfl h hh
  refine n_iconst (v := 0) hx hb dX0_sortByHole_13 (by decide) ?_
  refine lv_istore_n (lv' := [(3, .int (nI 0)), (0, .ref (ad.1 16 0)), (1, .ref (ad.1 6 pp)), (2, .int (nI dd))]) hx hb dX0_sortByHole_14 rfl hl (by decide) rfl (fun ls hl => ?_)
  have lp15 : ∀ (n : Nat) (k : Nat)  (d : kD) (H : Heap) (locs : List Loc) (ls : Array Slot), 64 - k < n → (k ≤ 64) → (XA cA ad S d0 d) → (At S d pp (dd + 1)) → (d.2.1 6 pp 12 = x) → (WH S pp x dd k d) → (NS d0 d) → oW D cA B0 ad d H → va_S (oA B0) s.heap H locs → lv_has ls 4 [(0, .ref (ad.1 16 0)), (1, .ref (ad.1 6 pp)), (2, .int (nI dd)), (3, .int (nI k))] → W p l e (oR 4 0 0) s m ([.ref (ad.1 16 0), .ref (ad.1 6 pp), .int (nI dd)] : List Value).toArray below meth c H locs 0 0 (MQ below (oQv D cA B0 ad (fun d1 => XA cA ad S d0 d1 ∧ SH S pp x dd d1 ∧ NS d0 d1)) ([.ref (ad.1 16 0), .ref (ad.1 6 pp), .int (nI dd)] : List Value).toArray s 0 0 (oA B0)) (F0 m 15 ls []) := by
    intro n
    induction n with
    | zero => intro k  d H locs ls hmu; exact absurd hmu (Nat.not_lt_zero _)
    | succ n ih_lp15 =>
      intro k  d H locs ls hmu hk hI hat hkx hWH hNS hW hS hl
      refine lv_iload_n hx hb dX0_sortByHole_15 rfl (lv_at hl 3 rfl) ?_
      refine n_bipush (v := 64) hx hb dX0_sortByHole_16 (by decide) ?_
      refine n_icmp_ge (tgt := 54) hx hb (by omega) (by omega) dX0_sortByHole_18 (by decide) (fun c_6 => ?_) (fun c_6 => ?_)
      · have hk64 : k = 64 := by omega
        rw [hk64] at hWH
        have hWH : ∀ h, h < 201 → d.2.1 20 0 h = sHB S pp x dd h := hWH
        have hNA : NAt S pp x dd 0 d := fun h hh => by rw [show h = 0 by omega, sNA_0]; exact hI.1.1.2.1.2.2.2.2.2.2.2.2.2
        refine n_iconst (v := 0) hx hb dX0_sortByHole_54 (by decide) ?_
        refine lv_istore_n (lv' := [(3, .int (nI 0)), (0, .ref (ad.1 16 0)), (1, .ref (ad.1 6 pp)), (2, .int (nI dd))]) hx hb dX0_sortByHole_55 rfl hl (by decide) rfl (fun ls hl => ?_)
        have lp56 : ∀ (n : Nat) (h : Nat)  (d : kD) (H : Heap) (locs : List Loc) (ls : Array Slot), 201 - h < n → (h ≤ 201) → (XA cA ad S d0 d) → (∀ h, h < 201 → d.2.1 20 0 h = sHB S pp x dd h) → (NAt S pp x dd h d) → (NS d0 d) → oW D cA B0 ad d H → va_S (oA B0) s.heap H locs → lv_has ls 4 [(0, .ref (ad.1 16 0)), (1, .ref (ad.1 6 pp)), (2, .int (nI dd)), (3, .int (nI h))] → W p l e (oR 4 0 0) s m ([.ref (ad.1 16 0), .ref (ad.1 6 pp), .int (nI dd)] : List Value).toArray below meth c H locs 0 0 (MQ below (oQv D cA B0 ad (fun d1 => XA cA ad S d0 d1 ∧ SH S pp x dd d1 ∧ NS d0 d1)) ([.ref (ad.1 16 0), .ref (ad.1 6 pp), .int (nI dd)] : List Value).toArray s 0 0 (oA B0)) (F0 m 56 ls []) := by
          intro n
          induction n with
          | zero => intro h  d H locs ls hmu; exact absurd hmu (Nat.not_lt_zero _)
          | succ n ih_lp56 =>
            intro h  d H locs ls hmu hh hI hWH hNA hNS hW hS hl
            refine lv_iload_n hx hb dX0_sortByHole_56 rfl (lv_at hl 3 rfl) ?_
            refine n_sipush (v := 200) hx hb dX0_sortByHole_57 (by decide) ?_
            refine n_icmp_gt (tgt := 90) hx hb (by omega) (by omega) dX0_sortByHole_60 (by decide) (fun c_7 => ?_) (fun c_7 => ?_)
            · exact o_vret hx hb hr hlocks hW hS (⟨hI, ⟨hWH, fun q hq => hNA q (by omega)⟩, hNS⟩) dX0_sortByHole_90
            · refine lv_aload_n hx hb dX0_sortByHole_63 rfl (lv_at hl 0 rfl) ?_
              refine x_gr hx hb hu in_X0 hown hK hW (hA.o (k := 16) rfl) (kX_16 _ _ _ _) rfl 4 (by decide) uF_X0_25 (hA.ah 4 (k := 21) (by decide)) dX0_sortByHole_64 ?_
              refine lv_iload_n hx hb dX0_sortByHole_67 rfl (lv_at hl 3 rfl) ?_
              refine n_iconst (v := 1) hx hb dX0_sortByHole_68 (by decide) ?_
              refine n_iadd hx hb dX0_sortByHole_69 ?_
              refine lv_aload_n hx hb dX0_sortByHole_70 rfl (lv_at hl 0 rfl) ?_
              refine x_gr hx hb hu in_X0 hown hK hW (hA.o (k := 16) rfl) (kX_16 _ _ _ _) rfl 4 (by decide) uF_X0_25 (hA.ah 4 (k := 21) (by decide)) dX0_sortByHole_71 ?_
              refine lv_iload_n hx hb dX0_sortByHole_74 rfl (lv_at hl 3 rfl) ?_
              refine x_ll hx hb hK hW (hA.o (k := 21) rfl) (kX_21 _ _ _ _) (by decide) (by omega) dX0_sortByHole_75 ?_
              refine n_topl (y := sNA S pp x dd h) (hNA h (Nat.le_refl _)) ?_
              refine lv_aload_n hx hb dX0_sortByHole_76 rfl (lv_at hl 0 rfl) ?_
              refine x_gr hx hb hu in_X0 hown hK hW (hA.o (k := 16) rfl) (kX_16 _ _ _ _) rfl 3 (by decide) uF_X0_22 (hA.ah 3 (k := 20) (by decide)) dX0_sortByHole_77 ?_
              refine lv_iload_n hx hb dX0_sortByHole_80 rfl (lv_at hl 3 rfl) ?_
              refine x_ll hx hb hK hW (hA.o (k := 20) rfl) (kX_20 _ _ _ _) (by decide) (by omega) dX0_sortByHole_81 ?_
              refine n_topl (y := sHB S pp x dd h) (hWH h (by omega)) ?_
              refine lv_lor hx hb dX0_sortByHole_82 ?_
              refine n_topl (y := sNA S pp x dd (h + 1)) (sNA_s S pp x dd h) ?_
              refine x_ls hx hb hK hW hS (hA.o (k := 21) rfl) (kJ_21 _ _ _ _) (by decide) (by omega) dX0_sortByHole_83 (fun H locs hW hS => ?_)
              have hI := hI.uJ 21 0 (h + 1) (sNA S pp x dd (h + 1)) (decide_eq_true (by omega))
              have hNS := hNS.uJ 21 0 (h + 1) (sNA S pp x dd (h + 1)) (by decide)
              have hNA := hNA.st rfl
              refine n_iinc (q := 1) (lv' := [(3, .int (nI (h + 1))), (0, .ref (ad.1 16 0)), (1, .ref (ad.1 6 pp)), (2, .int (nI dd))]) hx hb dX0_sortByHole_84 hl (k := 3) rfl (by decide) (by decide) rfl (fun ls hl => ?_)
              refine lv_goto (tgt := 56) hx hb dX0_sortByHole_87 (by decide) ?_
              exact ih_lp56 (h + 1) (uJ d 21 0 (h + 1) (sNA S pp x dd (h + 1))) _ _ ls (by omega) (by omega) hI hWH hNA hNS hW hS (lv_sub hl [1, 2, 3, 0] rfl)
        exact lp56 (202) 0 d _ _ ls (by omega) (by omega) hI hWH hNA hNS hW hS (lv_sub hl [1, 2, 3, 0] rfl)
      · refine lv_aload_n hx hb dX0_sortByHole_21 rfl (lv_at hl 1 rfl) ?_
        refine x_gl hx hb hu in_X5 hown hK hW (hA.pier (by omega)) (kX_6 _ _ _ _) rfl 12 (by decide) uF_X0_62 dX0_sortByHole_22 ?_
        refine n_topl (y := x) (hkx) ?_
        refine lv_iload_n hx hb dX0_sortByHole_25 rfl (lv_at hl 3 rfl) ?_
        refine o_calli (o_runSN (As := [.long x, .int (nI k)]) (rest := []) ⟨hx, hb, hml, hown, hu⟩ (c_X9_holds l D cA B0 ad hal d x k (by omega)) uC_X9_holds uT_X9_holds uI_X9 uMN_X0_66 (n0 := 2) (by decide +kernel) rfl ⟨Nat.le_of_ble_eq_true rfl, Nat.le_of_ble_eq_true rfl⟩ hK hW hB hS hl.1 rfl (lv_room (Nat.le_of_ble_eq_true rfl)) ⟨Nat.zero_le _, Nat.zero_le _⟩ dX0_sortByHole_26) hS (fun r_9 d_8 q_10 H locs hW hS => ?_)
        obtain ⟨rfl, rfl⟩ := q_10
        refine lv_if_eq (tgt := 48) hx hb dX0_sortByHole_29 (by decide) (fun c_h => ?_) (fun c_h => ?_)
        · have hWH := hWH.no (bI_z c_h)
          refine n_iinc (q := 1) (lv' := [(3, .int (nI (k + 1))), (0, .ref (ad.1 16 0)), (1, .ref (ad.1 6 pp)), (2, .int (nI dd))]) hx hb dX0_sortByHole_48 hl (k := 3) rfl (by decide) (by decide) rfl (fun ls hl => ?_)
          refine lv_goto (tgt := 15) hx hb dX0_sortByHole_51 (by decide) ?_
          exact ih_lp15 (k + 1) d _ _ ls (by omega) (by omega) hI hat hkx hWH hNS hW hS (lv_sub hl [1, 2, 3, 0] rfl)
        · refine lv_aload_n hx hb dX0_sortByHole_32 rfl (lv_at hl 0 rfl) ?_
          refine x_gr hx hb hu in_X0 hown hK hW (hA.o (k := 16) rfl) (kX_16 _ _ _ _) rfl 3 (by decide) uF_X0_22 (hA.ah 3 (k := 20) (by decide)) dX0_sortByHole_33 ?_
          refine lv_aload_n hx hb dX0_sortByHole_36 rfl (lv_at hl 1 rfl) ?_
          refine lv_iload_n hx hb dX0_sortByHole_37 rfl (lv_at hl 3 rfl) ?_
          refine o_calli (o_runV (As := [.int (nI k)]) (rest := [.ref (ad.1 20 0)]) ⟨hx, hb, hml, hown, hu⟩ (c_X5_holeBy l D cA B0 ad hal S d hI.1.1 pp k (dd + 1) (by omega) (by omega) hat) (gV_X0_70 (fun _ h => h)) (n0 := 1) rfl (by decide +kernel) rfl ⟨Nat.le_of_ble_eq_true rfl, Nat.le_of_ble_eq_true rfl⟩ (o_recv hK hW (hA.pier (by omega)) (kX_6 _ _ _ _) rfl) hK hW hB hS hl.1 rfl (lv_room (Nat.le_of_ble_eq_true rfl)) ⟨Nat.zero_le _, Nat.zero_le _⟩ dX0_sortByHole_38) hS (fun r_12 d_11 q_13 H locs hW hS => ?_)
          obtain ⟨rfl, rfl⟩ := q_13
          have hho : sHole S pp k dd ≤ 200 := (sHE_le hG (by omega) (dd + 1)).1
          refine n_top (b := sHole S pp k dd) rfl ?_
          refine lv_dup2_11 hx hb dX0_sortByHole_41 rfl rfl ?_
          refine x_ll hx hb hK hW (hA.o (k := 20) rfl) (kX_20 _ _ _ _) (by decide) (by omega) dX0_sortByHole_42 ?_
          refine n_topl (y := sBits (fun m => hasB x m && decide (sHole S pp m dd = sHole S pp k dd)) k) (hWH _ (by omega)) ?_
          refine lv_lconst (v := 1) hx hb dX0_sortByHole_43 (by decide) ?_
          refine lv_iload_n hx hb dX0_sortByHole_44 rfl (lv_at hl 3 rfl) ?_
          refine lv_lshl (v := lsl 1 k) hx hb dX0_sortByHole_45 rfl ?_
          refine lv_lor hx hb dX0_sortByHole_46 ?_
          refine x_ls hx hb hK hW hS (hA.o (k := 20) rfl) (kJ_20 _ _ _ _) (by decide) (by omega) dX0_sortByHole_47 (fun H locs hW hS => ?_)
          have hI := hI.uJ 20 0 (sHole S pp k dd) (sBits (fun m => hasB x m && decide (sHole S pp m dd = sHole S pp k dd)) k ||| lsl 1 k) (decide_eq_true (by omega))
          have hNS := hNS.uJ 20 0 (sHole S pp k dd) (sBits (fun m => hasB x m && decide (sHole S pp m dd = sHole S pp k dd)) k ||| lsl 1 k) (by decide)
          have hWH := hWH.yes (bI_n c_h) hho rfl
          refine n_iinc (q := 1) (lv' := [(3, .int (nI (k + 1))), (0, .ref (ad.1 16 0)), (1, .ref (ad.1 6 pp)), (2, .int (nI dd))]) hx hb dX0_sortByHole_48 hl (k := 3) rfl (by decide) (by decide) rfl (fun ls hl => ?_)
          refine lv_goto (tgt := 15) hx hb dX0_sortByHole_51 (by decide) ?_
          exact ih_lp15 (k + 1) (uJ d 20 0 ((sHE S pp k (dd + 1)).1) ((sBits (fun m => hasB x m && decide (sHole S pp m dd = sHole S pp k dd)) k) ||| (lsl 1 k))) _ _ ls (by omega) (by omega) hI hat hkx hWH hNS hW hS (lv_sub hl [1, 2, 3, 0] rfl)
  exact lp15 (65) 0 d_3 _ _ ls (by omega) (by omega) hI hat hkx hWH hNS hW hS (lv_sub hl [1, 2, 3, 0] rfl)
