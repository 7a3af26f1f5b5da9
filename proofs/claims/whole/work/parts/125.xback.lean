set_option maxHeartbeats 400000 in
set_option maxRecDepth 100000 in
theorem c_X5_backTo (l : Launch) (D : va_G) (cA : Nat → ClassId) (B0 : Nat) (ad : kA) (hal : mAl ad) (S : sS) (d0 : kD) (hX : XB cA ad S d0) (pp mk k : Nat) (hp : pp < S 7 0) (hmk : mk ≤ k) (hk10 : k ≤ 10) (hMk : Mk S d0 pp k) : oM l yX5_backTo wX5_backTo 1 0 0 D cA B0 ad d0 ([.ref (ad.1 6 pp), .int (nI mk)] : List Value) (oQv D cA B0 ad (fun d1 => At S d1 pp (40 * mk) ∧ Mk S d1 pp k ∧ F1 pp d0 d1 ∧ d1.1 6 pp 8 = d0.1 6 pp 8)) := by
  refine o_ofW (cc := cX5_backTo) (maxL := 3) (ret := none) (by decide) rfl (Nat.le_of_ble_eq_true rfl) ?_
  intro p e s m below meth c hx hb hr hml hts hown hlocks hnm hK hW hB hS ls hl
  have hu : ∀ w ∈ UW, w.before _ s = true := fun w h => hts w (uw_c w h)
  have hl : lv_has ls 3 [(0, .ref (ad.1 6 pp)), (1, .int (nI mk))] := hl
  have hA := hX.1
  have hG := hX.2.2
  have hb7 : S 7 0 ≤ 8 := hG.f 7 (mx := 8) (by decide)
  have hb11 : S 11 0 ≤ 20 := hG.f 11 (mx := 20) (by decide)
  have hb18 : S 18 0 ≤ 40 := hG.f 18 (mx := 40) (by decide)
  refine n_iconst (v := 0) hx hb dX5_backTo_0 (by decide) ?_
  refine lv_istore_n (lv' := [(2, .int (nI 0)), (0, .ref (ad.1 6 pp)), (1, .int (nI mk))]) hx hb dX5_backTo_1 rfl hl (by decide) rfl (fun ls hl => ?_)
  have lp2 : ∀ (n : Nat) (m1 : Nat)  (d : kD) (H : Heap) (locs : List Loc) (ls : Array Slot), 64 - m1 < n → (m1 ≤ 64) → (BT (fun m => pkd (sHE S pp m (40 * mk))) pp m1 d0 d) → oW D cA B0 ad d H → va_S (oA B0) s.heap H locs → lv_has ls 3 [(0, .ref (ad.1 6 pp)), (1, .int (nI mk)), (2, .int (nI m1))] → W p l e (oR 1 0 0) s m ([.ref (ad.1 6 pp), .int (nI mk)] : List Value).toArray below meth c H locs 0 0 (MQ below (oQv D cA B0 ad (fun d1 => At S d1 pp (40 * mk) ∧ Mk S d1 pp k ∧ F1 pp d0 d1 ∧ d1.1 6 pp 8 = d0.1 6 pp 8)) ([.ref (ad.1 6 pp), .int (nI mk)] : List Value).toArray s 0 0 (oA B0)) (F0 m 2 ls []) := by
    intro n
    induction n with
    | zero => intro m1  d H locs ls hmu; exact absurd hmu (Nat.not_lt_zero _)
    | succ n ih_lp2 =>
      intro m1  d H locs ls hmu hm1 hBT hW hS hl
      refine lv_iload_n hx hb dX5_backTo_2 rfl (lv_at hl 2 rfl) ?_
      refine n_bipush (v := 64) hx hb dX5_backTo_3 (by decide) ?_
      refine n_icmp_ge (tgt := 39) hx hb (by omega) (by omega) dX5_backTo_5 (by decide) (fun c_1 => ?_) (fun c_1 => ?_)
      · refine lv_aload_n hx hb dX5_backTo_39 rfl (lv_at hl 0 rfl) ?_
        refine lv_iload_n hx hb dX5_backTo_40 rfl (lv_at hl 1 rfl) ?_
        refine n_bipush (v := 40) hx hb dX5_backTo_41 (by decide) ?_
        refine n_imul hx hb dX5_backTo_43 ?_
        refine n_top (b := 40 * mk) (by omega) ?_
        refine x_pi hx hb hu in_X5 tyX5 tyX5_ok nmX5 hown hK hW hS (hA.pier (by omega)) (kI_6 _ _ _ _) rfl 7 (ty := .int) (by decide +kernel) uF_X5_9 ⟨rfl, rfl⟩ dX5_backTo_44 (fun H locs hW hS => ?_)
        exact o_vret hx hb hr hlocks hW hS (BT.back ((show m1 = 64 by omega) ▸ hBT) hMk) dX5_backTo_47
      · refine lv_aload_n hx hb dX5_backTo_8 rfl (lv_at hl 0 rfl) ?_
        refine x_gr hx hb hu in_X5 hown hK hW (hA.pier (by omega)) (kX_6 _ _ _ _) rfl 6 (by decide) uF_X5_51 (hA.ps (by omega) (by omega)) dX5_backTo_9 ?_
        refine lv_iload_n hx hb dX5_backTo_12 rfl (lv_at hl 2 rfl) ?_
        refine lv_iload_n hx hb dX5_backTo_13 rfl (lv_at hl 1 rfl) ?_
        have j32 : ∀ (tv : Nat)  (H : Heap) (locs : List Loc) (ls : Array Slot), (tv = pkd (sHE S pp m1 (40 * mk))) → oW D cA B0 ad d H → va_S (oA B0) s.heap H locs → lv_has ls 3 [(0, .ref (ad.1 6 pp)), (1, .int (nI mk)), (2, .int (nI m1))] → W p l e (oR 1 0 0) s m ([.ref (ad.1 6 pp), .int (nI mk)] : List Value).toArray below meth c H locs 0 0 (MQ below (oQv D cA B0 ad (fun d1 => At S d1 pp (40 * mk) ∧ Mk S d1 pp k ∧ F1 pp d0 d1 ∧ d1.1 6 pp 8 = d0.1 6 pp 8)) ([.ref (ad.1 6 pp), .int (nI mk)] : List Value).toArray s 0 0 (oA B0)) (F0 m 32 ls [.int (nI tv), .int (nI m1), .ref (ad.1 3 pp)]) := by
          intro tv  H locs ls htv hW hS hl
          refine x_is hx hb hK hW hS (hA.st (by omega)) (kI_3 _ _ _ _) (by decide) (by omega) dX5_backTo_32 (fun H locs hW hS => ?_)
          have hBT := hBT.st htv
          refine n_iinc (q := 1) (lv' := [(2, .int (nI (m1 + 1))), (0, .ref (ad.1 6 pp)), (1, .int (nI mk))]) hx hb dX5_backTo_33 hl (k := 2) rfl (by decide) (by decide) rfl (fun ls hl => ?_)
          refine lv_goto (tgt := 2) hx hb dX5_backTo_36 (by decide) ?_
          exact ih_lp2 (m1 + 1) (uI d 3 pp m1 (nI tv)) _ _ ls (by omega) (by omega) hBT hW hS (lv_sub hl [1, 2, 0] rfl)
        refine n_if_le (tgt := 31) hx hb (by omega) dX5_backTo_14 (by decide) (fun c_2 => ?_) (fun c_2 => ?_)
        · refine n_iconst (v := 0) hx hb dX5_backTo_31 (by decide) ?_
          exact j32 0 _ _ ls (by first | rfl | (rw [show mk = 0 by omega]; rfl)) hW hS (lv_sub hl [0, 1, 2] rfl)
        · refine lv_aload_n hx hb dX5_backTo_17 rfl (lv_at hl 0 rfl) ?_
          refine x_gr hx hb hu in_X5 hown hK hW (hA.pier (by omega)) (kX_6 _ _ _ _) rfl 6 (by decide) uF_X5_51 (hA.ps (by omega) (by omega)) dX5_backTo_18 ?_
          refine lv_iload_n hx hb dX5_backTo_21 rfl (lv_at hl 1 rfl) ?_
          refine n_bipush (v := 64) hx hb dX5_backTo_22 (by decide) ?_
          refine n_imul hx hb dX5_backTo_24 ?_
          refine lv_iload_n hx hb dX5_backTo_25 rfl (lv_at hl 2 rfl) ?_
          refine n_iadd hx hb dX5_backTo_26 ?_
          refine x_il hx hb hK hW (hA.st (by omega)) (kX_3 _ _ _ _) (by decide) (by omega) dX5_backTo_27 ?_
          refine n_topi (y := nI (pkd (sHE S pp m1 (40 * mk)))) (by have z := hMk mk (by omega) hmk m1 (by omega); rw [show 64 * mk + m1 = mk * 64 + m1 by omega] at z; exact hBT.rd z (by omega)) ?_
          refine lv_goto (tgt := 32) hx hb dX5_backTo_28 (by decide) ?_
          exact j32 (pkd (sHE S pp m1 (40 * mk))) _ _ ls (by first | rfl | (rw [show mk = 0 by omega]; rfl)) hW hS (lv_sub hl [0, 1, 2] rfl)
  exact lp2 (65) 0 d0 _ _ ls (by omega) (by omega) (BT.start _ pp d0) hW hS (lv_sub hl [1, 2, 0] rfl)

set_option maxHeartbeats 400000 in
set_option maxRecDepth 100000 in
theorem c_X5_putMark (l : Launch) (D : va_G) (cA : Nat → ClassId) (B0 : Nat) (ad : kA) (hal : mAl ad) (S : sS) (d0 : kD) (hX : XB cA ad S d0) (pp k : Nat) (hp : pp < S 7 0) (hk : k < 10) (h8 : d0.1 6 pp 8 = nI k) (hat : At S d0 pp (40 * (k + 1))) (hMk : Mk S d0 pp k) : oM l yX5_putMark wX5_putMark 1 0 0 D cA B0 ad d0 ([.ref (ad.1 6 pp)] : List Value) (oQv D cA B0 ad (fun d1 => Mk S d1 pp (k + 1) ∧ d1.1 6 pp 8 = nI (k + 1) ∧ At S d1 pp (40 * (k + 1)) ∧ F1 pp d0 d1)) := by
  refine o_ofW (cc := cX5_putMark) (maxL := 2) (ret := none) (by decide) rfl (Nat.le_of_ble_eq_true rfl) ?_
  intro p e s m below meth c hx hb hr hml hts hown hlocks hnm hK hW hB hS ls hl
  have hu : ∀ w ∈ UW, w.before _ s = true := fun w h => hts w (uw_c w h)
  have hl : lv_has ls 2 [(0, .ref (ad.1 6 pp))] := hl
  have hA := hX.1
  have hG := hX.2.2
  have hb7 : S 7 0 ≤ 8 := hG.f 7 (mx := 8) (by decide)
  have hb11 : S 11 0 ≤ 20 := hG.f 11 (mx := 20) (by decide)
  have hb18 : S 18 0 ≤ 40 := hG.f 18 (mx := 40) (by decide)
  refine lv_aload_n hx hb dX5_putMark_0 rfl (lv_at hl 0 rfl) ?_
  refine lv_dup hx hb dX5_putMark_1 rfl ?_
  refine x_gi hx hb hu in_X5 hown hK hW (hA.pier (by omega)) (kX_6 _ _ _ _) rfl 8 (by decide) uF_X5_15 dX5_putMark_2 ?_
  refine n_topi (y := nI k) (h8) ?_
  refine n_iconst (v := 1) hx hb dX5_putMark_5 (by decide) ?_
  refine n_iadd hx hb dX5_putMark_6 ?_
  refine x_pi hx hb hu in_X5 tyX5 tyX5_ok nmX5 hown hK hW hS (hA.pier (by omega)) (kI_6 _ _ _ _) rfl 8 (ty := .int) (by decide +kernel) uF_X5_15 ⟨rfl, rfl⟩ dX5_putMark_7 (fun H locs hW hS => ?_)
  have hPM := PM.start S pp k d0
  refine n_iconst (v := 0) hx hb dX5_putMark_10 (by decide) ?_
  refine lv_istore_n (lv' := [(1, .int (nI 0)), (0, .ref (ad.1 6 pp))]) hx hb dX5_putMark_11 rfl hl (by decide) rfl (fun ls hl => ?_)
  have lp12 : ∀ (n : Nat) (m1 : Nat)  (d : kD) (H : Heap) (locs : List Loc) (ls : Array Slot), 64 - m1 < n → (m1 ≤ 64) → (PM S pp k m1 d0 d) → oW D cA B0 ad d H → va_S (oA B0) s.heap H locs → lv_has ls 2 [(0, .ref (ad.1 6 pp)), (1, .int (nI m1))] → W p l e (oR 1 0 0) s m ([.ref (ad.1 6 pp)] : List Value).toArray below meth c H locs 0 0 (MQ below (oQv D cA B0 ad (fun d1 => Mk S d1 pp (k + 1) ∧ d1.1 6 pp 8 = nI (k + 1) ∧ At S d1 pp (40 * (k + 1)) ∧ F1 pp d0 d1)) ([.ref (ad.1 6 pp)] : List Value).toArray s 0 0 (oA B0)) (F0 m 12 ls []) := by
    intro n
    induction n with
    | zero => intro m1  d H locs ls hmu; exact absurd hmu (Nat.not_lt_zero _)
    | succ n ih_lp12 =>
      intro m1  d H locs ls hmu hm1 hPM hW hS hl
      refine lv_iload_n hx hb dX5_putMark_12 rfl (lv_at hl 1 rfl) ?_
      refine n_bipush (v := 64) hx hb dX5_putMark_13 (by decide) ?_
      refine n_icmp_ge (tgt := 44) hx hb (by omega) (by omega) dX5_putMark_15 (by decide) (fun c_1 => ?_) (fun c_1 => ?_)
      · exact o_vret hx hb hr hlocks hW hS (⟨PM.end ((show m1 = 64 by omega) ▸ hPM) hMk, hPM.2.2.1, ⟨hPM.2.1.trans hat.1, fun m hm => by rw [hPM.2.2.2.2 m (by omega)]; exact hat.2 m hm⟩, hPM.1⟩) dX5_putMark_44
      · refine lv_aload_n hx hb dX5_putMark_18 rfl (lv_at hl 0 rfl) ?_
        refine x_gr hx hb hu in_X5 hown hK hW (hA.pier (by omega)) (kX_6 _ _ _ _) rfl 6 (by decide) uF_X5_51 (hA.ps (by omega) (by omega)) dX5_putMark_19 ?_
        refine lv_aload_n hx hb dX5_putMark_22 rfl (lv_at hl 0 rfl) ?_
        refine x_gi hx hb hu in_X5 hown hK hW (hA.pier (by omega)) (kX_6 _ _ _ _) rfl 8 (by decide) uF_X5_15 dX5_putMark_23 ?_
        refine n_topi (y := nI (k + 1)) (hPM.2.2.1) ?_
        refine n_bipush (v := 64) hx hb dX5_putMark_26 (by decide) ?_
        refine n_imul hx hb dX5_putMark_28 ?_
        refine lv_iload_n hx hb dX5_putMark_29 rfl (lv_at hl 1 rfl) ?_
        refine n_iadd hx hb dX5_putMark_30 ?_
        refine lv_aload_n hx hb dX5_putMark_31 rfl (lv_at hl 0 rfl) ?_
        refine x_gr hx hb hu in_X5 hown hK hW (hA.pier (by omega)) (kX_6 _ _ _ _) rfl 6 (by decide) uF_X5_51 (hA.ps (by omega) (by omega)) dX5_putMark_32 ?_
        refine lv_iload_n hx hb dX5_putMark_35 rfl (lv_at hl 1 rfl) ?_
        refine x_il hx hb hK hW (hA.st (by omega)) (kX_3 _ _ _ _) (by decide) (by omega) dX5_putMark_36 ?_
        refine n_topi (y := nI (pkd (sHE S pp m1 (40 * (k + 1))))) (by rw [hPM.2.2.2.2 m1 (by omega)]; exact hat.2 m1 (by omega)) ?_
        refine x_is hx hb hK hW hS (hA.st (by omega)) (kI_3 _ _ _ _) (by decide) (by omega) dX5_putMark_37 (fun H locs hW hS => ?_)
        have hPM := hPM.st (show (k + 1) * 64 + m1 = 64 * (k + 1) + m1 by omega) rfl
        refine n_iinc (q := 1) (lv' := [(1, .int (nI (m1 + 1))), (0, .ref (ad.1 6 pp))]) hx hb dX5_putMark_38 hl (k := 1) rfl (by decide) (by decide) rfl (fun ls hl => ?_)
        refine lv_goto (tgt := 12) hx hb dX5_putMark_41 (by decide) ?_
        exact ih_lp12 (m1 + 1) (uI d 3 pp (((k + 1) * 64) + m1) (nI (pkd (sHE S pp m1 (40 * (k + 1)))))) _ _ ls (by omega) (by omega) hPM hW hS (lv_sub hl [1, 0] rfl)
  exact lp12 (65) 0 (uI d0 6 pp 8 (nI (k + 1))) _ _ ls (by omega) (by omega) hPM hW hS (lv_sub hl [1, 0] rfl)
