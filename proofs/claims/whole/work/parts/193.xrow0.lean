set_option maxHeartbeats 400000 in
set_option maxRecDepth 100000 in
theorem c_X9_row (l : Launch) (D : va_G) (cA : Nat → ClassId) (B0 : Nat) (ad : kA) (hal : mAl ad) (S : sS) (sr : Nat → Int32) (d0 : kD) (hM : InvX cA ad S d0) (hR : RowX S sr d0) (jj : Nat) (hjj : jj < S 32 0) : oM l yX9_row wX9_row 3 0 0 D cA B0 ad d0 ([.ref (ad.1 0 0), .int (nI jj)] : List Value) (oQi D cA B0 ad (fun r d1 => r = sr jj ∧ d0 = d1)) := by
  refine o_ofW (cc := cX9_row) (maxL := 2) (ret := some .int) (by decide) rfl (Nat.le_of_ble_eq_true rfl) ?_
  intro p e s m below meth c hx hb hr hml hts hown hlocks hnm hK hW hB hS ls hl
  have hu : ∀ w ∈ UW, w.before _ s = true := fun w h => hts w (uw_c w h)
  have hl : lv_has ls 2 [(0, .ref (ad.1 0 0)), (1, .int (nI jj))] := hl
  have hX := hM.1
  have hA := hX.1
  have hG := hX.2.2
  have hb7 : S 7 0 ≤ 8 := hG.f 7 (mx := 8) (by decide)
  have hb11 : S 11 0 ≤ 20 := hG.f 11 (mx := 20) (by decide)
  have hb18 : S 18 0 ≤ 40 := hG.f 18 (mx := 40) (by decide)
  have hb32 : S 32 0 ≤ 64 := hG.f 32 (mx := 64) (by decide)
  refine lv_iload_n hx hb dX9_row_0 rfl (lv_at hl 1 rfl) ?_
  refine n_iconst (v := 0) hx hb dX9_row_1 (by decide) ?_
  refine lv_aload_n hx hb dX9_row_2 rfl (lv_at hl 0 rfl) ?_
  refine x_gr hx hb hu in_X9 hown hK hW (hA.o (k := 0) rfl) (kX_0 _ _ _ _) rfl 6 (by decide) uF_X9_37 (hA.f 6 (k := 11) (i := 0) (by decide) (hA.o (k := 11) rfl)) dX9_row_3 ?_
  refine x_gi hx hb hu in_X3 hown hK hW (hA.o (k := 11) rfl) (kX_11 _ _ _ _) rfl 1 (by decide) uF_X9_371 dX9_row_6 ?_
  refine n_topi (y := nI (S 32 0)) (hR.1.1) ?_
  refine n_iconst (v := 1) hx hb dX9_row_9 (by decide) ?_
  refine lv_isub hx hb dX9_row_10 ?_
  refine o_calli (o_runS (As := [.int (nI jj), .int (nI 0), .int ((nI (S 32 0)) - (nI 1))]) (rest := []) ⟨hx, hb, hml, hown, hu⟩ (c_X9_within l D cA B0 ad hal d0 (nI jj) (nI 0) ((nI (S 32 0)) - (nI 1))) (gS_X9_85 (fun _ h => h)) (n0 := 3) rfl (by decide +kernel) rfl ⟨Nat.le_of_ble_eq_true rfl, Nat.le_of_ble_eq_true rfl⟩ hK hW hB hS hl.1 rfl (lv_room (Nat.le_of_ble_eq_true rfl)) ⟨Nat.zero_le _, Nat.zero_le _⟩ dX9_row_11) hS (fun r_2 d_1 q_3 H locs hW hS => ?_)
  obtain ⟨rfl, rfl⟩ := q_3
  refine n_topi (y := bI (ix (nI jj) (S 32 0))) (in_ix (by omega)) ?_
  refine lv_if_ne (tgt := 28) hx hb dX9_row_14 (by decide) (fun c_r => ?_) (fun c_r => ?_)
  · refine lv_aload_n hx hb dX9_row_28 rfl (lv_at hl 0 rfl) ?_
    refine x_gr hx hb hu in_X9 hown hK hW (hA.o (k := 0) rfl) (kX_0 _ _ _ _) rfl 6 (by decide) uF_X9_37 (hA.f 6 (k := 11) (i := 0) (by decide) (hA.o (k := 11) rfl)) dX9_row_29 ?_
    refine x_gr hx hb hu in_X3 hown hK hW (hA.o (k := 11) rfl) (kX_11 _ _ _ _) rfl 0 (by decide) uF_X9_382 hA.tn dX9_row_32 ?_
    refine lv_iload_n hx hb dX9_row_35 rfl (lv_at hl 1 rfl) ?_
    refine x_il hx hb hK hW (hA.o (k := 12) rfl) (kX_12 _ _ _ _) (by decide) (by omega) dX9_row_36 ?_
    refine n_topi (y := sr jj) (hR.1.2 jj hjj) ?_
    exact o_iret hx hb hr hlocks hW hS (⟨rfl, rfl⟩) dX9_row_37
  · exact absurd (bI_z c_r) (by rw [ix_nI hjj (by omega)]; decide)
