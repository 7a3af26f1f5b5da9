set_option maxHeartbeats 1000000 in
set_option maxRecDepth 100000 in
theorem c_X1_init (l : Launch) (D : va_G) (cA : Nat → ClassId) (B0 : Nat) (ad0 : kA) (d0 : kD) (nb : Nat) (ha : ad0.1 9 nb ≠ 0) (x1 : Int32) (x2 : Int32) : oM l yX1_init wX1_init 1 0 0 D cA B0 ad0 d0 ([.ref (ad0.1 9 nb), .int x1, .int x2] : List Value) (oQvA D cA B0 (fun u => u = (ad0, (uI (uI d0 9 nb 0 x1) 9 nb 1 x2)))) := by
  refine o_ofW (cc := cX1_init) (maxL := 3) (ret := none) (by decide) rfl (Nat.le_of_ble_eq_true rfl) ?_
  intro p e s m below meth c hx hb hr hml hts hown hlocks hnm hK hW hB hS ls hl
  have hu : ∀ w ∈ UW, w.before _ s = true := fun w h => hts w (uw_c w h)
  have hl : lv_has ls 3 [(0, .ref (ad0.1 9 nb)), (1, .int x1), (2, .int x2)] := hl
  refine lv_aload_n hx hb dX1_init_0 rfl (lv_at hl 0 rfl) ?_
  refine W.objInit hx hb hown (hu _ uM_X1_1) (hu _ uN_java_lang_Object__init___V) (hu _ uC_java_lang_Object__init___V) rfl (by rw [hml]; exact hl.1) rfl dX1_init_1 (Nat.le_of_ble_eq_true rfl) (Nat.le_of_ble_eq_true rfl) ?_
  refine W.eq (g2 := F0 m 4 ls []) rfl ?_
  refine lv_aload_n hx hb dX1_init_4 rfl (lv_at hl 0 rfl) ?_
  refine lv_iload_n hx hb dX1_init_5 rfl (lv_at hl 1 rfl) ?_
  refine x_putF hx hb hu in_X1 tyX1 tyX1_ok nmX1 hown hK hW hS (ad' := ad0) (d' := (uI d0 9 nb 0 x1)) rfl (k := 9) (i := nb) ha rfl 0 (kX_9 _ _ _ _) (by rw [kX_9]; show some (Sum.inr (2, xO _ (up3 _ 9 nb 0 _ 9 nb) _ _)) = _; rw [up3_same, xO_setI (by decide)] <;> rfl) (fun k1 i1 h1 => uI_ne k1 i1 h1) (by decide) uF_X1_7 (Or.inr ⟨by decide +kernel, hnm, by decide +kernel⟩) (ty := .int) (by decide +kernel) rfl rfl (by rw [xO_len]; decide) dX1_init_6 (fun H locs hW hS => ?_)
  refine lv_aload_n hx hb dX1_init_9 rfl (lv_at hl 0 rfl) ?_
  refine lv_iload_n hx hb dX1_init_10 rfl (lv_at hl 2 rfl) ?_
  refine x_putF hx hb hu in_X1 tyX1 tyX1_ok nmX1 hown hK hW hS (ad' := ad0) (d' := (uI (uI d0 9 nb 0 x1) 9 nb 1 x2)) rfl (k := 9) (i := nb) ha rfl 1 (kX_9 _ _ _ _) (by rw [kX_9]; show some (Sum.inr (2, xO _ (up3 _ 9 nb 1 _ 9 nb) _ _)) = _; rw [up3_same, xO_setI (by decide)] <;> rfl) (fun k1 i1 h1 => uI_ne k1 i1 h1) (by decide) uF_X1_13 (Or.inr ⟨by decide +kernel, hnm, by decide +kernel⟩) (ty := .int) (by decide +kernel) rfl rfl (by rw [xO_len]; decide) dX1_init_11 (fun H locs hW hS => ?_)
  exact W.vret hx hb hr (fun t ht _ => ⟨⟨(ad0, (uI (uI d0 9 nb 0 x1) 9 nb 1 x2)), rfl, rfl, by show oW D cA B0 ad0 (uI (uI d0 9 nb 0 x1) 9 nb 1 x2) t.heap; rw [ht]; exact hW⟩, hS.F ht⟩) hS.2.2 dX1_init_14
set_option maxHeartbeats 1000000 in
set_option maxRecDepth 100000 in
theorem c_X4_init (l : Launch) (D : va_G) (cA : Nat → ClassId) (B0 : Nat) (ad0 : kA) (d0 : kD) (no : Nat) (ha : ad0.1 10 no ≠ 0) (x1 : Int32) (x2 : Int32) (x3 : Int32) : oM l yX4_init wX4_init 1 0 0 D cA B0 ad0 d0 ([.ref (ad0.1 10 no), .int x1, .int x2, .int x3] : List Value) (oQvA D cA B0 (fun u => u = (ad0, (uI (uI (uI d0 10 no 0 x1) 10 no 1 x2) 10 no 2 x3)))) := by
  refine o_ofW (cc := cX4_init) (maxL := 4) (ret := none) (by decide) rfl (Nat.le_of_ble_eq_true rfl) ?_
  intro p e s m below meth c hx hb hr hml hts hown hlocks hnm hK hW hB hS ls hl
  have hu : ∀ w ∈ UW, w.before _ s = true := fun w h => hts w (uw_c w h)
  have hl : lv_has ls 4 [(0, .ref (ad0.1 10 no)), (1, .int x1), (2, .int x2), (3, .int x3)] := hl
  refine lv_aload_n hx hb dX4_init_0 rfl (lv_at hl 0 rfl) ?_
  refine W.objInit hx hb hown (hu _ uM_X4_1) (hu _ uN_java_lang_Object__init___V) (hu _ uC_java_lang_Object__init___V) rfl (by rw [hml]; exact hl.1) rfl dX4_init_1 (Nat.le_of_ble_eq_true rfl) (Nat.le_of_ble_eq_true rfl) ?_
  refine W.eq (g2 := F0 m 4 ls []) rfl ?_
  refine lv_aload_n hx hb dX4_init_4 rfl (lv_at hl 0 rfl) ?_
  refine lv_iload_n hx hb dX4_init_5 rfl (lv_at hl 1 rfl) ?_
  refine x_putF hx hb hu in_X4 tyX4 tyX4_ok nmX4 hown hK hW hS (ad' := ad0) (d' := (uI d0 10 no 0 x1)) rfl (k := 10) (i := no) ha rfl 0 (kX_10 _ _ _ _) (by rw [kX_10]; show some (Sum.inr (5, xO _ (up3 _ 10 no 0 _ 10 no) _ _)) = _; rw [up3_same, xO_setI (by decide)] <;> rfl) (fun k1 i1 h1 => uI_ne k1 i1 h1) (by decide) uF_X4_7 (Or.inr ⟨by decide +kernel, hnm, by decide +kernel⟩) (ty := .int) (by decide +kernel) rfl rfl (by rw [xO_len]; decide) dX4_init_6 (fun H locs hW hS => ?_)
  refine lv_aload_n hx hb dX4_init_9 rfl (lv_at hl 0 rfl) ?_
  refine lv_iload_n hx hb dX4_init_10 rfl (lv_at hl 2 rfl) ?_
  refine x_putF hx hb hu in_X4 tyX4 tyX4_ok nmX4 hown hK hW hS (ad' := ad0) (d' := (uI (uI d0 10 no 0 x1) 10 no 1 x2)) rfl (k := 10) (i := no) ha rfl 1 (kX_10 _ _ _ _) (by rw [kX_10]; show some (Sum.inr (5, xO _ (up3 _ 10 no 1 _ 10 no) _ _)) = _; rw [up3_same, xO_setI (by decide)] <;> rfl) (fun k1 i1 h1 => uI_ne k1 i1 h1) (by decide) uF_X4_13 (Or.inr ⟨by decide +kernel, hnm, by decide +kernel⟩) (ty := .int) (by decide +kernel) rfl rfl (by rw [xO_len]; decide) dX4_init_11 (fun H locs hW hS => ?_)
  refine lv_aload_n hx hb dX4_init_14 rfl (lv_at hl 0 rfl) ?_
  refine lv_iload_n hx hb dX4_init_15 rfl (lv_at hl 3 rfl) ?_
  refine x_putF hx hb hu in_X4 tyX4 tyX4_ok nmX4 hown hK hW hS (ad' := ad0) (d' := (uI (uI (uI d0 10 no 0 x1) 10 no 1 x2) 10 no 2 x3)) rfl (k := 10) (i := no) ha rfl 2 (kX_10 _ _ _ _) (by rw [kX_10]; show some (Sum.inr (5, xO _ (up3 _ 10 no 2 _ 10 no) _ _)) = _; rw [up3_same, xO_setI (by decide)] <;> rfl) (fun k1 i1 h1 => uI_ne k1 i1 h1) (by decide) uF_X4_16 (Or.inr ⟨by decide +kernel, hnm, by decide +kernel⟩) (ty := .int) (by decide +kernel) rfl rfl (by rw [xO_len]; decide) dX4_init_16 (fun H locs hW hS => ?_)
  exact W.vret hx hb hr (fun t ht _ => ⟨⟨(ad0, (uI (uI (uI d0 10 no 0 x1) 10 no 1 x2) 10 no 2 x3)), rfl, rfl, by show oW D cA B0 ad0 (uI (uI (uI d0 10 no 0 x1) 10 no 1 x2) 10 no 2 x3) t.heap; rw [ht]; exact hW⟩, hS.F ht⟩) hS.2.2 dX4_init_19
set_option maxHeartbeats 1000000 in
set_option maxRecDepth 100000 in
theorem c_X5_init (l : Launch) (D : va_G) (cA : Nat → ClassId) (B0 : Nat) (ad0 : kA) (d0 : kD) (np : Nat) (ha : ad0.1 6 np ≠ 0) (x1 : Int32) (x2 : Int32) (x3 : Int32) (x4 : Int32) (x5 : Int32) (x6 : Nat) (h6 : x6 ≠ 0) (x7 : Nat) (h7 : x7 ≠ 0) : oM l yX5_init wX5_init 1 0 0 D cA B0 ad0 d0 ([.ref (ad0.1 6 np), .int x1, .int x2, .int x3, .int x4, .int x5, .ref x6, .ref x7] : List Value) (oQvA D cA B0 (fun u => u = ((ad2 (ad2 (ad2 ad0 6 np 9 0) 6 np 5 x6) 6 np 6 x7), (uI (uI (uI (uI (uI (uJ (uJ (uI (uI (uI d0 6 np 7 (nI 0)) 6 np 8 (nI 0)) 6 np 10 (nI 0)) 6 np 11 0) 6 np 12 0) 6 np 0 x1) 6 np 1 x2) 6 np 2 x3) 6 np 3 x4) 6 np 4 x5)))) := by
  refine o_ofW (cc := cX5_init) (maxL := 8) (ret := none) (by decide) rfl (Nat.le_of_ble_eq_true rfl) ?_
  intro p e s m below meth c hx hb hr hml hts hown hlocks hnm hK hW hB hS ls hl
  have hu : ∀ w ∈ UW, w.before _ s = true := fun w h => hts w (uw_c w h)
  have hl : lv_has ls 8 [(0, .ref (ad0.1 6 np)), (1, .int x1), (2, .int x2), (3, .int x3), (4, .int x4), (5, .int x5), (6, .ref x6), (7, .ref x7)] := hl
  refine lv_aload_n hx hb dX5_init_0 rfl (lv_at hl 0 rfl) ?_
  refine W.objInit hx hb hown (hu _ uM_X5_3) (hu _ uN_java_lang_Object__init___V) (hu _ uC_java_lang_Object__init___V) rfl (by rw [hml]; exact hl.1) rfl dX5_init_1 (Nat.le_of_ble_eq_true rfl) (Nat.le_of_ble_eq_true rfl) ?_
  refine W.eq (g2 := F0 m 4 ls []) rfl ?_
  refine lv_aload_n hx hb dX5_init_4 rfl (lv_at hl 0 rfl) ?_
  refine n_iconst (v := 0) hx hb dX5_init_5 (by decide) ?_
  refine x_putF hx hb hu in_X5 tyX5 tyX5_ok nmX5 hown hK hW hS (ad' := ad0) (d' := (uI d0 6 np 7 (nI 0))) rfl (k := 6) (i := np) ha rfl 7 (kX_6 _ _ _ _) (by rw [kX_6]; show some (Sum.inr (6, xO _ (up3 _ 6 np 7 _ 6 np) _ _)) = _; rw [up3_same, xO_setI (by decide)] <;> rfl) (fun k1 i1 h1 => uI_ne k1 i1 h1) (by decide) uF_X5_9 (Or.inl (by decide +kernel)) (ty := .int) (by decide +kernel) rfl rfl (by rw [xO_len]; decide) dX5_init_6 (fun H locs hW hS => ?_)
  refine lv_aload_n hx hb dX5_init_9 rfl (lv_at hl 0 rfl) ?_
  refine n_iconst (v := 0) hx hb dX5_init_10 (by decide) ?_
  refine x_putF hx hb hu in_X5 tyX5 tyX5_ok nmX5 hown hK hW hS (ad' := ad0) (d' := (uI (uI d0 6 np 7 (nI 0)) 6 np 8 (nI 0))) rfl (k := 6) (i := np) ha rfl 8 (kX_6 _ _ _ _) (by rw [kX_6]; show some (Sum.inr (6, xO _ (up3 _ 6 np 8 _ 6 np) _ _)) = _; rw [up3_same, xO_setI (by decide)] <;> rfl) (fun k1 i1 h1 => uI_ne k1 i1 h1) (by decide) uF_X5_15 (Or.inl (by decide +kernel)) (ty := .int) (by decide +kernel) rfl rfl (by rw [xO_len]; decide) dX5_init_11 (fun H locs hW hS => ?_)
  refine lv_aload_n hx hb dX5_init_14 rfl (lv_at hl 0 rfl) ?_
  refine lv_null hx hb dX5_init_15 ?_
  refine x_putF hx hb hu in_X5 tyX5 tyX5_ok nmX5 hown hK hW hS (ad' := (ad2 ad0 6 np 9 0)) (d' := (uI (uI d0 6 np 7 (nI 0)) 6 np 8 (nI 0))) rfl (k := 6) (i := np) ha rfl 9 (kX_6 _ _ _ _) (by rw [kX_6]; show some (Sum.inr (6, xO (up3 _ 6 np 9 _ 6 np) _ _ _)) = _; rw [up3_same, xO_setR (by decide), rf_0] <;> rfl) (fun k1 i1 h1 => kC_adX (by decide) k1 i1 h1) (by decide) uF_X5_18 (Or.inl (by decide +kernel)) (ty := .object "RiverFeet$Tree") (by decide +kernel) rfl rfl (by rw [xO_len]; decide) dX5_init_16 (fun H locs hW hS => ?_)
  refine lv_aload_n hx hb dX5_init_19 rfl (lv_at hl 0 rfl) ?_
  refine n_iconst (v := 0) hx hb dX5_init_20 (by decide) ?_
  refine x_putF hx hb hu in_X5 tyX5 tyX5_ok nmX5 hown hK hW hS (ad' := (ad2 ad0 6 np 9 0)) (d' := (uI (uI (uI d0 6 np 7 (nI 0)) 6 np 8 (nI 0)) 6 np 10 (nI 0))) rfl (k := 6) (i := np) ha rfl 10 (kX_6 _ _ _ _) (by rw [kX_6]; show some (Sum.inr (6, xO _ (up3 _ 6 np 10 _ 6 np) _ _)) = _; rw [up3_same, xO_setI (by decide)] <;> rfl) (fun k1 i1 h1 => uI_ne k1 i1 h1) (by decide) uF_X5_22 (Or.inl (by decide +kernel)) (ty := .int) (by decide +kernel) rfl rfl (by rw [xO_len]; decide) dX5_init_21 (fun H locs hW hS => ?_)
  refine lv_aload_n hx hb dX5_init_24 rfl (lv_at hl 0 rfl) ?_
  refine lv_lconst (v := 0) hx hb dX5_init_25 (by decide) ?_
  refine x_putF hx hb hu in_X5 tyX5 tyX5_ok nmX5 hown hK hW hS (ad' := (ad2 ad0 6 np 9 0)) (d' := (uJ (uI (uI (uI d0 6 np 7 (nI 0)) 6 np 8 (nI 0)) 6 np 10 (nI 0)) 6 np 11 0)) rfl (k := 6) (i := np) ha rfl 11 (kX_6 _ _ _ _) (by rw [kX_6]; show some (Sum.inr (6, xO _ _ (up3 _ 6 np 11 _ 6 np) _)) = _; rw [up3_same, xO_setJ (by decide)] <;> rfl) (fun k1 i1 h1 => uJ_ne k1 i1 h1) (by decide) uF_X5_25 (Or.inl (by decide +kernel)) (ty := .long) (by decide +kernel) rfl rfl (by rw [xO_len]; decide) dX5_init_26 (fun H locs hW hS => ?_)
  refine lv_aload_n hx hb dX5_init_29 rfl (lv_at hl 0 rfl) ?_
  refine lv_lconst (v := 0) hx hb dX5_init_30 (by decide) ?_
  refine x_putF hx hb hu in_X5 tyX5 tyX5_ok nmX5 hown hK hW hS (ad' := (ad2 ad0 6 np 9 0)) (d' := (uJ (uJ (uI (uI (uI d0 6 np 7 (nI 0)) 6 np 8 (nI 0)) 6 np 10 (nI 0)) 6 np 11 0) 6 np 12 0)) rfl (k := 6) (i := np) ha rfl 12 (kX_6 _ _ _ _) (by rw [kX_6]; show some (Sum.inr (6, xO _ _ (up3 _ 6 np 12 _ 6 np) _)) = _; rw [up3_same, xO_setJ (by decide)] <;> rfl) (fun k1 i1 h1 => uJ_ne k1 i1 h1) (by decide) uF_X5_29 (Or.inl (by decide +kernel)) (ty := .long) (by decide +kernel) rfl rfl (by rw [xO_len]; decide) dX5_init_31 (fun H locs hW hS => ?_)
  refine lv_aload_n hx hb dX5_init_34 rfl (lv_at hl 0 rfl) ?_
  refine lv_iload_n hx hb dX5_init_35 rfl (lv_at hl 1 rfl) ?_
  refine x_putF hx hb hu in_X5 tyX5 tyX5_ok nmX5 hown hK hW hS (ad' := (ad2 ad0 6 np 9 0)) (d' := (uI (uJ (uJ (uI (uI (uI d0 6 np 7 (nI 0)) 6 np 8 (nI 0)) 6 np 10 (nI 0)) 6 np 11 0) 6 np 12 0) 6 np 0 x1)) rfl (k := 6) (i := np) ha rfl 0 (kX_6 _ _ _ _) (by rw [kX_6]; show some (Sum.inr (6, xO _ (up3 _ 6 np 0 _ 6 np) _ _)) = _; rw [up3_same, xO_setI (by decide)] <;> rfl) (fun k1 i1 h1 => uI_ne k1 i1 h1) (by decide) uF_X5_32 (Or.inr ⟨by decide +kernel, hnm, by decide +kernel⟩) (ty := .int) (by decide +kernel) rfl rfl (by rw [xO_len]; decide) dX5_init_36 (fun H locs hW hS => ?_)
  refine lv_aload_n hx hb dX5_init_39 rfl (lv_at hl 0 rfl) ?_
  refine lv_iload_n hx hb dX5_init_40 rfl (lv_at hl 2 rfl) ?_
  refine x_putF hx hb hu in_X5 tyX5 tyX5_ok nmX5 hown hK hW hS (ad' := (ad2 ad0 6 np 9 0)) (d' := (uI (uI (uJ (uJ (uI (uI (uI d0 6 np 7 (nI 0)) 6 np 8 (nI 0)) 6 np 10 (nI 0)) 6 np 11 0) 6 np 12 0) 6 np 0 x1) 6 np 1 x2)) rfl (k := 6) (i := np) ha rfl 1 (kX_6 _ _ _ _) (by rw [kX_6]; show some (Sum.inr (6, xO _ (up3 _ 6 np 1 _ 6 np) _ _)) = _; rw [up3_same, xO_setI (by decide)] <;> rfl) (fun k1 i1 h1 => uI_ne k1 i1 h1) (by decide) uF_X5_35 (Or.inr ⟨by decide +kernel, hnm, by decide +kernel⟩) (ty := .int) (by decide +kernel) rfl rfl (by rw [xO_len]; decide) dX5_init_41 (fun H locs hW hS => ?_)
  refine lv_aload_n hx hb dX5_init_44 rfl (lv_at hl 0 rfl) ?_
  refine lv_iload_n hx hb dX5_init_45 rfl (lv_at hl 3 rfl) ?_
  refine x_putF hx hb hu in_X5 tyX5 tyX5_ok nmX5 hown hK hW hS (ad' := (ad2 ad0 6 np 9 0)) (d' := (uI (uI (uI (uJ (uJ (uI (uI (uI d0 6 np 7 (nI 0)) 6 np 8 (nI 0)) 6 np 10 (nI 0)) 6 np 11 0) 6 np 12 0) 6 np 0 x1) 6 np 1 x2) 6 np 2 x3)) rfl (k := 6) (i := np) ha rfl 2 (kX_6 _ _ _ _) (by rw [kX_6]; show some (Sum.inr (6, xO _ (up3 _ 6 np 2 _ 6 np) _ _)) = _; rw [up3_same, xO_setI (by decide)] <;> rfl) (fun k1 i1 h1 => uI_ne k1 i1 h1) (by decide) uF_X5_38 (Or.inr ⟨by decide +kernel, hnm, by decide +kernel⟩) (ty := .int) (by decide +kernel) rfl rfl (by rw [xO_len]; decide) dX5_init_46 (fun H locs hW hS => ?_)
  refine lv_aload_n hx hb dX5_init_49 rfl (lv_at hl 0 rfl) ?_
  refine lv_iload hx hb dX5_init_50 (lv_at hl 4 rfl) ?_
  refine x_putF hx hb hu in_X5 tyX5 tyX5_ok nmX5 hown hK hW hS (ad' := (ad2 ad0 6 np 9 0)) (d' := (uI (uI (uI (uI (uJ (uJ (uI (uI (uI d0 6 np 7 (nI 0)) 6 np 8 (nI 0)) 6 np 10 (nI 0)) 6 np 11 0) 6 np 12 0) 6 np 0 x1) 6 np 1 x2) 6 np 2 x3) 6 np 3 x4)) rfl (k := 6) (i := np) ha rfl 3 (kX_6 _ _ _ _) (by rw [kX_6]; show some (Sum.inr (6, xO _ (up3 _ 6 np 3 _ 6 np) _ _)) = _; rw [up3_same, xO_setI (by decide)] <;> rfl) (fun k1 i1 h1 => uI_ne k1 i1 h1) (by decide) uF_X5_41 (Or.inr ⟨by decide +kernel, hnm, by decide +kernel⟩) (ty := .int) (by decide +kernel) rfl rfl (by rw [xO_len]; decide) dX5_init_52 (fun H locs hW hS => ?_)
  refine lv_aload_n hx hb dX5_init_55 rfl (lv_at hl 0 rfl) ?_
  refine lv_iload hx hb dX5_init_56 (lv_at hl 5 rfl) ?_
  refine x_putF hx hb hu in_X5 tyX5 tyX5_ok nmX5 hown hK hW hS (ad' := (ad2 ad0 6 np 9 0)) (d' := (uI (uI (uI (uI (uI (uJ (uJ (uI (uI (uI d0 6 np 7 (nI 0)) 6 np 8 (nI 0)) 6 np 10 (nI 0)) 6 np 11 0) 6 np 12 0) 6 np 0 x1) 6 np 1 x2) 6 np 2 x3) 6 np 3 x4) 6 np 4 x5)) rfl (k := 6) (i := np) ha rfl 4 (kX_6 _ _ _ _) (by rw [kX_6]; show some (Sum.inr (6, xO _ (up3 _ 6 np 4 _ 6 np) _ _)) = _; rw [up3_same, xO_setI (by decide)] <;> rfl) (fun k1 i1 h1 => uI_ne k1 i1 h1) (by decide) uF_X5_44 (Or.inr ⟨by decide +kernel, hnm, by decide +kernel⟩) (ty := .int) (by decide +kernel) rfl rfl (by rw [xO_len]; decide) dX5_init_58 (fun H locs hW hS => ?_)
  refine lv_aload_n hx hb dX5_init_61 rfl (lv_at hl 0 rfl) ?_
  refine lv_aload hx hb dX5_init_62 (lv_at hl 6 rfl) ?_
  refine x_putF hx hb hu in_X5 tyX5 tyX5_ok nmX5 hown hK hW hS (ad' := (ad2 (ad2 ad0 6 np 9 0) 6 np 5 x6)) (d' := (uI (uI (uI (uI (uI (uJ (uJ (uI (uI (uI d0 6 np 7 (nI 0)) 6 np 8 (nI 0)) 6 np 10 (nI 0)) 6 np 11 0) 6 np 12 0) 6 np 0 x1) 6 np 1 x2) 6 np 2 x3) 6 np 3 x4) 6 np 4 x5)) rfl (k := 6) (i := np) ha rfl 5 (kX_6 _ _ _ _) (by rw [kX_6]; show some (Sum.inr (6, xO (up3 _ 6 np 5 _ 6 np) _ _ _)) = _; rw [up3_same, xO_setR (by decide), rf_ne h6] <;> rfl) (fun k1 i1 h1 => kC_adX (by decide) k1 i1 h1) (by decide) uF_X5_47 (Or.inr ⟨by decide +kernel, hnm, by decide +kernel⟩) (ty := .array .int) (by decide +kernel) rfl rfl (by rw [xO_len]; decide) dX5_init_64 (fun H locs hW hS => ?_)
  refine lv_aload_n hx hb dX5_init_67 rfl (lv_at hl 0 rfl) ?_
  refine lv_aload hx hb dX5_init_68 (lv_at hl 7 rfl) ?_
  refine x_putF hx hb hu in_X5 tyX5 tyX5_ok nmX5 hown hK hW hS (ad' := (ad2 (ad2 (ad2 ad0 6 np 9 0) 6 np 5 x6) 6 np 6 x7)) (d' := (uI (uI (uI (uI (uI (uJ (uJ (uI (uI (uI d0 6 np 7 (nI 0)) 6 np 8 (nI 0)) 6 np 10 (nI 0)) 6 np 11 0) 6 np 12 0) 6 np 0 x1) 6 np 1 x2) 6 np 2 x3) 6 np 3 x4) 6 np 4 x5)) rfl (k := 6) (i := np) ha rfl 6 (kX_6 _ _ _ _) (by rw [kX_6]; show some (Sum.inr (6, xO (up3 _ 6 np 6 _ 6 np) _ _ _)) = _; rw [up3_same, xO_setR (by decide), rf_ne h7] <;> rfl) (fun k1 i1 h1 => kC_adX (by decide) k1 i1 h1) (by decide) uF_X5_51 (Or.inr ⟨by decide +kernel, hnm, by decide +kernel⟩) (ty := .array .int) (by decide +kernel) rfl rfl (by rw [xO_len]; decide) dX5_init_70 (fun H locs hW hS => ?_)
  exact W.vret hx hb hr (fun t ht _ => ⟨⟨((ad2 (ad2 (ad2 ad0 6 np 9 0) 6 np 5 x6) 6 np 6 x7), (uI (uI (uI (uI (uI (uJ (uJ (uI (uI (uI d0 6 np 7 (nI 0)) 6 np 8 (nI 0)) 6 np 10 (nI 0)) 6 np 11 0) 6 np 12 0) 6 np 0 x1) 6 np 1 x2) 6 np 2 x3) 6 np 3 x4) 6 np 4 x5)), rfl, rfl, by show oW D cA B0 (ad2 (ad2 (ad2 ad0 6 np 9 0) 6 np 5 x6) 6 np 6 x7) (uI (uI (uI (uI (uI (uJ (uJ (uI (uI (uI d0 6 np 7 (nI 0)) 6 np 8 (nI 0)) 6 np 10 (nI 0)) 6 np 11 0) 6 np 12 0) 6 np 0 x1) 6 np 1 x2) 6 np 2 x3) 6 np 3 x4) 6 np 4 x5) t.heap; rw [ht]; exact hW⟩, hS.F ht⟩) hS.2.2 dX5_init_73
set_option maxHeartbeats 1000000 in
set_option maxRecDepth 100000 in
theorem c_X2_init (l : Launch) (D : va_G) (cA : Nat → ClassId) (B0 : Nat) (ad0 : kA) (d0 : kD) (nl : Nat) (ha : ad0.1 8 nl ≠ 0) (x1 : Nat) (h1 : x1 ≠ 0) (x2 : Int32) (x3 : Int32) (x4 : Int32) (x5 : Int32) : oM l yX2_init wX2_init 1 0 0 D cA B0 ad0 d0 ([.ref (ad0.1 8 nl), .ref x1, .int x2, .int x3, .int x4, .int x5] : List Value) (oQvA D cA B0 (fun u => u = ((ad2 ad0 8 nl 0 x1), (uI (uI (uI (uI (uJ (uI (uI d0 8 nl 5 (nI 400)) 8 nl 6 (nI 0)) 8 nl 7 0) 8 nl 1 x2) 8 nl 2 x3) 8 nl 3 x4) 8 nl 4 x5)))) := by
  refine o_ofW (cc := cX2_init) (maxL := 6) (ret := none) (by decide) rfl (Nat.le_of_ble_eq_true rfl) ?_
  intro p e s m below meth c hx hb hr hml hts hown hlocks hnm hK hW hB hS ls hl
  have hu : ∀ w ∈ UW, w.before _ s = true := fun w h => hts w (uw_c w h)
  have hl : lv_has ls 6 [(0, .ref (ad0.1 8 nl)), (1, .ref x1), (2, .int x2), (3, .int x3), (4, .int x4), (5, .int x5)] := hl
  refine lv_aload_n hx hb dX2_init_0 rfl (lv_at hl 0 rfl) ?_
  refine W.objInit hx hb hown (hu _ uM_X2_3) (hu _ uN_java_lang_Object__init___V) (hu _ uC_java_lang_Object__init___V) rfl (by rw [hml]; exact hl.1) rfl dX2_init_1 (Nat.le_of_ble_eq_true rfl) (Nat.le_of_ble_eq_true rfl) ?_
  refine W.eq (g2 := F0 m 4 ls []) rfl ?_
  refine lv_aload_n hx hb dX2_init_4 rfl (lv_at hl 0 rfl) ?_
  refine n_sipush (v := 400) hx hb dX2_init_5 (by decide) ?_
  refine x_putF hx hb hu in_X2 tyX2 tyX2_ok nmX2 hown hK hW hS (ad' := ad0) (d' := (uI d0 8 nl 5 (nI 400))) rfl (k := 8) (i := nl) ha rfl 5 (kX_8 _ _ _ _) (by rw [kX_8]; show some (Sum.inr (3, xO _ (up3 _ 8 nl 5 _ 8 nl) _ _)) = _; rw [up3_same, xO_setI (by decide)] <;> rfl) (fun k1 i1 h1 => uI_ne k1 i1 h1) (by decide) uF_X2_9 (Or.inl (by decide +kernel)) (ty := .int) (by decide +kernel) rfl rfl (by rw [xO_len]; decide) dX2_init_8 (fun H locs hW hS => ?_)
  refine lv_aload_n hx hb dX2_init_11 rfl (lv_at hl 0 rfl) ?_
  refine n_iconst (v := 0) hx hb dX2_init_12 (by decide) ?_
  refine x_putF hx hb hu in_X2 tyX2 tyX2_ok nmX2 hown hK hW hS (ad' := ad0) (d' := (uI (uI d0 8 nl 5 (nI 400)) 8 nl 6 (nI 0))) rfl (k := 8) (i := nl) ha rfl 6 (kX_8 _ _ _ _) (by rw [kX_8]; show some (Sum.inr (3, xO _ (up3 _ 8 nl 6 _ 8 nl) _ _)) = _; rw [up3_same, xO_setI (by decide)] <;> rfl) (fun k1 i1 h1 => uI_ne k1 i1 h1) (by decide) uF_X2_15 (Or.inl (by decide +kernel)) (ty := .boolean) (by decide +kernel) rfl rfl (by rw [xO_len]; decide) dX2_init_13 (fun H locs hW hS => ?_)
  refine lv_aload_n hx hb dX2_init_16 rfl (lv_at hl 0 rfl) ?_
  refine lv_lconst (v := 0) hx hb dX2_init_17 (by decide) ?_
  refine x_putF hx hb hu in_X2 tyX2 tyX2_ok nmX2 hown hK hW hS (ad' := ad0) (d' := (uJ (uI (uI d0 8 nl 5 (nI 400)) 8 nl 6 (nI 0)) 8 nl 7 0)) rfl (k := 8) (i := nl) ha rfl 7 (kX_8 _ _ _ _) (by rw [kX_8]; show some (Sum.inr (3, xO _ _ (up3 _ 8 nl 7 _ 8 nl) _)) = _; rw [up3_same, xO_setJ (by decide)] <;> rfl) (fun k1 i1 h1 => uJ_ne k1 i1 h1) (by decide) uF_X2_19 (Or.inl (by decide +kernel)) (ty := .long) (by decide +kernel) rfl rfl (by rw [xO_len]; decide) dX2_init_18 (fun H locs hW hS => ?_)
  refine lv_aload_n hx hb dX2_init_21 rfl (lv_at hl 0 rfl) ?_
  refine lv_aload_n hx hb dX2_init_22 rfl (lv_at hl 1 rfl) ?_
  refine x_putF hx hb hu in_X2 tyX2 tyX2_ok nmX2 hown hK hW hS (ad' := (ad2 ad0 8 nl 0 x1)) (d' := (uJ (uI (uI d0 8 nl 5 (nI 400)) 8 nl 6 (nI 0)) 8 nl 7 0)) rfl (k := 8) (i := nl) ha rfl 0 (kX_8 _ _ _ _) (by rw [kX_8]; show some (Sum.inr (3, xO (up3 _ 8 nl 0 _ 8 nl) _ _ _)) = _; rw [up3_same, xO_setR (by decide), rf_ne h1] <;> rfl) (fun k1 i1 h1 => kC_adX (by decide) k1 i1 h1) (by decide) uF_X2_23 (Or.inr ⟨by decide +kernel, hnm, by decide +kernel⟩) (ty := .object "RiverFeet$Pier") (by decide +kernel) rfl rfl (by rw [xO_len]; decide) dX2_init_23 (fun H locs hW hS => ?_)
  refine lv_aload_n hx hb dX2_init_26 rfl (lv_at hl 0 rfl) ?_
  refine lv_iload_n hx hb dX2_init_27 rfl (lv_at hl 2 rfl) ?_
  refine x_putF hx hb hu in_X2 tyX2 tyX2_ok nmX2 hown hK hW hS (ad' := (ad2 ad0 8 nl 0 x1)) (d' := (uI (uJ (uI (uI d0 8 nl 5 (nI 400)) 8 nl 6 (nI 0)) 8 nl 7 0) 8 nl 1 x2)) rfl (k := 8) (i := nl) ha rfl 1 (kX_8 _ _ _ _) (by rw [kX_8]; show some (Sum.inr (3, xO _ (up3 _ 8 nl 1 _ 8 nl) _ _)) = _; rw [up3_same, xO_setI (by decide)] <;> rfl) (fun k1 i1 h1 => uI_ne k1 i1 h1) (by decide) uF_X2_27 (Or.inr ⟨by decide +kernel, hnm, by decide +kernel⟩) (ty := .int) (by decide +kernel) rfl rfl (by rw [xO_len]; decide) dX2_init_28 (fun H locs hW hS => ?_)
  refine lv_aload_n hx hb dX2_init_31 rfl (lv_at hl 0 rfl) ?_
  refine lv_iload_n hx hb dX2_init_32 rfl (lv_at hl 3 rfl) ?_
  refine x_putF hx hb hu in_X2 tyX2 tyX2_ok nmX2 hown hK hW hS (ad' := (ad2 ad0 8 nl 0 x1)) (d' := (uI (uI (uJ (uI (uI d0 8 nl 5 (nI 400)) 8 nl 6 (nI 0)) 8 nl 7 0) 8 nl 1 x2) 8 nl 2 x3)) rfl (k := 8) (i := nl) ha rfl 2 (kX_8 _ _ _ _) (by rw [kX_8]; show some (Sum.inr (3, xO _ (up3 _ 8 nl 2 _ 8 nl) _ _)) = _; rw [up3_same, xO_setI (by decide)] <;> rfl) (fun k1 i1 h1 => uI_ne k1 i1 h1) (by decide) uF_X2_30 (Or.inr ⟨by decide +kernel, hnm, by decide +kernel⟩) (ty := .int) (by decide +kernel) rfl rfl (by rw [xO_len]; decide) dX2_init_33 (fun H locs hW hS => ?_)
  refine lv_aload_n hx hb dX2_init_36 rfl (lv_at hl 0 rfl) ?_
  refine lv_iload hx hb dX2_init_37 (lv_at hl 4 rfl) ?_
  refine x_putF hx hb hu in_X2 tyX2 tyX2_ok nmX2 hown hK hW hS (ad' := (ad2 ad0 8 nl 0 x1)) (d' := (uI (uI (uI (uJ (uI (uI d0 8 nl 5 (nI 400)) 8 nl 6 (nI 0)) 8 nl 7 0) 8 nl 1 x2) 8 nl 2 x3) 8 nl 3 x4)) rfl (k := 8) (i := nl) ha rfl 3 (kX_8 _ _ _ _) (by rw [kX_8]; show some (Sum.inr (3, xO _ (up3 _ 8 nl 3 _ 8 nl) _ _)) = _; rw [up3_same, xO_setI (by decide)] <;> rfl) (fun k1 i1 h1 => uI_ne k1 i1 h1) (by decide) uF_X2_33 (Or.inr ⟨by decide +kernel, hnm, by decide +kernel⟩) (ty := .int) (by decide +kernel) rfl rfl (by rw [xO_len]; decide) dX2_init_39 (fun H locs hW hS => ?_)
  refine lv_aload_n hx hb dX2_init_42 rfl (lv_at hl 0 rfl) ?_
  refine lv_iload hx hb dX2_init_43 (lv_at hl 5 rfl) ?_
  refine x_putF hx hb hu in_X2 tyX2 tyX2_ok nmX2 hown hK hW hS (ad' := (ad2 ad0 8 nl 0 x1)) (d' := (uI (uI (uI (uI (uJ (uI (uI d0 8 nl 5 (nI 400)) 8 nl 6 (nI 0)) 8 nl 7 0) 8 nl 1 x2) 8 nl 2 x3) 8 nl 3 x4) 8 nl 4 x5)) rfl (k := 8) (i := nl) ha rfl 4 (kX_8 _ _ _ _) (by rw [kX_8]; show some (Sum.inr (3, xO _ (up3 _ 8 nl 4 _ 8 nl) _ _)) = _; rw [up3_same, xO_setI (by decide)] <;> rfl) (fun k1 i1 h1 => uI_ne k1 i1 h1) (by decide) uF_X2_36 (Or.inr ⟨by decide +kernel, hnm, by decide +kernel⟩) (ty := .int) (by decide +kernel) rfl rfl (by rw [xO_len]; decide) dX2_init_45 (fun H locs hW hS => ?_)
  exact W.vret hx hb hr (fun t ht _ => ⟨⟨((ad2 ad0 8 nl 0 x1), (uI (uI (uI (uI (uJ (uI (uI d0 8 nl 5 (nI 400)) 8 nl 6 (nI 0)) 8 nl 7 0) 8 nl 1 x2) 8 nl 2 x3) 8 nl 3 x4) 8 nl 4 x5)), rfl, rfl, by show oW D cA B0 (ad2 ad0 8 nl 0 x1) (uI (uI (uI (uI (uJ (uI (uI d0 8 nl 5 (nI 400)) 8 nl 6 (nI 0)) 8 nl 7 0) 8 nl 1 x2) 8 nl 2 x3) 8 nl 3 x4) 8 nl 4 x5) t.heap; rw [ht]; exact hW⟩, hS.F ht⟩) hS.2.2 dX2_init_48
set_option maxHeartbeats 1000000 in
set_option maxRecDepth 100000 in
theorem c_X7_init (l : Launch) (D : va_G) (cA : Nat → ClassId) (B0 : Nat) (ad0 : kA) (d0 : kD) (nt : Nat) (ha : ad0.1 7 nt ≠ 0) (x1 : Int32) (x2 : Int32) (x3 : Nat) (h3 : x3 ≠ 0) : oM l yX7_init wX7_init 1 0 0 D cA B0 ad0 d0 ([.ref (ad0.1 7 nt), .int x1, .int x2, .ref x3] : List Value) (oQvA D cA B0 (fun u => u = ((ad2 ad0 7 nt 2 x3), (uI (uI d0 7 nt 0 x1) 7 nt 1 x2)))) := by
  refine o_ofW (cc := cX7_init) (maxL := 4) (ret := none) (by decide) rfl (Nat.le_of_ble_eq_true rfl) ?_
  intro p e s m below meth c hx hb hr hml hts hown hlocks hnm hK hW hB hS ls hl
  have hu : ∀ w ∈ UW, w.before _ s = true := fun w h => hts w (uw_c w h)
  have hl : lv_has ls 4 [(0, .ref (ad0.1 7 nt)), (1, .int x1), (2, .int x2), (3, .ref x3)] := hl
  refine lv_aload_n hx hb dX7_init_0 rfl (lv_at hl 0 rfl) ?_
  refine W.objInit hx hb hown (hu _ uM_X7_1) (hu _ uN_java_lang_Object__init___V) (hu _ uC_java_lang_Object__init___V) rfl (by rw [hml]; exact hl.1) rfl dX7_init_1 (Nat.le_of_ble_eq_true rfl) (Nat.le_of_ble_eq_true rfl) ?_
  refine W.eq (g2 := F0 m 4 ls []) rfl ?_
  refine lv_aload_n hx hb dX7_init_4 rfl (lv_at hl 0 rfl) ?_
  refine lv_iload_n hx hb dX7_init_5 rfl (lv_at hl 1 rfl) ?_
  refine x_putF hx hb hu in_X7 tyX7 tyX7_ok nmX7 hown hK hW hS (ad' := ad0) (d' := (uI d0 7 nt 0 x1)) rfl (k := 7) (i := nt) ha rfl 0 (kX_7 _ _ _ _) (by rw [kX_7]; show some (Sum.inr (8, xO _ (up3 _ 7 nt 0 _ 7 nt) _ _)) = _; rw [up3_same, xO_setI (by decide)] <;> rfl) (fun k1 i1 h1 => uI_ne k1 i1 h1) (by decide) uF_X7_7 (Or.inr ⟨by decide +kernel, hnm, by decide +kernel⟩) (ty := .int) (by decide +kernel) rfl rfl (by rw [xO_len]; decide) dX7_init_6 (fun H locs hW hS => ?_)
  refine lv_aload_n hx hb dX7_init_9 rfl (lv_at hl 0 rfl) ?_
  refine lv_iload_n hx hb dX7_init_10 rfl (lv_at hl 2 rfl) ?_
  refine x_putF hx hb hu in_X7 tyX7 tyX7_ok nmX7 hown hK hW hS (ad' := ad0) (d' := (uI (uI d0 7 nt 0 x1) 7 nt 1 x2)) rfl (k := 7) (i := nt) ha rfl 1 (kX_7 _ _ _ _) (by rw [kX_7]; show some (Sum.inr (8, xO _ (up3 _ 7 nt 1 _ 7 nt) _ _)) = _; rw [up3_same, xO_setI (by decide)] <;> rfl) (fun k1 i1 h1 => uI_ne k1 i1 h1) (by decide) uF_X7_13 (Or.inr ⟨by decide +kernel, hnm, by decide +kernel⟩) (ty := .int) (by decide +kernel) rfl rfl (by rw [xO_len]; decide) dX7_init_11 (fun H locs hW hS => ?_)
  refine lv_aload_n hx hb dX7_init_14 rfl (lv_at hl 0 rfl) ?_
  refine lv_aload_n hx hb dX7_init_15 rfl (lv_at hl 3 rfl) ?_
  refine x_putF hx hb hu in_X7 tyX7 tyX7_ok nmX7 hown hK hW hS (ad' := (ad2 ad0 7 nt 2 x3)) (d' := (uI (uI d0 7 nt 0 x1) 7 nt 1 x2)) rfl (k := 7) (i := nt) ha rfl 2 (kX_7 _ _ _ _) (by rw [kX_7]; show some (Sum.inr (8, xO (up3 _ 7 nt 2 _ 7 nt) _ _ _)) = _; rw [up3_same, xO_setR (by decide), rf_ne h3] <;> rfl) (fun k1 i1 h1 => kC_adX (by decide) k1 i1 h1) (by decide) uF_X7_16 (Or.inr ⟨by decide +kernel, hnm, by decide +kernel⟩) (ty := .object "RiverFeet$Tree") (by decide +kernel) rfl rfl (by rw [xO_len]; decide) dX7_init_16 (fun H locs hW hS => ?_)
  exact W.vret hx hb hr (fun t ht _ => ⟨⟨((ad2 ad0 7 nt 2 x3), (uI (uI d0 7 nt 0 x1) 7 nt 1 x2)), rfl, rfl, by show oW D cA B0 (ad2 ad0 7 nt 2 x3) (uI (uI d0 7 nt 0 x1) 7 nt 1 x2) t.heap; rw [ht]; exact hW⟩, hS.F ht⟩) hS.2.2 dX7_init_19
set_option maxHeartbeats 1000000 in
set_option maxRecDepth 100000 in
theorem c_X7_initN (l : Launch) (D : va_G) (cA : Nat → ClassId) (B0 : Nat) (ad0 : kA) (d0 : kD) (nt : Nat) (ha : ad0.1 7 nt ≠ 0) (x1 : Int32) (x2 : Int32) : oM l yX7_init wX7_init 1 0 0 D cA B0 ad0 d0 ([.ref (ad0.1 7 nt), .int x1, .int x2, .null] : List Value) (oQvA D cA B0 (fun u => u = ((ad2 ad0 7 nt 2 0), (uI (uI d0 7 nt 0 x1) 7 nt 1 x2)))) := by
  refine o_ofW (cc := cX7_init) (maxL := 4) (ret := none) (by decide) rfl (Nat.le_of_ble_eq_true rfl) ?_
  intro p e s m below meth c hx hb hr hml hts hown hlocks hnm hK hW hB hS ls hl
  have hu : ∀ w ∈ UW, w.before _ s = true := fun w h => hts w (uw_c w h)
  have hl : lv_has ls 4 [(0, .ref (ad0.1 7 nt)), (1, .int x1), (2, .int x2), (3, .null)] := hl
  refine lv_aload_n hx hb dX7_init_0 rfl (lv_at hl 0 rfl) ?_
  refine W.objInit hx hb hown (hu _ uM_X7_1) (hu _ uN_java_lang_Object__init___V) (hu _ uC_java_lang_Object__init___V) rfl (by rw [hml]; exact hl.1) rfl dX7_init_1 (Nat.le_of_ble_eq_true rfl) (Nat.le_of_ble_eq_true rfl) ?_
  refine W.eq (g2 := F0 m 4 ls []) rfl ?_
  refine lv_aload_n hx hb dX7_init_4 rfl (lv_at hl 0 rfl) ?_
  refine lv_iload_n hx hb dX7_init_5 rfl (lv_at hl 1 rfl) ?_
  refine x_putF hx hb hu in_X7 tyX7 tyX7_ok nmX7 hown hK hW hS (ad' := ad0) (d' := (uI d0 7 nt 0 x1)) rfl (k := 7) (i := nt) ha rfl 0 (kX_7 _ _ _ _) (by rw [kX_7]; show some (Sum.inr (8, xO _ (up3 _ 7 nt 0 _ 7 nt) _ _)) = _; rw [up3_same, xO_setI (by decide)] <;> rfl) (fun k1 i1 h1 => uI_ne k1 i1 h1) (by decide) uF_X7_7 (Or.inr ⟨by decide +kernel, hnm, by decide +kernel⟩) (ty := .int) (by decide +kernel) rfl rfl (by rw [xO_len]; decide) dX7_init_6 (fun H locs hW hS => ?_)
  refine lv_aload_n hx hb dX7_init_9 rfl (lv_at hl 0 rfl) ?_
  refine lv_iload_n hx hb dX7_init_10 rfl (lv_at hl 2 rfl) ?_
  refine x_putF hx hb hu in_X7 tyX7 tyX7_ok nmX7 hown hK hW hS (ad' := ad0) (d' := (uI (uI d0 7 nt 0 x1) 7 nt 1 x2)) rfl (k := 7) (i := nt) ha rfl 1 (kX_7 _ _ _ _) (by rw [kX_7]; show some (Sum.inr (8, xO _ (up3 _ 7 nt 1 _ 7 nt) _ _)) = _; rw [up3_same, xO_setI (by decide)] <;> rfl) (fun k1 i1 h1 => uI_ne k1 i1 h1) (by decide) uF_X7_13 (Or.inr ⟨by decide +kernel, hnm, by decide +kernel⟩) (ty := .int) (by decide +kernel) rfl rfl (by rw [xO_len]; decide) dX7_init_11 (fun H locs hW hS => ?_)
  refine lv_aload_n hx hb dX7_init_14 rfl (lv_at hl 0 rfl) ?_
  refine x_aload_n (t := 0) hx hb dX7_init_15 rfl (lv_at hl 3 rfl) ?_
  refine x_putF hx hb hu in_X7 tyX7 tyX7_ok nmX7 hown hK hW hS (ad' := (ad2 ad0 7 nt 2 0)) (d' := (uI (uI d0 7 nt 0 x1) 7 nt 1 x2)) rfl (k := 7) (i := nt) ha rfl 2 (kX_7 _ _ _ _) (by rw [kX_7]; show some (Sum.inr (8, xO (up3 _ 7 nt 2 _ 7 nt) _ _ _)) = _; rw [up3_same, xO_setR (by decide), rf_0] <;> rfl) (fun k1 i1 h1 => kC_adX (by decide) k1 i1 h1) (by decide) uF_X7_16 (Or.inr ⟨by decide +kernel, hnm, by decide +kernel⟩) (ty := .object "RiverFeet$Tree") (by decide +kernel) rfl rfl (by rw [xO_len]; decide) dX7_init_16 (fun H locs hW hS => ?_)
  exact W.vret hx hb hr (fun t ht _ => ⟨⟨((ad2 ad0 7 nt 2 0), (uI (uI d0 7 nt 0 x1) 7 nt 1 x2)), rfl, rfl, by show oW D cA B0 (ad2 ad0 7 nt 2 0) (uI (uI d0 7 nt 0 x1) 7 nt 1 x2) t.heap; rw [ht]; exact hW⟩, hS.F ht⟩) hS.2.2 dX7_init_19
