set_option maxHeartbeats 1000000 in
set_option maxRecDepth 100000 in
theorem c_X10_init (l : Launch) (D : va_G) (cA : Nat → ClassId) (B0 : Nat) (ad0 : kA) (d0 : kD) (h40 : ad0.1 40 0 ≠ 0) (hz1 : ∀ f, ad0.1 (50 + f) 0 = 0) (hz2 : ad0.2 40 0 = fun _ => 0) (hI0 : ∀ k, 40 ≤ k → d0.1 k = fun _ _ => 0) (hJ0 : ∀ k, 40 ≤ k → d0.2.1 k = fun _ _ => 0) (hB0 : 0 < B0) : oM l yX10_init wX10_init 1 32 410688 D cA B0 ad0 d0 ([.ref (ad0.1 40 0)] : List Value) (oQvA D cA B0 (fun u => mAl u.1 ∧ MN 48 ad0 u.1 ∧ u.2 = uI d0 40 0 19 (nI 399))) := by
  refine o_ofW (cc := cX10_init) (maxL := 1) (ret := none) (by decide) rfl (Nat.le_of_ble_eq_true rfl) ?_
  intro p e s m below meth c hx hb hr hml hts hown hlocks hnm hK hW hB hS ls hl
  have hu : ∀ w ∈ UW, w.before _ s = true := fun w h => hts w (uw_c w h)
  have hl : lv_has ls 1 [(0, .ref (ad0.1 40 0))] := hl
  have hN : MN 0 ad0 ad0 := MN.start hz1
  refine lv_aload_n hx hb dX10_init_0 rfl (lv_at hl 0 rfl) ?_
  refine W.objInit hx hb hown (hu _ uM_X10_1) (hu _ uN_java_lang_Object__init___V) (hu _ uC_java_lang_Object__init___V) rfl (by rw [hml]; exact hl.1) rfl dX10_init_1 (Nat.le_of_ble_eq_true rfl) (Nat.le_of_ble_eq_true rfl) ?_
  refine W.eq (g2 := F0 m 4 ls []) rfl ?_
  refine lv_aload_n hx hb dX10_init_4 rfl (lv_at hl 0 rfl) ?_
  refine n_sipush (v := 400) hx hb dX10_init_5 (by decide) ?_
  refine mo_mk hx hb hu hown hnm hK 0 hN h40 hW hS hB.1 hB0 (ty := .int) 0 (n := 400) (a0 := (400, .inl (fun _ => 0))) rfl uA_int (fun _ => rfl) rfl (by decide) (by rw [vp_cell_i]; rfl) (kC_zi 0 (by decide) (congrFun (hI0 (50 + 0) (by decide)) 0)) (by decide) (Nat.le_of_ble_eq_true rfl) (Nat.le_of_ble_eq_true rfl) (by decide +kernel) uF_X10_9 dX10_init_8 dX10_init_10 (fun ad H locs hN hW hS => ?_)
  refine lv_aload_n hx hb dX10_init_13 rfl (lv_at hl 0 rfl) ?_
  refine n_bipush (v := 8) hx hb dX10_init_14 (by decide) ?_
  have hN := hN.skip (n' := 2) (by decide) (by decide)
  refine mo_mk hx hb hu hown hnm hK 2 hN h40 hW hS hB.1 hB0 (ty := .int) 0 (n := 8) (a0 := (8, .inl (fun _ => 0))) rfl uA_int (fun _ => rfl) rfl (by decide) (by rw [vp_cell_i]; rfl) (kC_zi 2 (by decide) (congrFun (hI0 (50 + 2) (by decide)) 0)) (by decide) (Nat.le_of_ble_eq_true rfl) (Nat.le_of_ble_eq_true rfl) (by decide +kernel) uF_X10_13 dX10_init_16 dX10_init_18 (fun ad H locs hN hW hS => ?_)
  refine lv_aload_n hx hb dX10_init_21 rfl (lv_at hl 0 rfl) ?_
  refine n_bipush (v := 8) hx hb dX10_init_22 (by decide) ?_
  refine mo_mk hx hb hu hown hnm hK 3 hN h40 hW hS hB.1 hB0 (ty := .int) 0 (n := 8) (a0 := (8, .inl (fun _ => 0))) rfl uA_int (fun _ => rfl) rfl (by decide) (by rw [vp_cell_i]; rfl) (kC_zi 3 (by decide) (congrFun (hI0 (50 + 3) (by decide)) 0)) (by decide) (Nat.le_of_ble_eq_true rfl) (Nat.le_of_ble_eq_true rfl) (by decide +kernel) uF_X10_16 dX10_init_24 dX10_init_26 (fun ad H locs hN hW hS => ?_)
  refine lv_aload_n hx hb dX10_init_29 rfl (lv_at hl 0 rfl) ?_
  refine n_bipush (v := 8) hx hb dX10_init_30 (by decide) ?_
  refine mo_mk hx hb hu hown hnm hK 4 hN h40 hW hS hB.1 hB0 (ty := .int) 0 (n := 8) (a0 := (8, .inl (fun _ => 0))) rfl uA_int (fun _ => rfl) rfl (by decide) (by rw [vp_cell_i]; rfl) (kC_zi 4 (by decide) (congrFun (hI0 (50 + 4) (by decide)) 0)) (by decide) (Nat.le_of_ble_eq_true rfl) (Nat.le_of_ble_eq_true rfl) (by decide +kernel) uF_X10_19 dX10_init_32 dX10_init_34 (fun ad H locs hN hW hS => ?_)
  refine lv_aload_n hx hb dX10_init_37 rfl (lv_at hl 0 rfl) ?_
  refine n_bipush (v := 8) hx hb dX10_init_38 (by decide) ?_
  refine mo_mk hx hb hu hown hnm hK 5 hN h40 hW hS hB.1 hB0 (ty := .int) 0 (n := 8) (a0 := (8, .inl (fun _ => 0))) rfl uA_int (fun _ => rfl) rfl (by decide) (by rw [vp_cell_i]; rfl) (kC_zi 5 (by decide) (congrFun (hI0 (50 + 5) (by decide)) 0)) (by decide) (Nat.le_of_ble_eq_true rfl) (Nat.le_of_ble_eq_true rfl) (by decide +kernel) uF_X10_22 dX10_init_40 dX10_init_42 (fun ad H locs hN hW hS => ?_)
  refine lv_aload_n hx hb dX10_init_45 rfl (lv_at hl 0 rfl) ?_
  refine n_bipush (v := 8) hx hb dX10_init_46 (by decide) ?_
  refine mo_mk hx hb hu hown hnm hK 6 hN h40 hW hS hB.1 hB0 (ty := .int) 0 (n := 8) (a0 := (8, .inl (fun _ => 0))) rfl uA_int (fun _ => rfl) rfl (by decide) (by rw [vp_cell_i]; rfl) (kC_zi 6 (by decide) (congrFun (hI0 (50 + 6) (by decide)) 0)) (by decide) (Nat.le_of_ble_eq_true rfl) (Nat.le_of_ble_eq_true rfl) (by decide +kernel) uF_X10_25 dX10_init_48 dX10_init_50 (fun ad H locs hN hW hS => ?_)
  refine lv_aload_n hx hb dX10_init_53 rfl (lv_at hl 0 rfl) ?_
  refine n_bipush (v := 20) hx hb dX10_init_54 (by decide) ?_
  have hN := hN.skip (n' := 8) (by decide) (by decide)
  refine mo_mk hx hb hu hown hnm hK 8 hN h40 hW hS hB.1 hB0 (ty := .int) 0 (n := 20) (a0 := (20, .inl (fun _ => 0))) rfl uA_int (fun _ => rfl) rfl (by decide) (by rw [vp_cell_i]; rfl) (kC_zi 8 (by decide) (congrFun (hI0 (50 + 8) (by decide)) 0)) (by decide) (Nat.le_of_ble_eq_true rfl) (Nat.le_of_ble_eq_true rfl) (by decide +kernel) uF_X10_28 dX10_init_56 dX10_init_58 (fun ad H locs hN hW hS => ?_)
  refine lv_aload_n hx hb dX10_init_61 rfl (lv_at hl 0 rfl) ?_
  refine n_bipush (v := 20) hx hb dX10_init_62 (by decide) ?_
  refine mo_mk hx hb hu hown hnm hK 9 hN h40 hW hS hB.1 hB0 (ty := .int) 0 (n := 20) (a0 := (20, .inl (fun _ => 0))) rfl uA_int (fun _ => rfl) rfl (by decide) (by rw [vp_cell_i]; rfl) (kC_zi 9 (by decide) (congrFun (hI0 (50 + 9) (by decide)) 0)) (by decide) (Nat.le_of_ble_eq_true rfl) (Nat.le_of_ble_eq_true rfl) (by decide +kernel) uF_X10_31 dX10_init_64 dX10_init_66 (fun ad H locs hN hW hS => ?_)
  refine lv_aload_n hx hb dX10_init_69 rfl (lv_at hl 0 rfl) ?_
  refine n_bipush (v := 20) hx hb dX10_init_70 (by decide) ?_
  refine mo_mk hx hb hu hown hnm hK 10 hN h40 hW hS hB.1 hB0 (ty := .int) 0 (n := 20) (a0 := (20, .inl (fun _ => 0))) rfl uA_int (fun _ => rfl) rfl (by decide) (by rw [vp_cell_i]; rfl) (kC_zi 10 (by decide) (congrFun (hI0 (50 + 10) (by decide)) 0)) (by decide) (Nat.le_of_ble_eq_true rfl) (Nat.le_of_ble_eq_true rfl) (by decide +kernel) uF_X10_34 dX10_init_72 dX10_init_74 (fun ad H locs hN hW hS => ?_)
  refine lv_aload_n hx hb dX10_init_77 rfl (lv_at hl 0 rfl) ?_
  refine n_bipush (v := 40) hx hb dX10_init_78 (by decide) ?_
  have hN := hN.skip (n' := 12) (by decide) (by decide)
  refine mo_mk hx hb hu hown hnm hK 12 hN h40 hW hS hB.1 hB0 (ty := .int) 0 (n := 40) (a0 := (40, .inl (fun _ => 0))) rfl uA_int (fun _ => rfl) rfl (by decide) (by rw [vp_cell_i]; rfl) (kC_zi 12 (by decide) (congrFun (hI0 (50 + 12) (by decide)) 0)) (by decide) (Nat.le_of_ble_eq_true rfl) (Nat.le_of_ble_eq_true rfl) (by decide +kernel) uF_X10_37 dX10_init_80 dX10_init_82 (fun ad H locs hN hW hS => ?_)
  refine lv_aload_n hx hb dX10_init_85 rfl (lv_at hl 0 rfl) ?_
  refine n_bipush (v := 40) hx hb dX10_init_86 (by decide) ?_
  refine mo_mk hx hb hu hown hnm hK 13 hN h40 hW hS hB.1 hB0 (ty := .int) 0 (n := 40) (a0 := (40, .inl (fun _ => 0))) rfl uA_int (fun _ => rfl) rfl (by decide) (by rw [vp_cell_i]; rfl) (kC_zi 13 (by decide) (congrFun (hI0 (50 + 13) (by decide)) 0)) (by decide) (Nat.le_of_ble_eq_true rfl) (Nat.le_of_ble_eq_true rfl) (by decide +kernel) uF_X10_40 dX10_init_88 dX10_init_90 (fun ad H locs hN hW hS => ?_)
  refine lv_aload_n hx hb dX10_init_93 rfl (lv_at hl 0 rfl) ?_
  refine n_bipush (v := 40) hx hb dX10_init_94 (by decide) ?_
  refine mo_mk hx hb hu hown hnm hK 14 hN h40 hW hS hB.1 hB0 (ty := .int) 0 (n := 40) (a0 := (40, .inl (fun _ => 0))) rfl uA_int (fun _ => rfl) rfl (by decide) (by rw [vp_cell_i]; rfl) (kC_zi 14 (by decide) (congrFun (hI0 (50 + 14) (by decide)) 0)) (by decide) (Nat.le_of_ble_eq_true rfl) (Nat.le_of_ble_eq_true rfl) (by decide +kernel) uF_X10_43 dX10_init_96 dX10_init_98 (fun ad H locs hN hW hS => ?_)
  refine lv_aload_n hx hb dX10_init_101 rfl (lv_at hl 0 rfl) ?_
  refine n_bipush (v := 40) hx hb dX10_init_102 (by decide) ?_
  refine mo_mk hx hb hu hown hnm hK 15 hN h40 hW hS hB.1 hB0 (ty := .int) 0 (n := 40) (a0 := (40, .inl (fun _ => 0))) rfl uA_int (fun _ => rfl) rfl (by decide) (by rw [vp_cell_i]; rfl) (kC_zi 15 (by decide) (congrFun (hI0 (50 + 15) (by decide)) 0)) (by decide) (Nat.le_of_ble_eq_true rfl) (Nat.le_of_ble_eq_true rfl) (by decide +kernel) uF_X10_46 dX10_init_104 dX10_init_106 (fun ad H locs hN hW hS => ?_)
  refine lv_aload_n hx hb dX10_init_109 rfl (lv_at hl 0 rfl) ?_
  refine n_bipush (v := 40) hx hb dX10_init_110 (by decide) ?_
  refine mo_mk hx hb hu hown hnm hK 16 hN h40 hW hS hB.1 hB0 (ty := .int) 0 (n := 40) (a0 := (40, .inl (fun _ => 0))) rfl uA_int (fun _ => rfl) rfl (by decide) (by rw [vp_cell_i]; rfl) (kC_zi 16 (by decide) (congrFun (hI0 (50 + 16) (by decide)) 0)) (by decide) (Nat.le_of_ble_eq_true rfl) (Nat.le_of_ble_eq_true rfl) (by decide +kernel) uF_X10_49 dX10_init_112 dX10_init_114 (fun ad H locs hN hW hS => ?_)
  refine lv_aload_n hx hb dX10_init_117 rfl (lv_at hl 0 rfl) ?_
  refine n_bipush (v := 40) hx hb dX10_init_118 (by decide) ?_
  refine mo_mk hx hb hu hown hnm hK 17 hN h40 hW hS hB.1 hB0 (ty := .int) 0 (n := 40) (a0 := (40, .inl (fun _ => 0))) rfl uA_int (fun _ => rfl) rfl (by decide) (by rw [vp_cell_i]; rfl) (kC_zi 17 (by decide) (congrFun (hI0 (50 + 17) (by decide)) 0)) (by decide) (Nat.le_of_ble_eq_true rfl) (Nat.le_of_ble_eq_true rfl) (by decide +kernel) uF_X10_52 dX10_init_120 dX10_init_122 (fun ad H locs hN hW hS => ?_)
  refine lv_aload_n hx hb dX10_init_125 rfl (lv_at hl 0 rfl) ?_
  refine n_sipush (v := 399) hx hb dX10_init_126 (by decide) ?_
  refine W.eq (g2 := F0 m 129 ls [.int (nI 399), .ref (ad.1 40 0)]) (by rw [hN.1]) ?_
  refine o_puti (C := RX10) (T := TX10) (N := 48) hx hb hu in_X10 tyX10 tyX10_ok nmX10 hown hK hW hS (k := 40) (i := 0) (by rw [hN.1]; exact h40) (fun g => kF_M _ _ g _ _) rfl 19 (by decide) (hu _ uF_X10_55) rfl (ty := .int) (by decide +kernel) (mO_set _ _ rfl) rfl rfl (by rw [mO_len]; decide) dX10_init_129 (fun H locs hW hS => ?_)
  have hd19 : ∀ k, k ≠ 40 → (uI d0 40 0 19 (nI 399)).1 k = d0.1 k := fun k hk => uI_k _ _ _ _ hk
  refine lv_aload_n hx hb dX10_init_132 rfl (lv_at hl 0 rfl) ?_
  refine n_bipush (v := 64) hx hb dX10_init_133 (by decide) ?_
  have hN := hN.skip (n' := 20) (by decide) (by decide)
  refine mo_mk hx hb hu hown hnm hK 20 hN h40 hW hS hB.1 hB0 (ty := .int) 0 (n := 64) (a0 := (64, .inl (fun _ => 0))) rfl uA_int (fun _ => rfl) rfl (by decide) (by rw [vp_cell_i]; rfl) (kC_zi 20 (by decide) ((congrFun (hd19 (50 + 20) (by decide)) 0).trans (congrFun (hI0 (50 + 20) (by decide)) 0))) (by decide) (Nat.le_of_ble_eq_true rfl) (Nat.le_of_ble_eq_true rfl) (by decide +kernel) uF_X10_59 dX10_init_135 dX10_init_137 (fun ad H locs hN hW hS => ?_)
  refine lv_aload_n hx hb dX10_init_140 rfl (lv_at hl 0 rfl) ?_
  refine n_bipush (v := 64) hx hb dX10_init_141 (by decide) ?_
  refine mo_mk hx hb hu hown hnm hK 21 hN h40 hW hS hB.1 hB0 (ty := .int) 0 (n := 64) (a0 := (64, .inl (fun _ => 0))) rfl uA_int (fun _ => rfl) rfl (by decide) (by rw [vp_cell_i]; rfl) (kC_zi 21 (by decide) ((congrFun (hd19 (50 + 21) (by decide)) 0).trans (congrFun (hI0 (50 + 21) (by decide)) 0))) (by decide) (Nat.le_of_ble_eq_true rfl) (Nat.le_of_ble_eq_true rfl) (by decide +kernel) uF_X10_62 dX10_init_143 dX10_init_145 (fun ad H locs hN hW hS => ?_)
  refine lv_aload_n hx hb dX10_init_148 rfl (lv_at hl 0 rfl) ?_
  refine n_iconst (v := 4) hx hb dX10_init_149 (by decide) ?_
  have hN := hN.skip (n' := 23) (by decide) (by decide)
  refine mo_mk hx hb hu hown hnm hK 23 hN h40 hW hS hB.1 hB0 (ty := .int) 0 (n := 4) (a0 := (4, .inl (fun _ => 0))) rfl uA_int (fun _ => rfl) rfl (by decide) (by rw [vp_cell_i]; rfl) (kC_zi 23 (by decide) ((congrFun (hd19 (50 + 23) (by decide)) 0).trans (congrFun (hI0 (50 + 23) (by decide)) 0))) (by decide) (Nat.le_of_ble_eq_true rfl) (Nat.le_of_ble_eq_true rfl) (by decide +kernel) uF_X10_65 dX10_init_150 dX10_init_152 (fun ad H locs hN hW hS => ?_)
  refine lv_aload_n hx hb dX10_init_155 rfl (lv_at hl 0 rfl) ?_
  refine n_iconst (v := 4) hx hb dX10_init_156 (by decide) ?_
  refine mo_mk hx hb hu hown hnm hK 24 hN h40 hW hS hB.1 hB0 (ty := .int) 0 (n := 4) (a0 := (4, .inl (fun _ => 0))) rfl uA_int (fun _ => rfl) rfl (by decide) (by rw [vp_cell_i]; rfl) (kC_zi 24 (by decide) ((congrFun (hd19 (50 + 24) (by decide)) 0).trans (congrFun (hI0 (50 + 24) (by decide)) 0))) (by decide) (Nat.le_of_ble_eq_true rfl) (Nat.le_of_ble_eq_true rfl) (by decide +kernel) uF_X10_68 dX10_init_157 dX10_init_159 (fun ad H locs hN hW hS => ?_)
  refine lv_aload_n hx hb dX10_init_162 rfl (lv_at hl 0 rfl) ?_
  refine n_bipush (v := 8) hx hb dX10_init_163 (by decide) ?_
  have hN := hN.skip (n' := 26) (by decide) (by decide)
  refine mo_mk hx hb hu hown hnm hK 26 hN h40 hW hS hB.1 hB0 (ty := .int) 0 (n := 8) (a0 := (8, .inl (fun _ => 0))) rfl uA_int (fun _ => rfl) rfl (by decide) (by rw [vp_cell_i]; rfl) (kC_zi 26 (by decide) ((congrFun (hd19 (50 + 26) (by decide)) 0).trans (congrFun (hI0 (50 + 26) (by decide)) 0))) (by decide) (Nat.le_of_ble_eq_true rfl) (Nat.le_of_ble_eq_true rfl) (by decide +kernel) uF_X10_71 dX10_init_165 dX10_init_167 (fun ad H locs hN hW hS => ?_)
  refine lv_aload_n hx hb dX10_init_170 rfl (lv_at hl 0 rfl) ?_
  refine n_bipush (v := 10) hx hb dX10_init_171 (by decide) ?_
  refine mo_mk hx hb hu hown hnm hK 27 hN h40 hW hS hB.1 hB0 (ty := .int) 0 (n := 10) (a0 := (10, .inl (fun _ => 0))) rfl uA_int (fun _ => rfl) rfl (by decide) (by rw [vp_cell_i]; rfl) (kC_zi 27 (by decide) ((congrFun (hd19 (50 + 27) (by decide)) 0).trans (congrFun (hI0 (50 + 27) (by decide)) 0))) (by decide) (Nat.le_of_ble_eq_true rfl) (Nat.le_of_ble_eq_true rfl) (by decide +kernel) uF_X10_74 dX10_init_173 dX10_init_175 (fun ad H locs hN hW hS => ?_)
  refine lv_aload_n hx hb dX10_init_178 rfl (lv_at hl 0 rfl) ?_
  refine n_bipush (v := 10) hx hb dX10_init_179 (by decide) ?_
  refine mo_mk hx hb hu hown hnm hK 28 hN h40 hW hS hB.1 hB0 (ty := .int) 0 (n := 10) (a0 := (10, .inl (fun _ => 0))) rfl uA_int (fun _ => rfl) rfl (by decide) (by rw [vp_cell_i]; rfl) (kC_zi 28 (by decide) ((congrFun (hd19 (50 + 28) (by decide)) 0).trans (congrFun (hI0 (50 + 28) (by decide)) 0))) (by decide) (Nat.le_of_ble_eq_true rfl) (Nat.le_of_ble_eq_true rfl) (by decide +kernel) uF_X10_77 dX10_init_181 dX10_init_183 (fun ad H locs hN hW hS => ?_)
  refine lv_aload_n hx hb dX10_init_186 rfl (lv_at hl 0 rfl) ?_
  refine n_bipush (v := 10) hx hb dX10_init_187 (by decide) ?_
  refine mo_mk hx hb hu hown hnm hK 29 hN h40 hW hS hB.1 hB0 (ty := .int) 0 (n := 10) (a0 := (10, .inl (fun _ => 0))) rfl uA_int (fun _ => rfl) rfl (by decide) (by rw [vp_cell_i]; rfl) (kC_zi 29 (by decide) ((congrFun (hd19 (50 + 29) (by decide)) 0).trans (congrFun (hI0 (50 + 29) (by decide)) 0))) (by decide) (Nat.le_of_ble_eq_true rfl) (Nat.le_of_ble_eq_true rfl) (by decide +kernel) uF_X10_80 dX10_init_189 dX10_init_191 (fun ad H locs hN hW hS => ?_)
  refine lv_aload_n hx hb dX10_init_194 rfl (lv_at hl 0 rfl) ?_
  refine n_bipush (v := 64) hx hb dX10_init_195 (by decide) ?_
  have hN := hN.skip (n' := 31) (by decide) (by decide)
  refine mo_mk hx hb hu hown hnm hK 31 hN h40 hW hS hB.1 hB0 (ty := .int) 0 (n := 64) (a0 := (64, .inl (fun _ => 0))) rfl uA_int (fun _ => rfl) rfl (by decide) (by rw [vp_cell_i]; rfl) (kC_zi 31 (by decide) ((congrFun (hd19 (50 + 31) (by decide)) 0).trans (congrFun (hI0 (50 + 31) (by decide)) 0))) (by decide) (Nat.le_of_ble_eq_true rfl) (Nat.le_of_ble_eq_true rfl) (by decide +kernel) uF_X10_83 dX10_init_197 dX10_init_199 (fun ad H locs hN hW hS => ?_)
  refine lv_aload_n hx hb dX10_init_202 rfl (lv_at hl 0 rfl) ?_
  refine lv_ldc (v := nI 204800) hx hb hown (hu _ uK_X10_86) dX10_init_203 ?_
  have hN := hN.skip (n' := 34) (by decide) (by decide)
  refine mo_mk hx hb hu hown hnm hK 34 hN h40 hW hS hB.1 hB0 (ty := .int) 0 (n := 204800) (a0 := (204800, .inl (fun _ => 0))) rfl uA_int (fun _ => rfl) rfl (by decide) (by rw [vp_cell_i]; rfl) (kC_zi 34 (by decide) ((congrFun (hd19 (50 + 34) (by decide)) 0).trans (congrFun (hI0 (50 + 34) (by decide)) 0))) (by decide) (Nat.le_of_ble_eq_true rfl) (Nat.le_of_ble_eq_true rfl) (by decide +kernel) uF_X10_87 dX10_init_205 dX10_init_207 (fun ad H locs hN hW hS => ?_)
  refine lv_aload_n hx hb dX10_init_210 rfl (lv_at hl 0 rfl) ?_
  refine lv_ldc (v := nI 204800) hx hb hown (hu _ uK_X10_86) dX10_init_211 ?_
  refine mo_mk hx hb hu hown hnm hK 35 hN h40 hW hS hB.1 hB0 (ty := .int) 0 (n := 204800) (a0 := (204800, .inl (fun _ => 0))) rfl uA_int (fun _ => rfl) rfl (by decide) (by rw [vp_cell_i]; rfl) (kC_zi 35 (by decide) ((congrFun (hd19 (50 + 35) (by decide)) 0).trans (congrFun (hI0 (50 + 35) (by decide)) 0))) (by decide) (Nat.le_of_ble_eq_true rfl) (Nat.le_of_ble_eq_true rfl) (by decide +kernel) uF_X10_90 dX10_init_213 dX10_init_215 (fun ad H locs hN hW hS => ?_)
  refine lv_aload_n hx hb dX10_init_218 rfl (lv_at hl 0 rfl) ?_
  refine n_bipush (v := 8) hx hb dX10_init_219 (by decide) ?_
  refine mo_mk hx hb hu hown hnm hK 36 hN h40 hW hS hB.1 hB0 (ty := .boolean) 2 (n := 8) (a0 := (8, .inl (fun _ => 0))) rfl uA_boolean (fun _ => rfl) rfl (by decide) (by rw [vp_cell_i]; rfl) (kC_zz 36 (by decide) ((congrFun (hd19 (50 + 36) (by decide)) 0).trans (congrFun (hI0 (50 + 36) (by decide)) 0))) (by decide) (Nat.le_of_ble_eq_true rfl) (Nat.le_of_ble_eq_true rfl) (by decide +kernel) uF_X10_93 dX10_init_221 dX10_init_223 (fun ad H locs hN hW hS => ?_)
  refine lv_aload_n hx hb dX10_init_226 rfl (lv_at hl 0 rfl) ?_
  refine n_bipush (v := 40) hx hb dX10_init_227 (by decide) ?_
  refine mo_mk hx hb hu hown hnm hK 37 hN h40 hW hS hB.1 hB0 (ty := .long) 1 (n := 40) (a0 := (40, .inr (.inl (fun _ => 0)))) rfl uA_long (fun _ => rfl) rfl (by decide) (by rw [vp_cell_l]; rfl) (kC_zl 37 (by decide) (congrFun (hJ0 (50 + 37) (by decide)) 0)) (by decide) (Nat.le_of_ble_eq_true rfl) (Nat.le_of_ble_eq_true rfl) (by decide +kernel) uF_X10_97 dX10_init_229 dX10_init_231 (fun ad H locs hN hW hS => ?_)
  refine lv_aload_n hx hb dX10_init_234 rfl (lv_at hl 0 rfl) ?_
  refine n_bipush (v := 40) hx hb dX10_init_235 (by decide) ?_
  refine mo_mk hx hb hu hown hnm hK 38 hN h40 hW hS hB.1 hB0 (ty := .boolean) 2 (n := 40) (a0 := (40, .inl (fun _ => 0))) rfl uA_boolean (fun _ => rfl) rfl (by decide) (by rw [vp_cell_i]; rfl) (kC_zz 38 (by decide) ((congrFun (hd19 (50 + 38) (by decide)) 0).trans (congrFun (hI0 (50 + 38) (by decide)) 0))) (by decide) (Nat.le_of_ble_eq_true rfl) (Nat.le_of_ble_eq_true rfl) (by decide +kernel) uF_X10_101 dX10_init_237 dX10_init_239 (fun ad H locs hN hW hS => ?_)
  refine lv_aload_n hx hb dX10_init_242 rfl (lv_at hl 0 rfl) ?_
  refine n_bipush (v := 6) hx hb dX10_init_243 (by decide) ?_
  refine mo_mk hx hb hu hown hnm hK 39 hN h40 hW hS hB.1 hB0 (ty := .int) 0 (n := 6) (a0 := (6, .inl (fun _ => 0))) rfl uA_int (fun _ => rfl) rfl (by decide) (by rw [vp_cell_i]; rfl) (kC_zi 39 (by decide) ((congrFun (hd19 (50 + 39) (by decide)) 0).trans (congrFun (hI0 (50 + 39) (by decide)) 0))) (by decide) (Nat.le_of_ble_eq_true rfl) (Nat.le_of_ble_eq_true rfl) (by decide +kernel) uF_X10_104 dX10_init_245 dX10_init_247 (fun ad H locs hN hW hS => ?_)
  refine lv_aload_n hx hb dX10_init_250 rfl (lv_at hl 0 rfl) ?_
  refine n_bipush (v := 8) hx hb dX10_init_251 (by decide) ?_
  have hN := hN.skip (n' := 46) (by decide) (by decide)
  refine mo_mk hx hb hu hown hnm hK 46 hN h40 hW hS hB.1 hB0 (ty := .int) 0 (n := 8) (a0 := (8, .inl (fun _ => 0))) rfl uA_int (fun _ => rfl) rfl (by decide) (by rw [vp_cell_i]; rfl) (kC_zi 46 (by decide) ((congrFun (hd19 (50 + 46) (by decide)) 0).trans (congrFun (hI0 (50 + 46) (by decide)) 0))) (by decide) (Nat.le_of_ble_eq_true rfl) (Nat.le_of_ble_eq_true rfl) (by decide +kernel) uF_X10_107 dX10_init_253 dX10_init_255 (fun ad H locs hN hW hS => ?_)
  refine lv_aload_n hx hb dX10_init_258 rfl (lv_at hl 0 rfl) ?_
  refine n_bipush (v := 8) hx hb dX10_init_259 (by decide) ?_
  refine mo_mk hx hb hu hown hnm hK 47 hN h40 hW hS hB.1 hB0 (ty := .int) 0 (n := 8) (a0 := (8, .inl (fun _ => 0))) rfl uA_int (fun _ => rfl) rfl (by decide) (by rw [vp_cell_i]; rfl) (kC_zi 47 (by decide) ((congrFun (hd19 (50 + 47) (by decide)) 0).trans (congrFun (hI0 (50 + 47) (by decide)) 0))) (by decide) (Nat.le_of_ble_eq_true rfl) (Nat.le_of_ble_eq_true rfl) (by decide +kernel) uF_X10_110 dX10_init_261 dX10_init_263 (fun ad H locs hN hW hS => ?_)
  refine W.widen (k := 32) (n := 410688) (by decide) (by decide) ?_
  exact W.vret hx hb hr (fun t ht _ => ⟨⟨(ad, (uI d0 40 0 19 (nI 399))), rfl, ⟨mAl_of hN h40, hN, rfl⟩, by show oW D cA B0 ad (uI d0 40 0 19 (nI 399)) t.heap; rw [ht]; exact hW⟩, hS.F ht⟩) hS.2.2 dX10_init_266
