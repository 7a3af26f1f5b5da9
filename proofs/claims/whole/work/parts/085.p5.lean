set_option maxHeartbeats 400000 in
set_option maxRecDepth 100000 in
theorem c_X10_row (l : Launch) (D : va_G) (cA : Nat → ClassId) (B0 : Nat) (ad : kA) (hal : mAl ad) (S : sS) (sr : Nat → Int32) (d0 : kD) (hM : InvM S d0) (hR : RowM S sr d0) (ii : Int32) : oM l yX10_row wX10_row 3 0 0 D cA B0 ad d0 ([.ref (ad.1 40 0), .int ii] : List Value) (oQi D cA B0 ad (fun r d1 => r = aRow S sr ii ∧ PI S sr d0 d1 ∧ d1.1 40 0 33 = tRow S ii)) := by
  refine o_ofW (cc := cX10_row) (maxL := 2) (ret := some .int) (by decide) rfl (Nat.le_of_ble_eq_true rfl) ?_
  intro p e s m below meth c hx hb hr hml hts hown hlocks hnm hK hW hB hS ls hl
  have hu : ∀ w ∈ UW, w.before _ s = true := fun w h => hts w (uw_c w h)
  have hl : lv_has ls 2 [(0, .ref (ad.1 40 0)), (1, .int ii)] := hl
  refine lv_aload_n hx hb dX10_row_0 rfl (lv_at hl 0 rfl) ?_
  refine n_iconst (v := 0) hx hb dX10_row_1 (by decide) ?_
  refine mo_pi hx hb hu hown hK hal hW hS 33 (by decide +kernel) uF_X10_113 dX10_row_2 (fun H locs hW hS => ?_)
  have hI : MI S (uI d0 40 0 33 (nI 0)) (uI d0 40 0 33 (nI 0)) := MI.start (hM.thr 33 _ rfl)
  have hG : sG S := hM.2.1
  have hb32 : S 32 0 ≤ 64 := hG.f 32 (mx := 64) (by decide)
  refine lv_iload_n hx hb dX10_row_5 rfl (lv_at hl 1 rfl) ?_
  refine n_iconst (v := 0) hx hb dX10_row_6 (by decide) ?_
  refine lv_aload_n hx hb dX10_row_7 rfl (lv_at hl 0 rfl) ?_
  refine mo_gi hx hb hu hown hK hal hW hI.dS 32 (by decide) uF_X10_123 dX10_row_8 ?_
  have b_1 : S 32 0 ≤ 64 := hG.f 32 (mx := 64) (by decide)
  refine n_iconst (v := 1) hx hb dX10_row_11 (by decide) ?_
  refine lv_isub hx hb dX10_row_12 ?_
  refine o_calli (o_runS (As := [.int ii, .int (nI 0), .int ((nI (S 32 0)) - (nI 1))]) (rest := []) ⟨hx, hb, hml, hown, hu⟩ (c_X10_in l D cA B0 ad hal (uI d0 40 0 33 (nI 0)) ii (nI 0) ((nI (S 32 0)) - (nI 1))) (gS_X10_119 (fun _ h => h)) (n0 := 3) rfl (by decide +kernel) rfl ⟨Nat.le_of_ble_eq_true rfl, Nat.le_of_ble_eq_true rfl⟩ hK hW hB hS hl.1 rfl (lv_room (Nat.le_of_ble_eq_true rfl)) ⟨Nat.zero_le _, Nat.zero_le _⟩ dX10_row_13) hS (fun r_3 d_2 q_4 H locs hW hS => ?_)
  obtain ⟨rfl, rfl⟩ := q_4
  refine n_topi (y := bI (ix ii (S 32 0))) (in_ix (by omega)) ?_
  refine lv_if_eq (tgt := 28) hx hb dX10_row_16 (by decide) (fun c_5 => ?_) (fun c_5 => ?_)
  · refine lv_aload_n hx hb dX10_row_28 rfl (lv_at hl 0 rfl) ?_
    refine o_calli (o_runV (As := []) (rest := []) ⟨hx, hb, hml, hown, hu⟩ (c_X10_lost l D cA B0 ad hal (uI d0 40 0 33 (nI 0))) (gV_X10_309 (fun _ h => h)) (n0 := 0) rfl (by decide +kernel) rfl ⟨Nat.le_of_ble_eq_true rfl, Nat.le_of_ble_eq_true rfl⟩ (o_recv hK hW hal.1 (kC_M _ _ _) rfl) hK hW hB hS hl.1 rfl (lv_room (Nat.le_of_ble_eq_true rfl)) ⟨Nat.zero_le _, Nat.zero_le _⟩ dX10_row_29) hS (fun r_7 d_6 q_8 H locs hW hS => ?_)
    obtain ⟨rfl, hlo⟩ := q_8
    subst hlo
    exact o_iret hx hb hr hlocks hW hS (⟨by simp only [aRow, bI_z c_5, eq_self, ↓reduceIte, Bool.false_eq_true]; rfl, row_lost hM hR _ _, by rw [uI_s]; simp only [tRow, bI_z c_5, eq_self, ↓reduceIte, Bool.false_eq_true]; rfl⟩) dX10_row_32
  · obtain ⟨iin, hiin, rfl⟩ := ix_t (bI_n c_5) (by omega)
    refine lv_aload_n hx hb dX10_row_19 rfl (lv_at hl 0 rfl) ?_
    refine mo_ga hx hb hu hown hK hal hW 31 (by decide) uF_X10_83 dX10_row_20 ?_
    refine lv_iload_n hx hb dX10_row_23 rfl (lv_at hl 1 rfl) ?_
    refine mo_lr hx hb hK hal hW 31 (n := 64) (by decide) (by omega) dX10_row_24 ?_
    refine lv_goto (tgt := 32) hx hb dX10_row_25 (by decide) ?_
    exact o_iret hx hb hr hlocks hW hS (⟨by simp only [aRow, ix_nI hiin (by omega), nx_nI (j := iin) (by omega), eq_self, ↓reduceIte, Bool.false_eq_true]; exact hR _ hiin, hI.pub hR, by rw [uI_s]; simp only [tRow, ix_nI hiin (by omega), nx_nI (j := iin) (by omega), eq_self, ↓reduceIte, Bool.false_eq_true]; rfl⟩) dX10_row_32
