set_option maxHeartbeats 400000 in
set_option maxRecDepth 100000 in
theorem c_J8_newLength_cabcc (l : Launch) (D : va_G) (cA : Nat → ClassId) (B0 : Nat) (ad : kA) (hal : mAl ad) (d0 : kD) (na nb nc : Nat) (hna : na ≤ 100) (hnb : 1 ≤ nb ∧ nb ≤ 100) (hnc : nc ≤ 100) : oM l yJ8_newLength_cabcc wJ8_newLength_cabcc 2 0 0 D cA B0 ad d0 ([.int (nI na), .int (nI nb), .int (nI nc)] : List Value) (oQi D cA B0 ad (fun r d1 => r = nI (na + max nb nc) ∧ d0 = d1)) := by
  refine o_ofW (cc := cJ8_newLength_cabcc) (maxL := 4) (ret := some .int) (by decide) rfl (Nat.le_of_ble_eq_true rfl) ?_
  intro p e s m below meth c hx hb hr hml hts hown hlocks hnm hK hW hB hS ls hl
  have hu : ∀ w ∈ UW, w.before _ s = true := fun w h => hts w (uw_c w h)
  have hl : lv_has ls 4 [(0, .int (nI na)), (1, .int (nI nb)), (2, .int (nI nc))] := hl
  refine lv_iload_n hx hb dJ8_newLength_cabcc_0 rfl (lv_at hl 0 rfl) ?_
  refine lv_iload_n hx hb dJ8_newLength_cabcc_1 rfl (lv_at hl 1 rfl) ?_
  refine lv_iload_n hx hb dJ8_newLength_cabcc_2 rfl (lv_at hl 2 rfl) ?_
  refine va_mmax hx hb (hml.trans hl.1.symm) hown (hu _ uM_J8_194) (hu _ uT_J9_max_7cf53) (hu _ uI_J9) (hu _ uC_J9_max_7cf53) (Nat.le_of_ble_eq_true rfl) (Nat.le_of_ble_eq_true rfl) (Nat.le_of_ble_eq_true rfl) (Nat.le_of_ble_eq_true rfl) dJ8_newLength_cabcc_3 ?_
  refine n_topi (y := nI (max nb nc)) (n_max (by omega) (by omega)) ?_
  refine n_iadd hx hb dJ8_newLength_cabcc_6 ?_
  refine lv_istore_n (lv' := [(3, .int (nI (na + (max nb nc)))), (0, .int (nI na)), (1, .int (nI nb)), (2, .int (nI nc))]) hx hb dJ8_newLength_cabcc_7 rfl hl (by decide) rfl (fun ls hl => ?_)
  refine n_iconst (v := 0) hx hb dJ8_newLength_cabcc_8 (by decide) ?_
  refine lv_iload_n hx hb dJ8_newLength_cabcc_9 rfl (lv_at hl 0 rfl) ?_
  refine n_icmp_ge (tgt := 21) hx hb (by omega) (by omega) dJ8_newLength_cabcc_10 (by decide) (fun c_0 => ?_) (fun c_0 => ?_)
  · exfalso; omega
  · refine lv_iload_n hx hb dJ8_newLength_cabcc_13 rfl (lv_at hl 0 rfl) ?_
    refine lv_ldc (v := (2147483639)) hx hb hown (hu _ uK_J8_200) dJ8_newLength_cabcc_14 ?_
    refine lv_icmp_gt (tgt := 21) hx hb dJ8_newLength_cabcc_16 (by decide) (fun c_1 => ?_) (fun c_1 => ?_)
    · exact absurd c_1 (nl_big (by omega))
    · refine lv_iload_n hx hb dJ8_newLength_cabcc_19 rfl (lv_at hl 0 rfl) ?_
      exact o_iret hx hb hr hlocks hW hS (⟨rfl, rfl⟩) dJ8_newLength_cabcc_20
