theorem n_half0 : ∀ n : Fin 40, nI n.1 >>> (nI 1 &&& 31) = nI (n.1 / 2) := by decide +kernel
theorem n_half {n : Nat} (h : n ≤ 39) : nI n >>> (nI 1 &&& 31) = nI (n / 2) := n_half0 ⟨n, by omega⟩
set_option maxHeartbeats 1000000 in
set_option maxRecDepth 100000 in
theorem c_Jx4a65c_grow_92f84 (l : Launch) (D : va_G) (cA : Nat → ClassId) (B0 : Nat) (ad : kA) (hal : mAl ad) (d0 : kD) (j n kd ci N : Nat) {C : String} {T : u_T} {fs : Nat → List Value} (h4 : ad.1 4 j ≠ 0) (hdead : ad.1 28 0 = 0) (hfull : (n = 0 ∧ ad.2 4 j 1 = 0) ∨ (1 ≤ n ∧ ad.1 5 j ≠ 0 ∧ ad.2 4 j 1 = ad.1 5 j ∧ ad.2 5 j 100 = n)) (hn : n ≤ 39) (hel : ∀ i, i < n → ad.2 5 j i = ad.1 kd i ∧ ad.1 kd i ≠ 0) (hkd : kd < 28) (hce : ∀ (a : kA), a.2 kd = ad.2 kd → ∀ i, kC cA a d0 kd i = some (.inr (ci, fs i))) (hcl : vwCl[ci]? = some (C, T, N)) (hca : Cond.castable C "java/lang/Object" ∈ nW) : oM l yJx4a65c_grow_92f84 wJx4a65c_grow_92f84 4 1 60 D cA B0 ad d0 ([.ref (ad.1 4 j), .int (nI (n + 1))] : List Value) (oQqA D cA B0 (fun r u => r = some (u.1.1 5 j) ∧ GrP ad j n u.1 ∧ u.2 = d0)) := by
  refine o_ofW (cc := cJx4a65c_grow_92f84) (maxL := 4) (ret := some (.array (.object "java/lang/Object"))) (by decide) rfl (Nat.le_of_ble_eq_true rfl) ?_
  intro p e s m below meth c hx hb hr hml hts hown hlocks hnm hK hW hB hS ls hl
  have hu : ∀ w ∈ UW, w.before _ s = true := fun w h => hts w (uw_c w h)
  have hl : lv_has ls 4 [(0, .ref (ad.1 4 j)), (1, .int (nI (n + 1)))] := hl
  refine lv_aload_n hx hb dJx4a65c_grow_92f84_0 rfl (lv_at hl 0 rfl) ?_
  rcases hfull with ⟨hn0, h0⟩ | ⟨hn1, h5, h45, hcap⟩
  · subst hn0
    refine x_gv hx hb hu in_Jx4a65c hown hK hW h4 (kX_4 _ _ _ _) rfl 1 (by decide) uF_Jx4a65c_9 dJx4a65c_grow_92f84_1 ?_
    refine W.eq (g2 := F0 m 4 ls [.ref (cA 100)]) (by show F0 m 4 ls [xV _ _ _ 3 1] = _; rw [xV_z rfl, if_pos h0]) ?_
    refine va_tlen hx hb hB.2.2.1 hS (v := nI 0) rfl dJx4a65c_grow_92f84_4 ?_
    refine lv_istore_n (lv' := [(2, .int (nI 0)), (0, .ref (ad.1 4 j)), (1, .int (nI 1))]) hx hb dJx4a65c_grow_92f84_5 rfl hl (by decide) rfl (fun ls hl => ?_)
    refine lv_iload_n hx hb dJx4a65c_grow_92f84_6 rfl (lv_at hl 0 rfl) ?_
    refine n_if_gt (tgt := 20) hx hb (by omega) dJx4a65c_grow_92f84_7 (by decide) (fun h => absurd h (by omega)) (fun _ => ?_)
    refine lv_aload_n hx hb dJx4a65c_grow_92f84_10 rfl (lv_at hl 1 rfl) ?_
    refine x_gv hx hb hu in_Jx4a65c hown hK hW h4 (kX_4 _ _ _ _) rfl 1 (by decide) uF_Jx4a65c_9 dJx4a65c_grow_92f84_11 ?_
    refine W.eq (g2 := F0 m 14 ls [.ref (cA 100)]) (by show F0 m 14 ls [xV _ _ _ 3 1] = _; rw [xV_z rfl, if_pos h0]) ?_
    refine va_gets hx hb hB.2.1 hS hown (hu _ uF_Jx4a65c_39) (fun _ h => h) dJx4a65c_grow_92f84_14 ?_
    refine lv_acmp_eq (rx := some (cA 100)) (ry := some (cA 100)) (tgt := 45) hx hb dJx4a65c_grow_92f84_17 (by decide) (fun _ => ?_) (fun h => absurd rfl h)
    refine lv_aload_n hx hb dJx4a65c_grow_92f84_45 rfl (lv_at hl 1 rfl) ?_
    refine n_bipush (v := 10) hx hb dJx4a65c_grow_92f84_46 (by decide) ?_
    refine lv_iload_n hx hb dJx4a65c_grow_92f84_48 rfl (lv_at hl 2 rfl) ?_
    refine va_mmax hx hb (hml.trans hl.1.symm) hown (hu _ uM_Jx4a65c_79) (hu _ uT_J9_max_7cf53) (hu _ uI_J9) (hu _ uC_J9_max_7cf53) (Nat.le_of_ble_eq_true rfl) (Nat.le_of_ble_eq_true rfl) (Nat.le_of_ble_eq_true rfl) (Nat.le_of_ble_eq_true rfl) dJx4a65c_grow_92f84_49 ?_
    refine n_topi (y := nI 10) (by decide) ?_
    refine x_newq hx hb hu hown uL_Jx4a65c_7 hK hW hS hB hdead (n := 10) (by decide) ⟨Nat.le_of_ble_eq_true rfl, Nat.le_of_ble_eq_true rfl⟩ dJx4a65c_grow_92f84_52 (fun q H1 hq hW1 hS1 => ?_)
    generalize had : ad1 (adR ad 28 0 (fun f => if f = 100 then 10 else 0)) 28 0 q = ad' at hW1
    have e28 : ad'.1 28 0 = q := by rw [← had]; exact ad1_s _ _ _ _
    have e1 : ∀ k i, ¬ (k = 28 ∧ i = 0) → ad'.1 k i = ad.1 k i := fun k i h => by rw [← had]; exact ad1_n _ _ h
    have e2 : ∀ k i, ¬ (k = 28 ∧ i = 0) → ad'.2 k i = ad.2 k i := fun k i h => by rw [← had]; exact adR_n ad _ h
    have e3 : ad'.2 28 0 = fun f => if f = 100 then 10 else 0 := by rw [← had]; exact adR_s ad 28 0 (fun f => if f = 100 then 10 else 0)
    refine lv_dup_x1 hx hb dJx4a65c_grow_92f84_55 rfl rfl ?_
    refine W.eq (g2 := F0 m 56 ls [.ref q, .ref (ad'.1 4 j), .ref q]) (by rw [e1 4 j (by omega)]) ?_
    refine x_putF hx hb hu in_Jx4a65c tyJx4a65c tyJx4a65c_ok nmJx4a65c hown hK hW1 hS1 (ad' := ad2 ad' 4 j 1 q) (d' := d0) rfl (k := 4) (i := j) (by rw [e1 4 j (by omega)]; exact h4) rfl 1 (kX_4 _ _ _ _) (by rw [kX_4]; show some (Sum.inr (0, xO (fun f => if up3 ad'.2 4 j 1 q 4 j f = 0 then cA 100 else up3 ad'.2 4 j 1 q 4 j f) _ _ _)) = _; rw [up3_same, xO_setZ (by decide) hq]) (fun k1 i1 h1 => kC_adX (by decide) k1 i1 h1) (by decide) uF_Jx4a65c_9 (Or.inl (by decide +kernel)) (ty := .array (.object "java/lang/Object")) (by decide +kernel) rfl rfl (by rw [xO_len]; decide) dJx4a65c_grow_92f84_56 (fun H2 locs2 hW2 hS2 => ?_)
    refine W.widen (k := 1) (n := 60) (by decide) (by decide) ?_
    exact o_qretA (r := some q) rfl hx hb hr hlocks (Or.inr ⟨_, rfl⟩) (hW2.rk j) hS2 ⟨by rw [show (rk (ad2 ad' 4 j 1 q) j, d0).1.1 5 j = q by show (if (5 : Nat) = 28 ∧ j = 0 then 0 else if 5 = 5 ∧ j = j then ad'.1 28 0 else ad'.1 5 j) = q; rw [if_neg (by omega), if_pos ⟨rfl, rfl⟩, e28]], GrP.of hdead hq e1 e28 e2 (by rw [e3]; decide) (fun f hf => absurd hf (Nat.not_lt_zero _)), rfl⟩ dJx4a65c_grow_92f84_59
  · refine x_gz hx hb hu in_Jx4a65c hown hK hW h4 (kX_4 _ _ _ _) rfl 1 (by decide) uF_Jx4a65c_9 ⟨h45, h5⟩ dJx4a65c_grow_92f84_1 ?_
    refine x_len hx hb hK hW h5 3 (kX_5 _ _ _ _) rfl dJx4a65c_grow_92f84_4 ?_
    refine n_topi (y := nI n) (by show nI (ad.2 5 j 100) = _; rw [hcap]) ?_
    refine lv_istore_n (lv' := [(2, .int (nI n)), (0, .ref (ad.1 4 j)), (1, .int (nI (n + 1)))]) hx hb dJx4a65c_grow_92f84_5 rfl hl (by decide) rfl (fun ls hl => ?_)
    refine lv_iload_n hx hb dJx4a65c_grow_92f84_6 rfl (lv_at hl 0 rfl) ?_
    refine n_if_gt (tgt := 20) hx hb (by omega) dJx4a65c_grow_92f84_7 (by decide) (fun _ => ?_) (fun h => absurd h (by omega))
    refine lv_iload_n hx hb dJx4a65c_grow_92f84_20 rfl (lv_at hl 0 rfl) ?_
    refine lv_iload_n hx hb dJx4a65c_grow_92f84_21 rfl (lv_at hl 2 rfl) ?_
    refine lv_iload_n hx hb dJx4a65c_grow_92f84_22 rfl (lv_at hl 0 rfl) ?_
    refine n_isub hx hb (by omega) dJx4a65c_grow_92f84_23 ?_
    refine n_topi (y := nI 1) (by congr 1; omega) ?_
    refine lv_iload_n hx hb dJx4a65c_grow_92f84_24 rfl (lv_at hl 0 rfl) ?_
    refine n_iconst (v := 1) hx hb dJx4a65c_grow_92f84_25 (by decide) ?_
    refine lv_ishr hx hb dJx4a65c_grow_92f84_26 ?_
    refine n_topi (y := nI (n / 2)) (n_half hn) ?_
    have hN2 : n + 1 ≤ n + max 1 (n / 2) ∧ n + max 1 (n / 2) ≤ 60 := by omega
    refine o_calli (o_runS (As := [.int (nI n), .int (nI 1), .int (nI (n / 2))]) (rest := []) ⟨hx, hb, hml, hown, hu⟩ (c_J8_newLength_cabcc l D cA B0 ad hal d0 n 1 (n / 2) (by omega) (by omega) (by omega)) (gS_Jx4a65c_73 (fun _ h => h)) (n0 := 3) rfl (by decide +kernel) rfl ⟨Nat.le_of_ble_eq_true rfl, Nat.le_of_ble_eq_true rfl⟩ hK hW hB hS hl.1 rfl (lv_room (Nat.le_of_ble_eq_true rfl)) ⟨Nat.zero_le _, Nat.zero_le _⟩ dJx4a65c_grow_92f84_27) hS (fun r d1 hp H1 locs1 hW hS => ?_)
    obtain ⟨rfl, rfl⟩ := hp
    refine lv_istore_n (lv' := [(3, .int (nI (n + max 1 (n / 2)))), (2, .int (nI n)), (0, .ref (ad.1 4 j)), (1, .int (nI (n + 1)))]) hx hb dJx4a65c_grow_92f84_30 rfl hl (by decide) rfl (fun ls hl => ?_)
    refine lv_aload_n hx hb dJx4a65c_grow_92f84_31 rfl (lv_at hl 2 rfl) ?_
    refine lv_aload_n hx hb dJx4a65c_grow_92f84_32 rfl (lv_at hl 2 rfl) ?_
    refine x_gz hx hb hu in_Jx4a65c hown hK hW h4 (kX_4 _ _ _ _) rfl 1 (by decide) uF_Jx4a65c_9 ⟨h45, h5⟩ dJx4a65c_grow_92f84_33 ?_
    refine lv_iload_n hx hb dJx4a65c_grow_92f84_36 rfl (lv_at hl 0 rfl) ?_
    refine o_callqA (o_runS (As := [.ref (ad.1 5 j), .int (nI (n + max 1 (n / 2)))]) (rest := [.ref (ad.1 4 j)]) ⟨hx, hb, hml, hown, hu⟩ (c_J7_copyOf_1904c l D cA B0 ad d0 j (n + max 1 (n / 2)) kd ci N h5 hdead (by omega) (by omega) (by rw [hcap]; exact hel) hkd hce hcl hca) (gS_Jx4a65c_66 (fun _ h => h)) (n0 := 2) rfl (by decide +kernel) rfl ⟨Nat.le_of_ble_eq_true rfl, Nat.le_of_ble_eq_true rfl⟩ hK hW hB hS hl.1 rfl (lv_room (Nat.le_of_ble_eq_true rfl)) ⟨by simp [oR], by simp [oR]; omega⟩ dJx4a65c_grow_92f84_37) hS (fun r u hp H2 locs2 hW1 hS1 => ?_)
    obtain ⟨q, rfl, ⟨hq, c1, e2, c3, c4⟩, c5⟩ := hp
    obtain ⟨ad', d'⟩ := u
    simp only at c1 e2 c3 c4 c5 hW1
    subst c5
    have e28 : ad'.1 28 0 = q := by rw [c1]; exact ad1_s _ _ _ _
    have e1 : ∀ k i, ¬ (k = 28 ∧ i = 0) → ad'.1 k i = ad.1 k i := fun k i h => by rw [c1]; exact ad1_n _ _ h
    refine lv_dup_x1 hx hb dJx4a65c_grow_92f84_40 rfl rfl ?_
    refine W.eq (g2 := F0 m 41 ls [.ref q, .ref (ad'.1 4 j), .ref q]) (by rw [e1 4 j (by omega)]; rfl) ?_
    refine x_putF hx hb hu in_Jx4a65c tyJx4a65c tyJx4a65c_ok nmJx4a65c hown hK hW1 hS1 (ad' := ad2 ad' 4 j 1 q) (d' := d') rfl (k := 4) (i := j) (by rw [e1 4 j (by omega)]; exact h4) rfl 1 (kX_4 _ _ _ _) (by rw [kX_4]; show some (Sum.inr (0, xO (fun f => if up3 ad'.2 4 j 1 q 4 j f = 0 then cA 100 else up3 ad'.2 4 j 1 q 4 j f) _ _ _)) = _; rw [up3_same, xO_setZ (by decide) hq]) (fun k1 i1 h1 => kC_adX (by decide) k1 i1 h1) (by decide) uF_Jx4a65c_9 (Or.inl (by decide +kernel)) (ty := .array (.object "java/lang/Object")) (by decide +kernel) rfl rfl (by rw [xO_len]; decide) dJx4a65c_grow_92f84_41 (fun H3 locs3 hW2 hS2 => ?_)
    refine W.widen (k := 1) (n := 60) (by decide) (by omega) ?_
    exact o_qretA (r := some q) rfl hx hb hr hlocks (Or.inr ⟨_, rfl⟩) (hW2.rk j) hS2 ⟨by rw [show (rk (ad2 ad' 4 j 1 q) j, d').1.1 5 j = q by show (if (5 : Nat) = 28 ∧ j = 0 then 0 else if 5 = 5 ∧ j = j then ad'.1 28 0 else ad'.1 5 j) = q; rw [if_neg (by omega), if_pos ⟨rfl, rfl⟩, e28]], GrP.of hdead hq e1 e28 e2 (by rw [c3]; exact hN2) (fun f hf => c4 f (by rw [hcap]; exact hf)), rfl⟩ dJx4a65c_grow_92f84_44
