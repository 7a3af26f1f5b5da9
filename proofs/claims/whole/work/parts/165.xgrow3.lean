set_option maxHeartbeats 400000 in
set_option maxRecDepth 100000 in
theorem c_Jx4a65c_grow_d5877 (l : Launch) (D : va_G) (cA : Nat → ClassId) (B0 : Nat) (ad : kA) (hal : mAl ad) (d0 : kD) (j n kd ci N : Nat) {C : String} {T : u_T} {fs : Nat → List Value} (h4 : ad.1 4 j ≠ 0) (hdead : ad.1 28 0 = 0) (hfull : (n = 0 ∧ ad.2 4 j 1 = 0) ∨ (1 ≤ n ∧ ad.1 5 j ≠ 0 ∧ ad.2 4 j 1 = ad.1 5 j ∧ ad.2 5 j 100 = n)) (hn : n ≤ 39) (hel : ∀ i, i < n → ad.2 5 j i = ad.1 kd i ∧ ad.1 kd i ≠ 0) (hkd : kd < 28) (hce : ∀ (a : kA), a.2 kd = ad.2 kd → ∀ i, kC cA a d0 kd i = some (.inr (ci, fs i))) (hcl : vwCl[ci]? = some (C, T, N)) (hca : Cond.castable C "java/lang/Object" ∈ nW) (hsz : d0.1 4 j 2 = nI n) : oM l yJx4a65c_grow_d5877 wJx4a65c_grow_d5877 5 1 60 D cA B0 ad d0 ([.ref (ad.1 4 j)] : List Value) (oQqA D cA B0 (fun r u => r = some (u.1.1 5 j) ∧ GrP ad j n u.1 ∧ u.2 = d0)) := by
  refine o_ofW (cc := cJx4a65c_grow_d5877) (maxL := 1) (ret := some (.array (.object "java/lang/Object"))) (by decide) rfl (Nat.le_of_ble_eq_true rfl) ?_
  intro p e s m below meth c hx hb hr hml hts hown hlocks hnm hK hW hB hS ls hl
  have hu : ∀ w ∈ UW, w.before _ s = true := fun w h => hts w (uw_c w h)
  have hl : lv_has ls 1 [(0, .ref (ad.1 4 j))] := hl
  refine lv_aload_n hx hb dJx4a65c_grow_d5877_0 rfl (lv_at hl 0 rfl) ?_
  refine lv_aload_n hx hb dJx4a65c_grow_d5877_1 rfl (lv_at hl 0 rfl) ?_
  refine x_gi hx hb hu in_Jx4a65c hown hK hW h4 (kX_4 _ _ _ _) rfl 2 (by decide) uF_Jx4a65c_48 dJx4a65c_grow_d5877_2 ?_
  refine n_topi (y := nI n) hsz ?_
  refine n_iconst (v := 1) hx hb dJx4a65c_grow_d5877_5 (by decide) ?_
  refine n_iadd hx hb dJx4a65c_grow_d5877_6 ?_
  refine o_callqA (o_runV (As := [.int (nI (n + 1))]) (rest := []) ⟨hx, hb, hml, hown, hu⟩ (c_Jx4a65c_grow_92f84 l D cA B0 ad hal d0 j n kd ci N h4 hdead hfull hn hel hkd hce hcl hca) (gV_Jx4a65c_69 (fun _ h => h)) (n0 := 1) rfl (by decide +kernel) rfl ⟨Nat.le_of_ble_eq_true rfl, Nat.le_of_ble_eq_true rfl⟩ (o_recv hK hW h4 (kX_4 _ _ _ _) rfl) hK hW hB hS hl.1 rfl (lv_room (Nat.le_of_ble_eq_true rfl)) ⟨Nat.le_of_ble_eq_true rfl, Nat.le_of_ble_eq_true rfl⟩ dJx4a65c_grow_d5877_7) hS (fun r u hp H1 locs1 hW1 hS1 => ?_)
  refine W.widen (k := 1) (n := 60) (by decide) (by decide) ?_
  exact o_qretA (r := r) rfl hx hb hr hlocks (Or.inr ⟨_, rfl⟩) hW1 hS1 hp dJx4a65c_grow_d5877_10
