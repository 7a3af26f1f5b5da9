set_option maxHeartbeats 400000 in
set_option maxRecDepth 100000 in
theorem c_X2_isKnown (l : Launch) (D : va_G) (cA : Nat → ClassId) (B0 : Nat) (ad : kA) (hal : mAl ad) (S : sS) (d0 : kD) (hX : XB cA ad S d0) (ll : Nat) (dd : Nat) (hll : ll < S 18 0) (hd : dd < 400) : oM l yX2_isKnown wX2_isKnown 1 0 0 D cA B0 ad d0 ([.ref (ad.1 8 ll), .int (nI dd)] : List Value) (oQi D cA B0 ad (fun r d1 => r = bI (sKn S ll dd) ∧ d0 = d1)) := by
  refine o_ofW (cc := cX2_isKnown) (maxL := 2) (ret := some .boolean) (by decide) rfl (Nat.le_of_ble_eq_true rfl) ?_
  intro p e s m below meth c hx hb hr hml hts hown hlocks hnm hK hW hB hS ls hl
  have hu : ∀ w ∈ UW, w.before _ s = true := fun w h => hts w (uw_c w h)
  have hl : lv_has ls 2 [(0, .ref (ad.1 8 ll)), (1, .int (nI dd))] := hl
  have hA := hX.1
  have hG := hX.2.2
  have hb7 : S 7 0 ≤ 8 := hG.f 7 (mx := 8) (by decide)
  have hb11 : S 11 0 ≤ 20 := hG.f 11 (mx := 20) (by decide)
  have hb18 : S 18 0 ≤ 40 := hG.f 18 (mx := 40) (by decide)
  refine lv_aload_n hx hb dX2_isKnown_0 rfl (lv_at hl 0 rfl) ?_
  refine x_gi hx hb hu in_X2 hown hK hW (hA.look (by omega)) (kX_8 _ _ _ _) rfl 4 (by decide) uF_X2_36 dX2_isKnown_1 ?_
  refine n_topi (y := nI (S 16 ll)) (hX.2.1.look (by omega) 4 (by decide)) ?_
  have b_1 : S 16 ll ≤ 399 := hG.a 16 ll (n := 40) (mx := 399) (by decide) (by omega)
  refine lv_iload_n hx hb dX2_isKnown_4 rfl (lv_at hl 1 rfl) ?_
  refine n_icmp_gt (tgt := 20) hx hb (by omega) (by omega) dX2_isKnown_5 (by decide) (fun c_2 => ?_) (fun c_2 => ?_)
  · refine n_iconst (v := 0) hx hb dX2_isKnown_20 (by decide) ?_
    exact o_zret hx hb hr hlocks (by first | rfl | exact z_bI _ | (split <;> first | rfl | (split <;> rfl))) hW hS (⟨by first | (rw [sKn_t (by omega) (by omega)]; rfl) | (rw [sKn_f (by omega)]; rfl), rfl⟩) dX2_isKnown_21
  · refine lv_iload_n hx hb dX2_isKnown_8 rfl (lv_at hl 1 rfl) ?_
    refine lv_aload_n hx hb dX2_isKnown_9 rfl (lv_at hl 0 rfl) ?_
    refine x_gi hx hb hu in_X2 hown hK hW (hA.look (by omega)) (kX_8 _ _ _ _) rfl 5 (by decide) uF_X2_9 dX2_isKnown_10 ?_
    refine n_topi (y := nI (S 17 ll)) (hX.2.1.look (by omega) 5 (by decide)) ?_
    have b_3 : S 17 ll ≤ 400 := hG.a 17 ll (n := 40) (mx := 400) (by decide) (by omega)
    refine n_icmp_ge (tgt := 20) hx hb (by omega) (by omega) dX2_isKnown_13 (by decide) (fun c_4 => ?_) (fun c_4 => ?_)
    · refine n_iconst (v := 0) hx hb dX2_isKnown_20 (by decide) ?_
      exact o_zret hx hb hr hlocks (by first | rfl | exact z_bI _ | (split <;> first | rfl | (split <;> rfl))) hW hS (⟨by first | (rw [sKn_t (by omega) (by omega)]; rfl) | (rw [sKn_f (by omega)]; rfl), rfl⟩) dX2_isKnown_21
    · refine n_iconst (v := 1) hx hb dX2_isKnown_16 (by decide) ?_
      refine lv_goto (tgt := 21) hx hb dX2_isKnown_17 (by decide) ?_
      exact o_zret hx hb hr hlocks (by first | rfl | exact z_bI _ | (split <;> first | rfl | (split <;> rfl))) hW hS (⟨by first | (rw [sKn_t (by omega) (by omega)]; rfl) | (rw [sKn_f (by omega)]; rfl), rfl⟩) dX2_isKnown_21

set_option maxHeartbeats 400000 in
set_option maxRecDepth 100000 in
theorem c_X2_barsKnown (l : Launch) (D : va_G) (cA : Nat → ClassId) (B0 : Nat) (ad : kA) (hal : mAl ad) (S : sS) (d0 : kD) (hX : XB cA ad S d0) (ll : Nat) (pp : Nat) (mm : Nat) (dd : Nat) (x : Int64) (hll : ll < S 18 0) (hp : pp < S 7 0) (hm : mm < 64) (hd : dd < 400) (hbx : d0.2.1 8 ll 7 = x) : oM l yX2_barsKnown wX2_barsKnown 2 0 0 D cA B0 ad d0 ([.ref (ad.1 8 ll), .ref (ad.1 6 pp), .int (nI mm), .int (nI dd)] : List Value) (oQi D cA B0 ad (fun r d1 => r = bI (bKn S pp ll mm dd x) ∧ d0 = d1)) := by
  refine o_ofW (cc := cX2_barsKnown) (maxL := 4) (ret := some .boolean) (by decide) rfl (Nat.le_of_ble_eq_true rfl) ?_
  intro p e s m below meth c hx hb hr hml hts hown hlocks hnm hK hW hB hS ls hl
  have hu : ∀ w ∈ UW, w.before _ s = true := fun w h => hts w (uw_c w h)
  have hl : lv_has ls 4 [(0, .ref (ad.1 8 ll)), (1, .ref (ad.1 6 pp)), (2, .int (nI mm)), (3, .int (nI dd))] := hl
  have hA := hX.1
  have hG := hX.2.2
  have hb7 : S 7 0 ≤ 8 := hG.f 7 (mx := 8) (by decide)
  have hb11 : S 11 0 ≤ 20 := hG.f 11 (mx := 20) (by decide)
  have hb18 : S 18 0 ≤ 40 := hG.f 18 (mx := 40) (by decide)
  have hlp : S 12 ll < S 7 0 := hG.2.2.2.2.1 ll hll
  refine lv_aload_n hx hb dX2_barsKnown_0 rfl (lv_at hl 0 rfl) ?_
  refine x_gr hx hb hu in_X2 hown hK hW (hA.look (by omega)) (kX_8 _ _ _ _) rfl 0 (by decide) uF_X2_23 (hA.lp (by omega) (by omega)) dX2_barsKnown_1 ?_
  refine lv_aload_n hx hb dX2_barsKnown_4 rfl (lv_at hl 1 rfl) ?_
  refine lv_acmp_ne (rx := some (ad.1 6 (S 12 ll))) (ry := some (ad.1 6 pp)) (tgt := 31) hx hb dX2_barsKnown_5 (by decide) (fun c_a => ?_) (fun c_a => ?_)
  · have hno : bKn S pp ll mm dd x = false := decide_eq_false (fun q => c_a (by rw [q.1]))
    refine n_iconst (v := 0) hx hb dX2_barsKnown_31 (by decide) ?_
    exact o_zret hx hb hr hlocks (by first | rfl | exact z_bI _ | (split <;> first | rfl | (split <;> rfl))) hW hS (⟨by rw [hno]; rfl, rfl⟩) dX2_barsKnown_32
  · have hpe : S 12 ll = pp := (hW.2.1 _ _ _ _ (hA.pier hlp) (Option.some.inj c_a)).2
    refine lv_aload_n hx hb dX2_barsKnown_8 rfl (lv_at hl 0 rfl) ?_
    refine lv_iload_n hx hb dX2_barsKnown_9 rfl (lv_at hl 3 rfl) ?_
    refine o_calli (o_runV (As := [.int (nI dd)]) (rest := []) ⟨hx, hb, hml, hown, hu⟩ (c_X2_isKnown l D cA B0 ad hal S d0 hX ll dd (by omega) (by omega)) (gV_X2_39 (fun _ h => h)) (n0 := 1) rfl (by decide +kernel) rfl ⟨Nat.le_of_ble_eq_true rfl, Nat.le_of_ble_eq_true rfl⟩ (o_recv hK hW (hA.look (by omega)) (kX_8 _ _ _ _) rfl) hK hW hB hS hl.1 rfl (lv_room (Nat.le_of_ble_eq_true rfl)) ⟨Nat.zero_le _, Nat.zero_le _⟩ dX2_barsKnown_10) hS (fun r_2 d_1 q_3 H locs hW hS => ?_)
    obtain ⟨rfl, rfl⟩ := q_3
    refine lv_if_eq (tgt := 31) hx hb dX2_barsKnown_13 (by decide) (fun c_b => ?_) (fun c_b => ?_)
    · have hno : bKn S pp ll mm dd x = false := decide_eq_false (fun q => by have z := bI_z c_b; rw [q.2.1] at z; cases z)
      refine n_iconst (v := 0) hx hb dX2_barsKnown_31 (by decide) ?_
      exact o_zret hx hb hr hlocks (by first | rfl | exact z_bI _ | (split <;> first | rfl | (split <;> rfl))) hW hS (⟨by rw [hno]; rfl, rfl⟩) dX2_barsKnown_32
    · refine lv_aload_n hx hb dX2_barsKnown_16 rfl (lv_at hl 0 rfl) ?_
      refine x_gl hx hb hu in_X2 hown hK hW (hA.look (by omega)) (kX_8 _ _ _ _) rfl 7 (by decide) uF_X2_19 dX2_barsKnown_17 ?_
      refine n_topl (y := x) (hbx) ?_
      refine lv_iload_n hx hb dX2_barsKnown_20 rfl (lv_at hl 2 rfl) ?_
      refine o_calli (o_runSN (As := [.long x, .int (nI mm)]) (rest := []) ⟨hx, hb, hml, hown, hu⟩ (c_X9_holds l D cA B0 ad hal d0 x mm (by omega)) uC_X9_holds uT_X9_holds uI_X9 uMN_X2_43 (n0 := 2) (by decide +kernel) rfl ⟨Nat.le_of_ble_eq_true rfl, Nat.le_of_ble_eq_true rfl⟩ hK hW hB hS hl.1 rfl (lv_room (Nat.le_of_ble_eq_true rfl)) ⟨Nat.zero_le _, Nat.zero_le _⟩ dX2_barsKnown_21) hS (fun r_5 d_4 q_6 H locs hW hS => ?_)
      obtain ⟨rfl, rfl⟩ := q_6
      refine lv_if_eq (tgt := 31) hx hb dX2_barsKnown_24 (by decide) (fun c_c => ?_) (fun c_c => ?_)
      · have hno : bKn S pp ll mm dd x = false := decide_eq_false (fun q => by have z := bI_z c_c; rw [q.2.2] at z; cases z)
        refine n_iconst (v := 0) hx hb dX2_barsKnown_31 (by decide) ?_
        exact o_zret hx hb hr hlocks (by first | rfl | exact z_bI _ | (split <;> first | rfl | (split <;> rfl))) hW hS (⟨by rw [hno]; rfl, rfl⟩) dX2_barsKnown_32
      · have hno : bKn S pp ll mm dd x = true := decide_eq_true ⟨hpe, bI_n c_b, bI_n c_c⟩
        refine n_iconst (v := 1) hx hb dX2_barsKnown_27 (by decide) ?_
        refine lv_goto (tgt := 32) hx hb dX2_barsKnown_28 (by decide) ?_
        exact o_zret hx hb hr hlocks (by first | rfl | exact z_bI _ | (split <;> first | rfl | (split <;> rfl))) hW hS (⟨by rw [hno]; rfl, rfl⟩) dX2_barsKnown_32

set_option maxHeartbeats 400000 in
set_option maxRecDepth 100000 in
theorem c_X2_freshen (l : Launch) (D : va_G) (cA : Nat → ClassId) (B0 : Nat) (ad : kA) (hal : mAl ad) (S : sS) (d0 : kD) (hM : InvX cA ad S d0) (ll : Nat) (hll : ll < S 18 0) : oM l yX2_freshen wX2_freshen 4 0 0 D cA B0 ad d0 ([.ref (ad.1 8 ll)] : List Value) (oQv D cA B0 ad (fun d1 => XK cA ad S d0 d1 ∧ d1.1 8 ll 6 = 1 ∧ d1.2.1 8 ll 7 = sBars S ll ∧ F8 ll d0 d1)) := by
  refine o_ofW (cc := cX2_freshen) (maxL := 2) (ret := none) (by decide) rfl (Nat.le_of_ble_eq_true rfl) ?_
  intro p e s m below meth c hx hb hr hml hts hown hlocks hnm hK hW hB hS ls hl
  have hu : ∀ w ∈ UW, w.before _ s = true := fun w h => hts w (uw_c w h)
  have hl : lv_has ls 2 [(0, .ref (ad.1 8 ll))] := hl
  have hX := hM.1
  have hA := hX.1
  have hG := hX.2.2
  have hb7 : S 7 0 ≤ 8 := hG.f 7 (mx := 8) (by decide)
  have hb11 : S 11 0 ≤ 20 := hG.f 11 (mx := 20) (by decide)
  have hb18 : S 18 0 ≤ 40 := hG.f 18 (mx := 40) (by decide)
  have hlp : S 12 ll < S 7 0 := hG.2.2.2.2.1 ll hll
  have hI : XW cA ad S d0 d0 := XW.start hM
  refine lv_aload_n hx hb dX2_freshen_0 rfl (lv_at hl 0 rfl) ?_
  refine x_gi hx hb hu in_X2 hown hK hW (hA.look (by omega)) (kX_8 _ _ _ _) rfl 6 (by decide) uF_X2_15 dX2_freshen_1 ?_
  refine lv_if_eq (tgt := 8) hx hb dX2_freshen_4 (by decide) (fun c_f => ?_) (fun c_f => ?_)
  · refine lv_aload_n hx hb dX2_freshen_8 rfl (lv_at hl 0 rfl) ?_
    refine x_gr hx hb hu in_X2 hown hK hW (hA.look (by omega)) (kX_8 _ _ _ _) rfl 0 (by decide) uF_X2_23 (hA.lp (by omega) (by omega)) dX2_freshen_9 ?_
    refine lv_aload_n hx hb dX2_freshen_12 rfl (lv_at hl 0 rfl) ?_
    refine x_gi hx hb hu in_X2 hown hK hW (hA.look (by omega)) (kX_8 _ _ _ _) rfl 1 (by decide) uF_X2_27 dX2_freshen_13 ?_
    refine n_topi (y := nI (S 13 ll)) (hI.1.1.2.1.look (by omega) 1 (by decide)) ?_
    have b_1 : S 13 ll ≤ 399 := hG.a 13 ll (n := 40) (mx := 399) (by decide) (by omega)
    refine o_callv (o_runV (As := [.int (nI (S 13 ll))]) (rest := []) ⟨hx, hb, hml, hown, hu⟩ (c_X5_goTo l D cA B0 ad hal S d0 hI.1 (S 12 ll) (S 13 ll) hlp (by omega)) (gV_X2_47 (fun _ h => h)) (n0 := 1) rfl (by decide +kernel) rfl ⟨Nat.le_of_ble_eq_true rfl, Nat.le_of_ble_eq_true rfl⟩ (o_recv hK hW (hA.pier (by omega)) (kX_6 _ _ _ _) rfl) hK hW hB hS hl.1 rfl (lv_room (Nat.le_of_ble_eq_true rfl)) ⟨Nat.zero_le _, Nat.zero_le _⟩ dX2_freshen_16) hS (fun dG q_3 H locs hW hS => ?_)
    obtain ⟨hq, hat, hF1⟩ := q_3
    have hI := hI.trans hq
    refine lv_aload_n hx hb dX2_freshen_19 rfl (lv_at hl 0 rfl) ?_
    refine lv_lconst (v := 0) hx hb dX2_freshen_20 (by decide) ?_
    refine x_pl hx hb hu in_X2 tyX2 tyX2_ok nmX2 hown hK hW hS (hA.look (by omega)) (kJ_8 _ _ _ _) rfl 7 (by decide +kernel) uF_X2_19 dX2_freshen_21 (fun H locs hW hS => ?_)
    have hFB := FB.start (S := S) (l := ll) dG
    refine n_iconst (v := 0) hx hb dX2_freshen_24 (by decide) ?_
    refine lv_istore_n (lv' := [(1, .int (nI 0)), (0, .ref (ad.1 8 ll))]) hx hb dX2_freshen_25 rfl hl (by decide) rfl (fun ls hl => ?_)
    have lp26 : ∀ (n : Nat) (k : Nat)  (d : kD) (H : Heap) (locs : List Loc) (ls : Array Slot), 64 - k < n → (k ≤ 64) → (FB S ll k dG d) → oW D cA B0 ad d H → va_S (oA B0) s.heap H locs → lv_has ls 2 [(0, .ref (ad.1 8 ll)), (1, .int (nI k))] → W p l e (oR 4 0 0) s m ([.ref (ad.1 8 ll)] : List Value).toArray below meth c H locs 0 0 (MQ below (oQv D cA B0 ad (fun d1 => XK cA ad S d0 d1 ∧ d1.1 8 ll 6 = 1 ∧ d1.2.1 8 ll 7 = sBars S ll ∧ F8 ll d0 d1)) ([.ref (ad.1 8 ll)] : List Value).toArray s 0 0 (oA B0)) (F0 m 26 ls []) := by
      intro n
      induction n with
      | zero => intro k  d H locs ls hmu; exact absurd hmu (Nat.not_lt_zero _)
      | succ n ih_lp26 =>
        intro k  d H locs ls hmu hk hFB hW hS hl
        refine lv_iload_n hx hb dX2_freshen_26 rfl (lv_at hl 1 rfl) ?_
        refine n_bipush (v := 64) hx hb dX2_freshen_27 (by decide) ?_
        refine n_icmp_ge (tgt := 73) hx hb (by omega) (by omega) dX2_freshen_29 (by decide) (fun c_4 => ?_) (fun c_4 => ?_)
        · refine lv_aload_n hx hb dX2_freshen_73 rfl (lv_at hl 0 rfl) ?_
          refine n_iconst (v := 1) hx hb dX2_freshen_74 (by decide) ?_
          refine x_pi hx hb hu in_X2 tyX2 tyX2_ok nmX2 hown hK hW hS (hA.look (by omega)) (kI_8 _ _ _ _) rfl 6 (ty := .boolean) (by decide +kernel) uF_X2_15 ⟨rfl, rfl⟩ dX2_freshen_75 (fun H locs hW hS => ?_)
          obtain ⟨e1, e2, e3, e4⟩ := FB.end ((show k = 64 by omega) ▸ hFB) hI.1 hF1
          exact o_vret hx hb hr hlocks hW hS (⟨⟨e1, e4.k⟩, e2, e3, e4⟩) dX2_freshen_78
        · refine lv_aload_n hx hb dX2_freshen_32 rfl (lv_at hl 0 rfl) ?_
          refine x_gr hx hb hu in_X2 hown hK hW (hA.look (by omega)) (kX_8 _ _ _ _) rfl 0 (by decide) uF_X2_23 (hA.lp (by omega) (by omega)) dX2_freshen_33 ?_
          refine lv_iload_n hx hb dX2_freshen_36 rfl (lv_at hl 1 rfl) ?_
          refine o_calli (o_runV (As := [.int (nI k)]) (rest := []) ⟨hx, hb, hml, hown, hu⟩ (c_X5_holeBy l D cA B0 ad hal S d (⟨hX.1, (hI.1.1.2.1.fr hFB.f8.k.kx), hX.2.2⟩) (S 12 ll) k (S 13 ll + 1) hlp (by omega) (⟨by rw [hFB.1]; exact hat.1, fun m hm => by rw [hFB.1]; exact hat.2 m hm⟩)) (gV_X2_53 (fun _ h => h)) (n0 := 1) rfl (by decide +kernel) rfl ⟨Nat.le_of_ble_eq_true rfl, Nat.le_of_ble_eq_true rfl⟩ (o_recv hK hW (hA.pier (by omega)) (kX_6 _ _ _ _) rfl) hK hW hB hS hl.1 rfl (lv_room (Nat.le_of_ble_eq_true rfl)) ⟨Nat.zero_le _, Nat.zero_le _⟩ dX2_freshen_37) hS (fun r_6 d_5 q_7 H locs hW hS => ?_)
          obtain ⟨rfl, rfl⟩ := q_7
          have hho := (sHE_le hG (p := S 12 ll) (m := k) (by omega) (S 13 ll + 1)).1
          refine lv_aload_n hx hb dX2_freshen_40 rfl (lv_at hl 0 rfl) ?_
          refine x_gi hx hb hu in_X2 hown hK hW (hA.look (by omega)) (kX_8 _ _ _ _) rfl 2 (by decide) uF_X2_30 dX2_freshen_41 ?_
          refine n_topi (y := nI (S 14 ll)) ((hI.1.1.2.1.fr hFB.f8.k.kx).look (by omega) 2 (by decide)) ?_
          have b_8 : S 14 ll ≤ 200 := hG.a 14 ll (n := 40) (mx := 200) (by decide) (by omega)
          refine lv_isub hx hb dX2_freshen_44 ?_
          refine va_mabs hx hb (hml.trans hl.1.symm) hown (hu _ uM_X2_57) (hu _ uT_J9_abs_0f7a4) (hu _ uI_J9) (hu _ uC_J9_abs_0f7a4) (Nat.le_of_ble_eq_true rfl) (Nat.le_of_ble_eq_true rfl) (Nat.le_of_ble_eq_true rfl) (Nat.le_of_ble_eq_true rfl) dX2_freshen_45 ?_
          refine n_topi (y := nI ((sHE S (S 12 ll) k (S 13 ll + 1)).1 - S 14 ll + (S 14 ll - (sHE S (S 12 ll) k (S 13 ll + 1)).1))) (n_abs (by omega) (by omega)) ?_
          refine lv_aload_n hx hb dX2_freshen_48 rfl (lv_at hl 0 rfl) ?_
          refine x_gi hx hb hu in_X2 hown hK hW (hA.look (by omega)) (kX_8 _ _ _ _) rfl 3 (by decide) uF_X2_33 dX2_freshen_49 ?_
          refine n_topi (y := nI (S 15 ll)) ((hI.1.1.2.1.fr hFB.f8.k.kx).look (by omega) 3 (by decide)) ?_
          have b_9 : S 15 ll ≤ 50 := hG.a 15 ll (n := 40) (mx := 50) (by decide) (by omega)
          refine n_icmp_le (tgt := 67) hx hb (by omega) (by omega) dX2_freshen_52 (by decide) (fun c_2 => ?_) (fun c_2 => ?_)
          · have hst : sBits (sBar S ll) (k + 1) = sBits (sBar S ll) k := by rw [sBits, if_neg (show ¬ sBar S ll k = true from fun q => absurd (of_decide_eq_true q) (by show ¬ S 15 ll < (sHE S (S 12 ll) k (S 13 ll + 1)).1 - S 14 ll + (S 14 ll - (sHE S (S 12 ll) k (S 13 ll + 1)).1); omega))]
            refine n_iinc (q := 1) (lv' := [(1, .int (nI (k + 1))), (0, .ref (ad.1 8 ll))]) hx hb dX2_freshen_67 hl (k := 1) rfl (by decide) (by decide) rfl (fun ls hl => ?_)
            refine lv_goto (tgt := 26) hx hb dX2_freshen_70 (by decide) ?_
            exact ih_lp26 (k + 1) d _ _ ls (by omega) (by omega) (by first | exact hFB | (exact ⟨hFB.1, hFB.2.1, hFB.2.2.1, hFB.2.2.2.trans hst.symm⟩)) hW hS (lv_sub hl [1, 0] rfl)
          · have hst : sBits (sBar S ll) (k + 1) = sBits (sBar S ll) k ||| lsl 1 k := by rw [sBits, if_pos (show sBar S ll k = true from decide_eq_true (by show S 15 ll < (sHE S (S 12 ll) k (S 13 ll + 1)).1 - S 14 ll + (S 14 ll - (sHE S (S 12 ll) k (S 13 ll + 1)).1); omega))]
            refine lv_aload_n hx hb dX2_freshen_55 rfl (lv_at hl 0 rfl) ?_
            refine lv_dup hx hb dX2_freshen_56 rfl ?_
            refine x_gl hx hb hu in_X2 hown hK hW (hA.look (by omega)) (kX_8 _ _ _ _) rfl 7 (by decide) uF_X2_19 dX2_freshen_57 ?_
            refine n_topl (y := sBits (sBar S ll) k) (hFB.2.2.2) ?_
            refine lv_lconst (v := 1) hx hb dX2_freshen_60 (by decide) ?_
            refine lv_iload_n hx hb dX2_freshen_61 rfl (lv_at hl 1 rfl) ?_
            refine lv_lshl (v := lsl 1 k) hx hb dX2_freshen_62 rfl ?_
            refine lv_lor hx hb dX2_freshen_63 ?_
            refine x_pl hx hb hu in_X2 tyX2 tyX2_ok nmX2 hown hK hW hS (hA.look (by omega)) (kJ_8 _ _ _ _) rfl 7 (by decide +kernel) uF_X2_19 dX2_freshen_64 (fun H locs hW hS => ?_)
            have hFB := hFB.set hst.symm
            refine n_iinc (q := 1) (lv' := [(1, .int (nI (k + 1))), (0, .ref (ad.1 8 ll))]) hx hb dX2_freshen_67 hl (k := 1) rfl (by decide) (by decide) rfl (fun ls hl => ?_)
            refine lv_goto (tgt := 26) hx hb dX2_freshen_70 (by decide) ?_
            exact ih_lp26 (k + 1) (uJ d 8 ll 7 ((sBits (sBar S ll) k) ||| (lsl 1 k))) _ _ ls (by omega) (by omega) (by first | exact hFB | (exact ⟨hFB.1, hFB.2.1, hFB.2.2.1, hFB.2.2.2.trans hst.symm⟩)) hW hS (lv_sub hl [1, 0] rfl)
    exact lp26 (65) 0 (uJ dG 8 ll 7 0) _ _ ls (by omega) (by omega) hFB hW hS (lv_sub hl [1, 0] rfl)
  · have hlk : d0.1 8 ll 6 = 1 ∧ d0.2.1 8 ll 7 = sBars S ll := (hM.2.2.1 ll hll).resolve_left c_f
    exact o_vret hx hb hr hlocks hW hS (⟨XK.start hM, hlk.1, hlk.2, F8.of1 (F1.refl 0 d0)⟩) dX2_freshen_7
