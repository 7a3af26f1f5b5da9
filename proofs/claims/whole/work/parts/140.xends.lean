set_option maxHeartbeats 400000 in
set_option maxRecDepth 100000 in
theorem c_X9_tellEnds (l : Launch) (D : va_G) (cA : Nat → ClassId) (B0 : Nat) (ad : kA) (hal : mAl ad) (S : sS) (d0 : kD) (hM : InvX cA ad S d0) (pp dd : Nat) (x : Int64) (hp : pp < S 7 0) (hd : dd < 400) (hx0 : d0.2.1 6 pp 12 = x) (hSp : SP S d0) : oM l yX9_tellEnds wX9_tellEnds 4 0 0 D cA B0 ad d0 ([.ref (ad.1 0 0), .ref (ad.1 6 pp), .int (nI dd)] : List Value) (oQv D cA B0 ad (fun d1 => XR cA ad S d0 d1 ∧ TR 4 (enR (enL S pp dd x 64)) d1 ∧ SP S d1 ∧ d1.2.1 = d0.2.1)) := by
  refine o_ofW (cc := cX9_tellEnds) (maxL := 8) (ret := none) (by decide) rfl (Nat.le_of_ble_eq_true rfl) ?_
  intro p e s m below meth c hx hb hr hml hts hown hlocks hnm hK hW hB hS ls hl
  have hu : ∀ w ∈ UW, w.before _ s = true := fun w h => hts w (uw_c w h)
  have hl : lv_has ls 8 [(0, .ref (ad.1 0 0)), (1, .ref (ad.1 6 pp)), (2, .int (nI dd))] := hl
  have hX := hM.1
  have hA := hX.1
  have hG := hX.2.2
  have hb7 : S 7 0 ≤ 8 := hG.f 7 (mx := 8) (by decide)
  have hb11 : S 11 0 ≤ 20 := hG.f 11 (mx := 20) (by decide)
  have hb18 : S 18 0 ≤ 40 := hG.f 18 (mx := 40) (by decide)
  have hI : XR cA ad S d0 d0 := XR.start hM
  refine lv_aload_n hx hb dX9_tellEnds_0 rfl (lv_at hl 1 rfl) ?_
  refine lv_iload_n hx hb dX9_tellEnds_1 rfl (lv_at hl 2 rfl) ?_
  refine o_callv (o_runV (As := [.int (nI dd)]) (rest := []) ⟨hx, hb, hml, hown, hu⟩ (c_X5_goTo l D cA B0 ad hal S d0 hI.1 pp dd (by omega) (by omega)) (gV_X9_141 (fun _ h => h)) (n0 := 1) rfl (by decide +kernel) rfl ⟨Nat.le_of_ble_eq_true rfl, Nat.le_of_ble_eq_true rfl⟩ (o_recv hK hW (hA.pier (by omega)) (kX_6 _ _ _ _) rfl) hK hW hB hS hl.1 rfl (lv_room (Nat.le_of_ble_eq_true rfl)) ⟨Nat.zero_le _, Nat.zero_le _⟩ dX9_tellEnds_2) hS (fun dG q_2 H locs hW hS => ?_)
  obtain ⟨hq, hat, hF1⟩ := q_2
  have hI := hI.w hq
  have hSp := hSp.fr hq.2.wx
  refine n_sipush (v := 200) hx hb dX9_tellEnds_5 (by decide) ?_
  refine lv_istore_n (lv' := [(3, .int (nI 200)), (0, .ref (ad.1 0 0)), (1, .ref (ad.1 6 pp)), (2, .int (nI dd))]) hx hb dX9_tellEnds_8 rfl hl (by decide) rfl (fun ls hl => ?_)
  refine n_iconst (v := 0) hx hb dX9_tellEnds_9 (by decide) ?_
  refine lv_istore (lv' := [(4, .int (nI 0)), (3, .int (nI 200)), (0, .ref (ad.1 0 0)), (1, .ref (ad.1 6 pp)), (2, .int (nI dd))]) hx hb dX9_tellEnds_10 hl (by decide) rfl (fun ls hl => ?_)
  refine n_sipush (v := 200) hx hb dX9_tellEnds_12 (by decide) ?_
  refine lv_istore (lv' := [(5, .int (nI 200)), (4, .int (nI 0)), (3, .int (nI 200)), (0, .ref (ad.1 0 0)), (1, .ref (ad.1 6 pp)), (2, .int (nI dd))]) hx hb dX9_tellEnds_15 hl (by decide) rfl (fun ls hl => ?_)
  refine n_iconst (v := 0) hx hb dX9_tellEnds_17 (by decide) ?_
  refine lv_istore (lv' := [(6, .int (nI 0)), (5, .int (nI 200)), (4, .int (nI 0)), (3, .int (nI 200)), (0, .ref (ad.1 0 0)), (1, .ref (ad.1 6 pp)), (2, .int (nI dd))]) hx hb dX9_tellEnds_18 hl (by decide) rfl (fun ls hl => ?_)
  refine n_iconst (v := 0) hx hb dX9_tellEnds_20 (by decide) ?_
  refine lv_istore (lv' := [(7, .int (nI 0)), (6, .int (nI 0)), (5, .int (nI 200)), (4, .int (nI 0)), (3, .int (nI 200)), (0, .ref (ad.1 0 0)), (1, .ref (ad.1 6 pp)), (2, .int (nI dd))]) hx hb dX9_tellEnds_21 hl (by decide) rfl (fun ls hl => ?_)
  have lp23 : ∀ (n : Nat) (ea : Nat) (eb : Nat) (ec : Nat) (ee : Nat) (k : Nat)  (H : Heap) (locs : List Loc) (ls : Array Slot), 64 - k < n → (k ≤ 64) → ((ea, eb, ec, ee) = enL S pp dd x k) → oW D cA B0 ad dG H → va_S (oA B0) s.heap H locs → lv_has ls 8 [(0, .ref (ad.1 0 0)), (1, .ref (ad.1 6 pp)), (2, .int (nI dd)), (3, .int (nI ea)), (4, .int (nI eb)), (5, .int (nI ec)), (6, .int (nI ee)), (7, .int (nI k))] → W p l e (oR 4 0 0) s m ([.ref (ad.1 0 0), .ref (ad.1 6 pp), .int (nI dd)] : List Value).toArray below meth c H locs 0 0 (MQ below (oQv D cA B0 ad (fun d1 => XR cA ad S d0 d1 ∧ TR 4 (enR (enL S pp dd x 64)) d1 ∧ SP S d1 ∧ d1.2.1 = d0.2.1)) ([.ref (ad.1 0 0), .ref (ad.1 6 pp), .int (nI dd)] : List Value).toArray s 0 0 (oA B0)) (F0 m 23 ls []) := by
    intro n
    induction n with
    | zero => intro ea eb ec ee k  H locs ls hmu; exact absurd hmu (Nat.not_lt_zero _)
    | succ n ih_lp23 =>
      intro ea eb ec ee k  H locs ls hmu hk heq hW hS hl
      have hel := enL_le hG (p := pp) (by omega) dd x k
      rw [← heq] at hel
      dsimp only at hel
      refine lv_iload hx hb dX9_tellEnds_23 (lv_at hl 7 rfl) ?_
      refine n_bipush (v := 64) hx hb dX9_tellEnds_25 (by decide) ?_
      refine n_icmp_ge (tgt := 98) hx hb (by omega) (by omega) dX9_tellEnds_27 (by decide) (fun c_3 => ?_) (fun c_3 => ?_)
      · have hk64 : k = 64 := by omega
        subst hk64
        have hJ : dG.2.1 = d0.2.1 := by rw [hF1.2]
        refine lv_aload_n hx hb dX9_tellEnds_98 rfl (lv_at hl 0 rfl) ?_
        refine x_gr hx hb hu in_X9 hown hK hW (hA.o (k := 0) rfl) (kX_0 _ _ _ _) rfl 6 (by decide) uF_X9_37 (hA.f 6 (k := 11) (i := 0) (by decide) (hA.o (k := 11) rfl)) dX9_tellEnds_99 ?_
        refine o_callv (o_runV (As := []) (rest := []) ⟨hx, hb, hml, hown, hu⟩ (c_X3_clear l D cA B0 ad hal S dG hI.1.1) (gV_X9_174 (fun _ h => h)) (n0 := 0) rfl (by decide +kernel) rfl ⟨Nat.le_of_ble_eq_true rfl, Nat.le_of_ble_eq_true rfl⟩ (o_recv hK hW (hA.o (k := 11) rfl) (kX_11 _ _ _ _) rfl) hK hW hB hS hl.1 rfl (lv_room (Nat.le_of_ble_eq_true rfl)) ⟨Nat.zero_le _, Nat.zero_le _⟩ dX9_tellEnds_102) hS (fun d_4 q_6 H locs hW hS => ?_)
        subst q_6
        have hI := hI.k12 11 0 1 (nI 0) (by decide)
        have hT := TR.zero (fun _ => 0) dG
        have hSp := hSp.k 11 0 1 (nI 0) (by decide)
        refine lv_aload_n hx hb dX9_tellEnds_105 rfl (lv_at hl 0 rfl) ?_
        refine x_gr hx hb hu in_X9 hown hK hW (hA.o (k := 0) rfl) (kX_0 _ _ _ _) rfl 6 (by decide) uF_X9_37 (hA.f 6 (k := 11) (i := 0) (by decide) (hA.o (k := 11) rfl)) dX9_tellEnds_106 ?_
        refine lv_iload_n hx hb dX9_tellEnds_109 rfl (lv_at hl 3 rfl) ?_
        refine o_callv (o_runV (As := [.int (nI ea)]) (rest := []) ⟨hx, hb, hml, hown, hu⟩ (c_X3_put l D cA B0 ad hal S (uI dG 11 0 1 (nI 0)) hI.1.1 0 (nI ea) (by omega) hT.1) (gV_X9_177 (fun _ h => h)) (n0 := 1) rfl (by decide +kernel) rfl ⟨Nat.le_of_ble_eq_true rfl, Nat.le_of_ble_eq_true rfl⟩ (o_recv hK hW (hA.o (k := 11) rfl) (kX_11 _ _ _ _) rfl) hK hW hB hS hl.1 rfl (lv_room (Nat.le_of_ble_eq_true rfl)) ⟨Nat.zero_le _, Nat.zero_le _⟩ dX9_tellEnds_110) hS (fun d_7 q_9 H locs hW hS => ?_)
        subst q_9
        have hI := hI.k12 12 0 0 (nI ea) (by decide)
        have hI := hI.k12 11 0 1 (nI (0 + 1)) (by decide)
        have hT := hT.tell (nI ea)
        have hSp := (hSp.k 12 0 0 (nI ea) (by decide)).k 11 0 1 (nI (0 + 1)) (by decide)
        refine lv_aload_n hx hb dX9_tellEnds_113 rfl (lv_at hl 0 rfl) ?_
        refine x_gr hx hb hu in_X9 hown hK hW (hA.o (k := 0) rfl) (kX_0 _ _ _ _) rfl 6 (by decide) uF_X9_37 (hA.f 6 (k := 11) (i := 0) (by decide) (hA.o (k := 11) rfl)) dX9_tellEnds_114 ?_
        refine lv_iload hx hb dX9_tellEnds_117 (lv_at hl 4 rfl) ?_
        refine o_callv (o_runV (As := [.int (nI eb)]) (rest := []) ⟨hx, hb, hml, hown, hu⟩ (c_X3_put l D cA B0 ad hal S (uI (uI (uI dG 11 0 1 (nI 0)) 12 0 0 (nI ea)) 11 0 1 (nI (0 + 1))) hI.1.1 1 (nI eb) (by omega) hT.1) (gV_X9_177 (fun _ h => h)) (n0 := 1) rfl (by decide +kernel) rfl ⟨Nat.le_of_ble_eq_true rfl, Nat.le_of_ble_eq_true rfl⟩ (o_recv hK hW (hA.o (k := 11) rfl) (kX_11 _ _ _ _) rfl) hK hW hB hS hl.1 rfl (lv_room (Nat.le_of_ble_eq_true rfl)) ⟨Nat.zero_le _, Nat.zero_le _⟩ dX9_tellEnds_119) hS (fun d_10 q_12 H locs hW hS => ?_)
        subst q_12
        have hI := hI.k12 12 0 1 (nI eb) (by decide)
        have hI := hI.k12 11 0 1 (nI (1 + 1)) (by decide)
        have hT := hT.tell (nI eb)
        have hSp := (hSp.k 12 0 1 (nI eb) (by decide)).k 11 0 1 (nI (1 + 1)) (by decide)
        refine lv_aload_n hx hb dX9_tellEnds_122 rfl (lv_at hl 0 rfl) ?_
        refine x_gr hx hb hu in_X9 hown hK hW (hA.o (k := 0) rfl) (kX_0 _ _ _ _) rfl 6 (by decide) uF_X9_37 (hA.f 6 (k := 11) (i := 0) (by decide) (hA.o (k := 11) rfl)) dX9_tellEnds_123 ?_
        refine lv_iload hx hb dX9_tellEnds_126 (lv_at hl 5 rfl) ?_
        refine o_callv (o_runV (As := [.int (nI ec)]) (rest := []) ⟨hx, hb, hml, hown, hu⟩ (c_X3_put l D cA B0 ad hal S (uI (uI (uI (uI (uI dG 11 0 1 (nI 0)) 12 0 0 (nI ea)) 11 0 1 (nI (0 + 1))) 12 0 1 (nI eb)) 11 0 1 (nI (1 + 1))) hI.1.1 2 (nI ec) (by omega) hT.1) (gV_X9_177 (fun _ h => h)) (n0 := 1) rfl (by decide +kernel) rfl ⟨Nat.le_of_ble_eq_true rfl, Nat.le_of_ble_eq_true rfl⟩ (o_recv hK hW (hA.o (k := 11) rfl) (kX_11 _ _ _ _) rfl) hK hW hB hS hl.1 rfl (lv_room (Nat.le_of_ble_eq_true rfl)) ⟨Nat.zero_le _, Nat.zero_le _⟩ dX9_tellEnds_128) hS (fun d_13 q_15 H locs hW hS => ?_)
        subst q_15
        have hI := hI.k12 12 0 2 (nI ec) (by decide)
        have hI := hI.k12 11 0 1 (nI (2 + 1)) (by decide)
        have hT := hT.tell (nI ec)
        have hSp := (hSp.k 12 0 2 (nI ec) (by decide)).k 11 0 1 (nI (2 + 1)) (by decide)
        refine lv_aload_n hx hb dX9_tellEnds_131 rfl (lv_at hl 0 rfl) ?_
        refine x_gr hx hb hu in_X9 hown hK hW (hA.o (k := 0) rfl) (kX_0 _ _ _ _) rfl 6 (by decide) uF_X9_37 (hA.f 6 (k := 11) (i := 0) (by decide) (hA.o (k := 11) rfl)) dX9_tellEnds_132 ?_
        refine lv_iload hx hb dX9_tellEnds_135 (lv_at hl 6 rfl) ?_
        refine o_callv (o_runV (As := [.int (nI ee)]) (rest := []) ⟨hx, hb, hml, hown, hu⟩ (c_X3_put l D cA B0 ad hal S (uI (uI (uI (uI (uI (uI (uI dG 11 0 1 (nI 0)) 12 0 0 (nI ea)) 11 0 1 (nI (0 + 1))) 12 0 1 (nI eb)) 11 0 1 (nI (1 + 1))) 12 0 2 (nI ec)) 11 0 1 (nI (2 + 1))) hI.1.1 3 (nI ee) (by omega) hT.1) (gV_X9_177 (fun _ h => h)) (n0 := 1) rfl (by decide +kernel) rfl ⟨Nat.le_of_ble_eq_true rfl, Nat.le_of_ble_eq_true rfl⟩ (o_recv hK hW (hA.o (k := 11) rfl) (kX_11 _ _ _ _) rfl) hK hW hB hS hl.1 rfl (lv_room (Nat.le_of_ble_eq_true rfl)) ⟨Nat.zero_le _, Nat.zero_le _⟩ dX9_tellEnds_137) hS (fun d_16 q_18 H locs hW hS => ?_)
        subst q_18
        have hI := hI.k12 12 0 3 (nI ee) (by decide)
        have hI := hI.k12 11 0 1 (nI (3 + 1)) (by decide)
        have hT := hT.tell (nI ee)
        have hSp := (hSp.k 12 0 3 (nI ee) (by decide)).k 11 0 1 (nI (3 + 1)) (by decide)
        exact o_vret hx hb hr hlocks hW hS (⟨hI, by rw [show enL S pp dd x 64 = (ea, eb, ec, ee) from heq.symm]; exact hT, hSp, hJ⟩) dX9_tellEnds_140
      · refine lv_aload_n hx hb dX9_tellEnds_30 rfl (lv_at hl 1 rfl) ?_
        refine x_gl hx hb hu in_X5 hown hK hW (hA.pier (by omega)) (kX_6 _ _ _ _) rfl 12 (by decide) uF_X9_171 dX9_tellEnds_31 ?_
        refine n_topl (y := x) (by rw [hF1.2]; exact hx0) ?_
        refine lv_iload hx hb dX9_tellEnds_34 (lv_at hl 7 rfl) ?_
        refine o_calli (o_runS (As := [.long x, .int (nI k)]) (rest := []) ⟨hx, hb, hml, hown, hu⟩ (c_X9_holds l D cA B0 ad hal dG x k (by omega)) (gS_X9_167 (fun _ h => h)) (n0 := 2) rfl (by decide +kernel) rfl ⟨Nat.le_of_ble_eq_true rfl, Nat.le_of_ble_eq_true rfl⟩ hK hW hB hS hl.1 rfl (lv_room (Nat.le_of_ble_eq_true rfl)) ⟨Nat.zero_le _, Nat.zero_le _⟩ dX9_tellEnds_36) hS (fun r_20 d_19 q_21 H locs hW hS => ?_)
        obtain ⟨rfl, rfl⟩ := q_21
        refine lv_if_eq (tgt := 92) hx hb dX9_tellEnds_39 (by decide) (fun c_h => ?_) (fun c_h => ?_)
        · have hst : enL S pp dd x (k + 1) = (enL S pp dd x k) := by rw [enL, if_neg (by rw [bI_z c_h]; decide)]
          refine n_iinc (q := 1) (lv' := [(7, .int (nI (k + 1))), (0, .ref (ad.1 0 0)), (1, .ref (ad.1 6 pp)), (2, .int (nI dd)), (3, .int (nI ea)), (4, .int (nI eb)), (5, .int (nI ec)), (6, .int (nI ee))]) hx hb dX9_tellEnds_92 hl (k := 7) rfl (by decide) (by decide) rfl (fun ls hl => ?_)
          refine lv_goto (tgt := 23) hx hb dX9_tellEnds_95 (by decide) ?_
          exact ih_lp23 ea eb ec ee (k + 1) _ _ ls (by omega) (by omega) (by rw [hst, ← heq]) hW hS (lv_sub hl [1, 2, 3, 4, 5, 6, 7, 0] rfl)
        · have hst : enL S pp dd x (k + 1) = (min (enL S pp dd x k).1 (sHE S pp k (dd + 1)).1, max (enL S pp dd x k).2.1 (sHE S pp k (dd + 1)).1, min (enL S pp dd x k).2.2.1 (sHE S pp k (dd + 1)).2, max (enL S pp dd x k).2.2.2 (sHE S pp k (dd + 1)).2) := by rw [enL, if_pos (bI_n c_h)]; rfl
          have hle := sHE_le hG (p := pp) (m := k) (by omega) (dd + 1)
          refine lv_iload_n hx hb dX9_tellEnds_42 rfl (lv_at hl 3 rfl) ?_
          refine lv_aload_n hx hb dX9_tellEnds_43 rfl (lv_at hl 1 rfl) ?_
          refine lv_iload hx hb dX9_tellEnds_44 (lv_at hl 7 rfl) ?_
          refine o_calli (o_runV (As := [.int (nI k)]) (rest := [.int (nI ea)]) ⟨hx, hb, hml, hown, hu⟩ (c_X5_holeBy l D cA B0 ad hal S dG hI.1.1 pp k (dd + 1) (by omega) (by omega) hat) (gV_X9_144 (fun _ h => h)) (n0 := 1) rfl (by decide +kernel) rfl ⟨Nat.le_of_ble_eq_true rfl, Nat.le_of_ble_eq_true rfl⟩ (o_recv hK hW (hA.pier (by omega)) (kX_6 _ _ _ _) rfl) hK hW hB hS hl.1 rfl (lv_room (Nat.le_of_ble_eq_true rfl)) ⟨Nat.zero_le _, Nat.zero_le _⟩ dX9_tellEnds_46) hS (fun r_23 d_22 q_24 H locs hW hS => ?_)
          obtain ⟨rfl, rfl⟩ := q_24
          refine va_mmin hx hb (hml.trans hl.1.symm) hown (hu _ uM_X9_93) (hu _ uT_J9_min_7cf53) (hu _ uI_J9) (hu _ uC_J9_min_7cf53) (Nat.le_of_ble_eq_true rfl) (Nat.le_of_ble_eq_true rfl) (Nat.le_of_ble_eq_true rfl) (Nat.le_of_ble_eq_true rfl) dX9_tellEnds_49 ?_
          refine n_topi (y := nI (min ea ((sHE S pp k (dd + 1)).1))) (n_min (by omega) (by omega)) ?_
          refine lv_istore_n (lv' := [(3, .int (nI (min ea ((sHE S pp k (dd + 1)).1)))), (0, .ref (ad.1 0 0)), (1, .ref (ad.1 6 pp)), (2, .int (nI dd)), (4, .int (nI eb)), (5, .int (nI ec)), (6, .int (nI ee)), (7, .int (nI k))]) hx hb dX9_tellEnds_52 rfl hl (by decide) rfl (fun ls hl => ?_)
          refine lv_iload hx hb dX9_tellEnds_53 (lv_at hl 4 rfl) ?_
          refine lv_aload_n hx hb dX9_tellEnds_55 rfl (lv_at hl 2 rfl) ?_
          refine lv_iload hx hb dX9_tellEnds_56 (lv_at hl 7 rfl) ?_
          refine o_calli (o_runV (As := [.int (nI k)]) (rest := [.int (nI eb)]) ⟨hx, hb, hml, hown, hu⟩ (c_X5_holeBy l D cA B0 ad hal S dG hI.1.1 pp k (dd + 1) (by omega) (by omega) hat) (gV_X9_144 (fun _ h => h)) (n0 := 1) rfl (by decide +kernel) rfl ⟨Nat.le_of_ble_eq_true rfl, Nat.le_of_ble_eq_true rfl⟩ (o_recv hK hW (hA.pier (by omega)) (kX_6 _ _ _ _) rfl) hK hW hB hS hl.1 rfl (lv_room (Nat.le_of_ble_eq_true rfl)) ⟨Nat.zero_le _, Nat.zero_le _⟩ dX9_tellEnds_58) hS (fun r_26 d_25 q_27 H locs hW hS => ?_)
          obtain ⟨rfl, rfl⟩ := q_27
          refine va_mmax hx hb (hml.trans hl.1.symm) hown (hu _ uM_X9_98) (hu _ uT_J9_max_7cf53) (hu _ uI_J9) (hu _ uC_J9_max_7cf53) (Nat.le_of_ble_eq_true rfl) (Nat.le_of_ble_eq_true rfl) (Nat.le_of_ble_eq_true rfl) (Nat.le_of_ble_eq_true rfl) dX9_tellEnds_61 ?_
          refine n_topi (y := nI (max eb ((sHE S pp k (dd + 1)).1))) (n_max (by omega) (by omega)) ?_
          refine lv_istore (lv' := [(4, .int (nI (max eb ((sHE S pp k (dd + 1)).1)))), (3, .int (nI (min ea ((sHE S pp k (dd + 1)).1)))), (0, .ref (ad.1 0 0)), (1, .ref (ad.1 6 pp)), (2, .int (nI dd)), (5, .int (nI ec)), (6, .int (nI ee)), (7, .int (nI k))]) hx hb dX9_tellEnds_64 hl (by decide) rfl (fun ls hl => ?_)
          refine lv_iload hx hb dX9_tellEnds_66 (lv_at hl 5 rfl) ?_
          refine lv_aload_n hx hb dX9_tellEnds_68 rfl (lv_at hl 3 rfl) ?_
          refine lv_iload hx hb dX9_tellEnds_69 (lv_at hl 7 rfl) ?_
          refine o_calli (o_runV (As := [.int (nI k)]) (rest := [.int (nI ec)]) ⟨hx, hb, hml, hown, hu⟩ (c_X5_everBy l D cA B0 ad hal S dG hI.1.1 pp k (dd + 1) (by omega) (by omega) hat) (gV_X9_148 (fun _ h => h)) (n0 := 1) rfl (by decide +kernel) rfl ⟨Nat.le_of_ble_eq_true rfl, Nat.le_of_ble_eq_true rfl⟩ (o_recv hK hW (hA.pier (by omega)) (kX_6 _ _ _ _) rfl) hK hW hB hS hl.1 rfl (lv_room (Nat.le_of_ble_eq_true rfl)) ⟨Nat.zero_le _, Nat.zero_le _⟩ dX9_tellEnds_71) hS (fun r_29 d_28 q_30 H locs hW hS => ?_)
          obtain ⟨rfl, rfl⟩ := q_30
          refine va_mmin hx hb (hml.trans hl.1.symm) hown (hu _ uM_X9_93) (hu _ uT_J9_min_7cf53) (hu _ uI_J9) (hu _ uC_J9_min_7cf53) (Nat.le_of_ble_eq_true rfl) (Nat.le_of_ble_eq_true rfl) (Nat.le_of_ble_eq_true rfl) (Nat.le_of_ble_eq_true rfl) dX9_tellEnds_74 ?_
          refine n_topi (y := nI (min ec ((sHE S pp k (dd + 1)).2))) (n_min (by omega) (by omega)) ?_
          refine lv_istore (lv' := [(5, .int (nI (min ec ((sHE S pp k (dd + 1)).2)))), (4, .int (nI (max eb ((sHE S pp k (dd + 1)).1)))), (3, .int (nI (min ea ((sHE S pp k (dd + 1)).1)))), (0, .ref (ad.1 0 0)), (1, .ref (ad.1 6 pp)), (2, .int (nI dd)), (6, .int (nI ee)), (7, .int (nI k))]) hx hb dX9_tellEnds_77 hl (by decide) rfl (fun ls hl => ?_)
          refine lv_iload hx hb dX9_tellEnds_79 (lv_at hl 6 rfl) ?_
          refine lv_aload_n hx hb dX9_tellEnds_81 rfl (lv_at hl 4 rfl) ?_
          refine lv_iload hx hb dX9_tellEnds_82 (lv_at hl 7 rfl) ?_
          refine o_calli (o_runV (As := [.int (nI k)]) (rest := [.int (nI ee)]) ⟨hx, hb, hml, hown, hu⟩ (c_X5_everBy l D cA B0 ad hal S dG hI.1.1 pp k (dd + 1) (by omega) (by omega) hat) (gV_X9_148 (fun _ h => h)) (n0 := 1) rfl (by decide +kernel) rfl ⟨Nat.le_of_ble_eq_true rfl, Nat.le_of_ble_eq_true rfl⟩ (o_recv hK hW (hA.pier (by omega)) (kX_6 _ _ _ _) rfl) hK hW hB hS hl.1 rfl (lv_room (Nat.le_of_ble_eq_true rfl)) ⟨Nat.zero_le _, Nat.zero_le _⟩ dX9_tellEnds_84) hS (fun r_32 d_31 q_33 H locs hW hS => ?_)
          obtain ⟨rfl, rfl⟩ := q_33
          refine va_mmax hx hb (hml.trans hl.1.symm) hown (hu _ uM_X9_98) (hu _ uT_J9_max_7cf53) (hu _ uI_J9) (hu _ uC_J9_max_7cf53) (Nat.le_of_ble_eq_true rfl) (Nat.le_of_ble_eq_true rfl) (Nat.le_of_ble_eq_true rfl) (Nat.le_of_ble_eq_true rfl) dX9_tellEnds_87 ?_
          refine n_topi (y := nI (max ee ((sHE S pp k (dd + 1)).2))) (n_max (by omega) (by omega)) ?_
          refine lv_istore (lv' := [(6, .int (nI (max ee ((sHE S pp k (dd + 1)).2)))), (5, .int (nI (min ec ((sHE S pp k (dd + 1)).2)))), (4, .int (nI (max eb ((sHE S pp k (dd + 1)).1)))), (3, .int (nI (min ea ((sHE S pp k (dd + 1)).1)))), (0, .ref (ad.1 0 0)), (1, .ref (ad.1 6 pp)), (2, .int (nI dd)), (7, .int (nI k))]) hx hb dX9_tellEnds_90 hl (by decide) rfl (fun ls hl => ?_)
          refine n_iinc (q := 1) (lv' := [(7, .int (nI (k + 1))), (6, .int (nI (max ee ((sHE S pp k (dd + 1)).2)))), (5, .int (nI (min ec ((sHE S pp k (dd + 1)).2)))), (4, .int (nI (max eb ((sHE S pp k (dd + 1)).1)))), (3, .int (nI (min ea ((sHE S pp k (dd + 1)).1)))), (0, .ref (ad.1 0 0)), (1, .ref (ad.1 6 pp)), (2, .int (nI dd))]) hx hb dX9_tellEnds_92 hl (k := 7) rfl (by decide) (by decide) rfl (fun ls hl => ?_)
          refine lv_goto (tgt := 23) hx hb dX9_tellEnds_95 (by decide) ?_
          exact ih_lp23 (min ea ((sHE S pp k (dd + 1)).1)) (max eb ((sHE S pp k (dd + 1)).1)) (min ec ((sHE S pp k (dd + 1)).2)) (max ee ((sHE S pp k (dd + 1)).2)) (k + 1) _ _ ls (by omega) (by omega) (by rw [hst, ← heq]) hW hS (lv_sub hl [5, 6, 7, 4, 3, 2, 1, 0] rfl)
  exact lp23 (65) 200 0 200 0 0 _ _ ls (by omega) (by omega) rfl hW hS (lv_sub hl [5, 6, 7, 4, 3, 2, 1, 0] rfl)

set_option maxHeartbeats 400000 in
set_option maxRecDepth 100000 in
theorem c_X9_ends (l : Launch) (D : va_G) (cA : Nat → ClassId) (B0 : Nat) (ad : kA) (hal : mAl ad) (S : sS) (sr : Nat → Int32) (d0 : kD) (hM : InvX cA ad S d0) (hR : RowX S sr d0) (pi day : Int32) : oM l yX9_ends wX9_ends 7 0 0 D cA B0 ad d0 ([.ref (ad.1 0 0), .int pi, .int day] : List Value) (oQi D cA B0 ad (fun r d1 => r = aEnds S pi day ∧ PX cA ad (nEnds S pi day) (rEnds S sr pi day) d0 d1)) := by
  refine o_ofW (cc := cX9_ends) (maxL := 4) (ret := some .int) (by decide) rfl (Nat.le_of_ble_eq_true rfl) ?_
  intro p e s m below meth c hx hb hr hml hts hown hlocks hnm hK hW hB hS ls hl
  have hu : ∀ w ∈ UW, w.before _ s = true := fun w h => hts w (uw_c w h)
  have hl : lv_has ls 4 [(0, .ref (ad.1 0 0)), (1, .int pi), (2, .int day)] := hl
  have hX := hM.1
  have hA := hX.1
  have hG := hX.2.2
  have hb7 : S 7 0 ≤ 8 := hG.f 7 (mx := 8) (by decide)
  have hb11 : S 11 0 ≤ 20 := hG.f 11 (mx := 20) (by decide)
  have hb18 : S 18 0 ≤ 40 := hG.f 18 (mx := 40) (by decide)
  have hI : XX cA ad S d0 d0 := XX.start hM
  have hb1 : S 1 0 ≤ 4 := hG.f 1 (mx := 4) (by decide)
  have hb19 : S 19 0 ≤ 399 := hG.f 19 (mx := 399) (by decide)
  have hb22 : S 22 0 ≤ 64 := hG.f 22 (mx := 64) (by decide)
  have hb25 : S 25 0 ≤ 4 := hG.f 25 (mx := 4) (by decide)
  have hb30 : S 30 0 ≤ 10 := hG.f 30 (mx := 10) (by decide)
  have hb32 : S 32 0 ≤ 64 := hG.f 32 (mx := 64) (by decide)
  refine lv_aload_n hx hb dX9_ends_0 rfl (lv_at hl 0 rfl) ?_
  refine lv_iload_n hx hb dX9_ends_1 rfl (lv_at hl 1 rfl) ?_
  refine o_callq (o_runV (As := [.int pi]) (rest := []) ⟨hx, hb, hml, hown, hu⟩ (c_X9_pierOf l D cA B0 ad hal S d0 hI.1.1 pi) (gV_X9_126 (fun _ h => h)) (n0 := 1) rfl (by decide +kernel) rfl ⟨Nat.le_of_ble_eq_true rfl, Nat.le_of_ble_eq_true rfl⟩ (o_recv hK hW (hA.o (k := 0) rfl) (kX_0 _ _ _ _) rfl) hK hW hB hS hl.1 rfl (lv_room (Nat.le_of_ble_eq_true rfl)) ⟨Nat.zero_le _, Nat.zero_le _⟩ dX9_ends_2) hS (fun r_2 d_1 q_3 H locs hW hS => ?_)
  obtain ⟨rfl, rfl⟩ := q_3
  cases o_4 : ix pi (S 7 0) with
  | false =>
    refine W.eq (g2 := F0 m 5 ls [.null]) rfl ?_
    refine lv_astore_nN (lv' := [(3, .null), (0, .ref (ad.1 0 0)), (1, .int pi), (2, .int day)]) hx hb dX9_ends_5 rfl hl (by decide) rfl (fun ls hl => ?_)
    refine lv_aload_nN hx hb dX9_ends_6 rfl (lv_at hl 0 rfl) ?_
    refine lv_ifnullN (tgt := 17) hx hb dX9_ends_7 (by decide) ?_
    refine lv_iconst (v := -1) hx hb dX9_ends_17 (by decide) ?_
    exact o_iret hx hb hr hlocks hW hS (⟨by simp only [aEnds, o_4, eq_self, ↓reduceIte, Bool.false_eq_true], by simp only [nEnds, rEnds, o_4, eq_self, ↓reduceIte, Bool.false_eq_true]; exact hI.pub hR⟩) dX9_ends_18
  | true =>
    obtain ⟨pin, hpin, rfl⟩ := ix_t o_4 (by omega)
    refine W.eq (g2 := F0 m 5 ls [.ref (ad.1 6 pin)]) (by rw [if_pos rfl, nx_nI (by omega)]; rfl) ?_
    refine lv_astore_n (lv' := [(3, .ref (ad.1 6 pin)), (0, .ref (ad.1 0 0)), (1, .int (nI pin)), (2, .int day)]) hx hb dX9_ends_5 rfl hl (by decide) rfl (fun ls hl => ?_)
    refine lv_aload_n hx hb dX9_ends_6 rfl (lv_at hl 0 rfl) ?_
    refine lv_ifnull hx hb dX9_ends_7 ?_
    refine lv_iload_n hx hb dX9_ends_10 rfl (lv_at hl 3 rfl) ?_
    refine o_calli (o_runS (As := [.int day]) (rest := []) ⟨hx, hb, hml, hown, hu⟩ (c_X9_isDay l D cA B0 ad hal d0 day) (gS_X9_81 (fun _ h => h)) (n0 := 1) rfl (by decide +kernel) rfl ⟨Nat.le_of_ble_eq_true rfl, Nat.le_of_ble_eq_true rfl⟩ hK hW hB hS hl.1 rfl (lv_room (Nat.le_of_ble_eq_true rfl)) ⟨Nat.zero_le _, Nat.zero_le _⟩ dX9_ends_11) hS (fun r_6 d_5 q_7 H locs hW hS => ?_)
    obtain ⟨rfl, rfl⟩ := q_7
    refine lv_if_ne (tgt := 19) hx hb dX9_ends_14 (by decide) (fun c_8 => ?_) (fun c_8 => ?_)
    · obtain ⟨dayn, hdayn, rfl⟩ := ix_t (bI_n c_8) (by omega)
      refine lv_aload_n hx hb dX9_ends_19 rfl (lv_at hl 1 rfl) ?_
      refine lv_aload_n hx hb dX9_ends_20 rfl (lv_at hl 1 rfl) ?_
      refine x_gi hx hb hu in_X9 hown hK hW (hA.o (k := 0) rfl) (kX_0 _ _ _ _) rfl 15 (by decide) uF_X9_78 dX9_ends_21 ?_
      refine n_topi (y := nI (S 19 0)) (hI.1.1.2.1.as) ?_
      have b_9 : S 19 0 ≤ 399 := hG.f 19 (mx := 399) (by decide)
      refine o_callv (o_runV (As := [.int (nI (S 19 0))]) (rest := []) ⟨hx, hb, hml, hown, hu⟩ (c_X9_findKept l D cA B0 ad hal S d0 hI.1 (S 19 0) (by omega)) (gV_X9_160 (fun _ h => h)) (n0 := 1) rfl (by decide +kernel) rfl ⟨Nat.le_of_ble_eq_true rfl, Nat.le_of_ble_eq_true rfl⟩ (o_recv hK hW (hA.o (k := 0) rfl) (kX_0 _ _ _ _) rfl) hK hW hB hS hl.1 rfl (lv_room (Nat.le_of_ble_eq_true rfl)) ⟨Nat.zero_le _, Nat.zero_le _⟩ dX9_ends_24) hS (fun d_10 q_12 H locs hW hS => ?_)
      obtain ⟨hq, hKP⟩ := q_12
      have hI := hI.k hq
      refine lv_aload_n hx hb dX9_ends_27 rfl (lv_at hl 0 rfl) ?_
      refine x_gl hx hb hu in_X5 hown hK hW (hA.pier (by omega)) (kX_6 _ _ _ _) rfl 12 (by decide) uF_X9_171 dX9_ends_28 ?_
      refine n_topl (y := (sKept S pin (S 19 0))) ((hKP.1 pin (by omega)).2) ?_
      refine lv_lconst (v := 0) hx hb dX9_ends_31 (by decide) ?_
      refine W.lcmp hx hb dX9_ends_32 ?_
      refine lv_if_ne (tgt := 38) hx hb dX9_ends_33 (by decide) (fun c_z => ?_) (fun c_z => ?_)
      · have hz : ¬ (sKept S pin (S 19 0)) = 0 := lg0n c_z
        refine lv_aload_n hx hb dX9_ends_38 rfl (lv_at hl 1 rfl) ?_
        refine lv_aload_n hx hb dX9_ends_39 rfl (lv_at hl 0 rfl) ?_
        refine lv_iload_n hx hb dX9_ends_40 rfl (lv_at hl 3 rfl) ?_
        have hSp := hR.2.fr hI.2
        refine o_callv (o_runV (As := [.ref (ad.1 6 pin), .int (nI dayn)]) (rest := []) ⟨hx, hb, hml, hown, hu⟩ (c_X9_tellEnds l D cA B0 ad hal S d_10 hI.1 pin dayn (sKept S pin (S 19 0)) (by omega) (by omega) ((hKP.1 pin (by omega)).2) hSp) (gV_X9_241 (fun _ h => h)) (n0 := 2) rfl (by decide +kernel) rfl ⟨Nat.le_of_ble_eq_true rfl, Nat.le_of_ble_eq_true rfl⟩ (o_recv hK hW (hA.o (k := 0) rfl) (kX_0 _ _ _ _) rfl) hK hW hB hS hl.1 rfl (lv_room (Nat.le_of_ble_eq_true rfl)) ⟨Nat.zero_le _, Nat.zero_le _⟩ dX9_ends_41) hS (fun d_13 q_15 H locs hW hS => ?_)
        obtain ⟨hq, hT, hSp, hJ⟩ := q_15
        have hI : XR cA ad S d0 _ := ⟨hq.1, hI.2.frx.trans hq.2⟩
        refine lv_aload_n hx hb dX9_ends_44 rfl (lv_at hl 0 rfl) ?_
        refine x_gl hx hb hu in_X5 hown hK hW (hA.pier (by omega)) (kX_6 _ _ _ _) rfl 12 (by decide) uF_X9_171 dX9_ends_45 ?_
        refine n_topl (y := (sKept S pin (S 19 0))) (by rw [hJ]; exact (hKP.1 pin (by omega)).2) ?_
        refine o_calli (o_runS (As := [.long (sKept S pin (S 19 0))]) (rest := []) ⟨hx, hb, hml, hown, hu⟩ (c_J13_bitCount_95d88 l D cA B0 ad hal d_13 (sKept S pin (S 19 0))) (gS_X9_180 (fun _ h => h)) (n0 := 1) rfl (by decide +kernel) rfl ⟨Nat.le_of_ble_eq_true rfl, Nat.le_of_ble_eq_true rfl⟩ hK hW hB hS hl.1 rfl (lv_room (Nat.le_of_ble_eq_true rfl)) ⟨Nat.zero_le _, Nat.zero_le _⟩ dX9_ends_48) hS (fun r_17 d_16 q_18 H locs hW hS => ?_)
        obtain ⟨rfl, rfl⟩ := q_18
        have b_19 := popN_le (sKept S pin (S 19 0))
        exact o_iret hx hb hr hlocks hW hS (⟨by simp only [aEnds, ix_nI hpin (by omega), nx_nI (j := pin) (by omega), ix_nI hdayn (by omega), nx_nI (j := dayn) (by omega), hz, eq_self, ↓reduceIte, Bool.false_eq_true], by simp only [nEnds, rEnds, ix_nI hpin (by omega), nx_nI (j := pin) (by omega), ix_nI hdayn (by omega), nx_nI (j := dayn) (by omega), hz, eq_self, ↓reduceIte, Bool.false_eq_true]; exact hI.end (by omega) hT hSp⟩) dX9_ends_51
      · have hz : (sKept S pin (S 19 0)) = 0 := lg0 c_z
        refine lv_iconst (v := -1) hx hb dX9_ends_36 (by decide) ?_
        exact o_iret hx hb hr hlocks hW hS (⟨by simp only [aEnds, ix_nI hpin (by omega), nx_nI (j := pin) (by omega), ix_nI hdayn (by omega), nx_nI (j := dayn) (by omega), hz, eq_self, ↓reduceIte, Bool.false_eq_true], by simp only [nEnds, rEnds, ix_nI hpin (by omega), nx_nI (j := pin) (by omega), ix_nI hdayn (by omega), nx_nI (j := dayn) (by omega), hz, eq_self, ↓reduceIte, Bool.false_eq_true]; exact hI.pub hR⟩) dX9_ends_37
    · refine lv_iconst (v := -1) hx hb dX9_ends_17 (by decide) ?_
      exact o_iret hx hb hr hlocks hW hS (⟨by simp only [aEnds, ix_nI hpin (by omega), nx_nI (j := pin) (by omega), bI_z c_8, eq_self, ↓reduceIte, Bool.false_eq_true], by simp only [nEnds, rEnds, ix_nI hpin (by omega), nx_nI (j := pin) (by omega), bI_z c_8, eq_self, ↓reduceIte, Bool.false_eq_true]; exact hI.pub hR⟩) dX9_ends_18
